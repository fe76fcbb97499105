/-! a new message; receive -/
theorem mr_nfo (n : String) : ∀ x, narrow (.object n) (va_rf x) = va_rf x ∧ fits (.object n) (va_rf x) = true := fun x => by cases x <;> exact ⟨rfl, rfl⟩
theorem mr_nfa (t : FieldType) : ∀ x, narrow (.array t) (va_rf x) = va_rf x ∧ fits (.array t) (va_rf x) = true := fun x => by cases x <;> exact ⟨rfl, rfl⟩
def ca_new (g : ca_S) (nm fn : Int32) (u : Nat) (v : Int32) : ca_S :=
  (fun a b c => if a = 10 ∧ b = ca_nm g then (if c = 0 then nm else if c = 1 then fn else if c = 3 then v else 0) else g.1 a b c, g.2.1, fun b => if b = ca_nm g then u else g.2.2.1 b, g.2.2.2.1, ca_nm g + 1)
theorem ca_mk_eq (g : ca_S) (s n : Nat) (nm fn : Int32) (u : Nat) (v : Int32) : ca_mk g s n nm fn u v = ca_stb (ca_new g nm fn u v) s n (some (ca_nm g)) := rfl
/-- two raw states that say the same of what is there -/
theorem mr_Ceq {tys : List (ClassId × FieldType)} {sh : Nat → mr_Sh} {ad : mg_Ad} {r r' : mr_St} (hp : ∀ k, mr_pn r k = mr_pn r' k) (hi : ∀ k i f, i < mr_pn r' k → mr_iv r k i f = mr_iv r' k i f) (hl : ∀ k i f, i < mr_pn r' k → mr_lv r k i f = mr_lv r' k i f) (hr : ∀ k i f, i < mr_pn r' k → mr_rv r k i f = mr_rv r' k i f) : mr_C tys sh ad r = mr_C tys sh ad r' := by
  funext k i
  unfold mr_C
  rw [hp k]
  by_cases h : i < mr_pn r' k
  · rw [if_pos h, if_pos h]
    congr 2
    · funext f; exact hi k i f h
    · funext f; exact hl k i f h
    · funext f; rw [hr k i f h]
  · rw [if_neg h, if_neg h]
theorem ma_new {tys : List (ClassId × FieldType)} {ad : mg_Ad} (g : ca_S) (q : mr_St) (nm fn : Int32) (u : Nat) (v : Int32) : mr_C tys ma_sh ad (mr_sI (mr_sR (mr_sI (mr_sI (mr_sI (mr_sI (mr_sI (mr_sI (mr_nw (ma_R g q) 10) 10 (ca_nm g) 4 0) 10 (ca_nm g) 5 0) 10 (ca_nm g) 6 0) 10 (ca_nm g) 7 0) 10 (ca_nm g) 0 nm) 10 (ca_nm g) 1 fn) 10 (ca_nm g) 2 (some (7, u))) 10 (ca_nm g) 3 v) = mr_C tys ma_sh ad (ma_R (ca_new g nm fn u v) q) := by
  refine mr_Ceq (fun k => ?_) (fun k i f h => ?_) (fun k i f h => ?_) (fun k i f h => ?_)
  · show (if k = 10 then ca_nm g + 1 else ma_pn g q k) = ma_pn (ca_new g nm fn u v) q k
    by_cases hk : k = 10
    · subst hk
      rfl
    · rw [if_neg hk]
      unfold ma_pn
      simp only [hk, if_false]
  · show mr_u3 (mr_u3 (mr_u3 (mr_u3 (mr_u3 (mr_u3 (mr_u3 (fun a b c => if a = 10 ∧ b = ca_nm g then 0 else ma_iv g q a b c) 10 (ca_nm g) 4 0) 10 (ca_nm g) 5 0) 10 (ca_nm g) 6 0) 10 (ca_nm g) 7 0) 10 (ca_nm g) 0 nm) 10 (ca_nm g) 1 fn) 10 (ca_nm g) 3 v k i f = ma_iv (ca_new g nm fn u v) q k i f
    by_cases hk : k = 10 ∧ i = ca_nm g
    · obtain ⟨rfl, rfl⟩ := hk
      have e : ma_iv (ca_new g nm fn u v) q 10 (ca_nm g) f = if f = 0 then nm else if f = 1 then fn else if f = 3 then v else 0 := by
        show (if (10 : Nat) = 10 ∧ ca_nm g = ca_nm g then _ else _) = _
        exact if_pos ⟨rfl, rfl⟩
      rw [e]
      by_cases f3 : f = 3
      · subst f3; rw [mr_u3_s]; rfl
      rw [mr_u3_n _ _ _ _ _ (fun z => f3 z.2.2)]
      by_cases f1 : f = 1
      · subst f1; rw [mr_u3_s]; rfl
      rw [mr_u3_n _ _ _ _ _ (fun z => f1 z.2.2)]
      by_cases f0 : f = 0
      · subst f0; rw [mr_u3_s]; rfl
      rw [mr_u3_n _ _ _ _ _ (fun z => f0 z.2.2), if_neg f0, if_neg f1, if_neg f3]
      by_cases f7 : f = 7
      · subst f7; rw [mr_u3_s]
      rw [mr_u3_n _ _ _ _ _ (fun z => f7 z.2.2)]
      by_cases f6 : f = 6
      · subst f6; rw [mr_u3_s]
      rw [mr_u3_n _ _ _ _ _ (fun z => f6 z.2.2)]
      by_cases f5 : f = 5
      · subst f5; rw [mr_u3_s]
      rw [mr_u3_n _ _ _ _ _ (fun z => f5 z.2.2)]
      by_cases f4 : f = 4
      · subst f4; rw [mr_u3_s]
      rw [mr_u3_n _ _ _ _ _ (fun z => f4 z.2.2)]
      exact if_pos ⟨rfl, rfl⟩
    · have hn : ∀ c, ¬ (k = 10 ∧ i = ca_nm g ∧ f = c) := fun c z => hk ⟨z.1, z.2.1⟩
      rw [mr_u3_n _ _ _ _ _ (hn _), mr_u3_n _ _ _ _ _ (hn _), mr_u3_n _ _ _ _ _ (hn _), mr_u3_n _ _ _ _ _ (hn _), mr_u3_n _ _ _ _ _ (hn _), mr_u3_n _ _ _ _ _ (hn _), mr_u3_n _ _ _ _ _ (hn _), if_neg hk]
      unfold ma_iv
      have e : ca_iv (ca_new g nm fn u v) k i f = ca_iv g k i f := if_neg hk
      rw [e]
      rfl
  · show (if k = 10 ∧ i = ca_nm g then 0 else ma_lv q k i f) = ma_lv q k i f
    by_cases hk : k = 10 ∧ i = ca_nm g
    · rw [if_pos hk, hk.1]
      rfl
    · exact if_neg hk
  · show mr_u3 (fun a b c => if a = 10 ∧ b = ca_nm g then none else ma_rv g q a b c) 10 (ca_nm g) 2 (some (7, u)) k i f = ma_rv (ca_new g nm fn u v) q k i f
    by_cases hk : k = 10
    · subst hk
      have e : ma_rv (ca_new g nm fn u v) q 10 i f = if f = 2 then some (7, ca_ms (ca_new g nm fn u v) i) else none := rfl
      rw [e]
      by_cases hj : i = ca_nm g
      · subst hj
        have e2 : ca_ms (ca_new g nm fn u v) (ca_nm g) = u := if_pos rfl
        rw [e2]
        by_cases f2 : f = 2
        · subst f2; rw [mr_u3_s]; rfl
        · rw [mr_u3_n _ _ _ _ _ (fun z => f2 z.2.2), if_neg f2]
          exact if_pos ⟨rfl, rfl⟩
      · have e2 : ca_ms (ca_new g nm fn u v) i = ca_ms g i := if_neg hj
        rw [mr_u3_n _ _ _ _ _ (fun z => hj z.2.1), if_neg (fun z => hj z.2), e2]
        rfl
    · rw [mr_u3_n _ _ _ _ _ (fun z => hk z.1), if_neg (fun z => hk z.1)]
      unfold ma_rv
      simp only [hk, if_false]
      rfl
section CN1
variable {l : Launch} {D : va_G} {Z : Nat × Cell} {tys : List (ClassId × FieldType)} {ad : mg_Ad}
theorem ct_G_init (g : ca_S) (q : mr_St) (nm fn : Int32) {u : Nat} (v : Int32) (hu : u < 16) : mg_M l my_G_init [Cond.code my_G_init mc_G_init 5 none] (mg_rm 1 0 0) D mn_cl Z mb_B tys [va_rf (some (ad 10 (ca_nm g))), .int nm, .int fn, va_rf (some (ad 7 u)), .int v] ad (mr_C tys ma_sh ad (mr_nw (ma_R g q) 10)) 0 0 (mg_Po tys ma_sh ad none (ma_R (ca_new g nm fn u v) q)) := by
  refine mg_M.of (cc := mc_G_init) (maxL := 5) (ret := none) (by decide) rfl (Nat.le_of_ble_eq_true rfl) (mg_caS rfl (mg_caS rfl (mg_caS rfl (mg_caS rfl (mg_caS rfl mg_ca0))))) ?_
  intro p e s m args below meth c K hret hlk hnm hA
  refine mg_aload_n K md_G_init_0 rfl ?_
  refine mg_objInit K md_G_init_1 ms_G_3 mb_oi.1 mb_oi.2 (by decide) (by decide) ?_
  refine mg_aload_n K md_G_init_4 rfl ?_
  refine mg_iconst K (v := 0) md_G_init_5 (by decide) ?_
  refine mr_putI K mf_G_9 md_G_init_6 (Nat.lt_succ_self (ca_nm g)) ?_
  refine mg_aload_n K md_G_init_9 rfl ?_
  refine mg_iconst K (v := 0) md_G_init_10 (by decide) ?_
  refine mr_putI K mf_G_15 md_G_init_11 (Nat.lt_succ_self (ca_nm g)) ?_
  refine mg_aload_n K md_G_init_14 rfl ?_
  refine mg_iconst K (v := 0) md_G_init_15 (by decide) ?_
  refine mr_putI K mf_G_18 md_G_init_16 (Nat.lt_succ_self (ca_nm g)) ?_
  refine mg_aload_n K md_G_init_19 rfl ?_
  refine mg_iconst K (v := 0) md_G_init_20 (by decide) ?_
  refine mr_putI K mf_G_21 md_G_init_21 (Nat.lt_succ_self (ca_nm g)) ?_
  refine mg_aload_n K md_G_init_24 rfl ?_
  refine mg_iload_n K md_G_init_25 rfl ?_
  refine mr_putFI K hnm mf_G_24 md_G_init_26 (Nat.lt_succ_self (ca_nm g)) ?_
  refine mg_aload_n K md_G_init_29 rfl ?_
  refine mg_iload_n K md_G_init_30 rfl ?_
  refine mr_putFI K hnm mf_G_27 md_G_init_31 (Nat.lt_succ_self (ca_nm g)) ?_
  refine mg_aload_n K md_G_init_34 rfl ?_
  refine mg_aload_n K md_G_init_35 rfl ?_
  refine mr_putFS (k2 := 7) (i2 := u) K hnm mf_G_30 md_G_init_36 (Nat.lt_succ_self (ca_nm g)) (mr_nfo _) ?_
  refine mg_aload_n K md_G_init_39 rfl ?_
  refine mg_iload K md_G_init_40 rfl ?_
  refine mr_putFI K hnm mf_G_34 md_G_init_42 (Nat.lt_succ_self (ca_nm g)) ?_
  exact mg_vret K hret hlk md_G_init_45 (Nat.le_refl _) (Nat.le_refl _) ⟨rfl, rfl, ma_new g q nm fn u v⟩
theorem mi_vf {fn : Int32} (h1 : ¬ fn < 0) (h2 : fn.toNatClampNeg < 5) : cv_f fn := by
  obtain ⟨n, hn, rfl⟩ := mi_ex h1
  rw [mi_tn hn] at h2
  exact ⟨h1, fun z => by have := (mi_le (a := 5) (b := n) (by omega) hn).mp z; omega⟩
def ca_recv (g : ca_S) (s0 n : Nat) (fn : Int32) (u : Nat) (v : Int32) : ca_S × Int32 := if ca_gap g s0 n then (ca_come (ca_mk g s0 n (1000 * Int32.ofNat s0 + Int32.ofNat n) fn u v) s0 (ca_nm g), ca_recd (ca_come (ca_mk g s0 n (1000 * Int32.ofNat s0 + Int32.ofNat n) fn u v) s0 (ca_nm g)) (ca_nm g)) else (ca_si g 0 0 8 (ca_iv g 0 0 8 + 1), 3)
theorem ct_A_receive (hty : tys.map (·.2) = ma_ty) (g : ca_S) (q : mr_St) {s0 n u : Nat} (fn v : Int32) (hs : s0 < 4) (h1 : 1 ≤ n) (h24 : n ≤ 24) (hf : cv_f fn) (hu : u < 16) (hv : cv_v v) (hok : ca_ok g) (hq : ∀ k i f x, 20 ≤ k → i < mr_pn q k → mr_rv q k i f = some x → x.2 < mr_pn q x.1 ∧ 20 ≤ x.1) : mr_MA l my_A_receive mc_A_receive 8 (some .int) 7 1 8 D mn_cl Z mb_B tys ma_sh [va_rf (some (ad 0 0)), .int (Int32.ofNat s0), .int (Int32.ofNat n), .int fn, .int (Int32.ofNat u), .int v] ad (ma_R g q) (some (.int (ca_recv g s0 n fn u v).2)) (ma_R (ca_recv g s0 n fn u v).1 q) := by
  have hwf := ma_wf hok hq
  have hmk : ca_ok (ca_mk g s0 n (1000 * Int32.ofNat s0 + Int32.ofNat n) fn u v) := ca_ok.mk hok s0 n _ fn u v hu hf.1 (by obtain ⟨w, hw, rfl⟩ := cv_f_ex hf; rw [mi_tn (by omega)]; exact hw)
  have hnn : ca_nm g < ca_nm (ca_mk g s0 n (1000 * Int32.ofNat s0 + Int32.ofNat n) fn u v) := Nat.lt_succ_self _
  have tc := ca_to.come hmk s0 hnn
  refine mg_M.of (cc := mc_A_receive) (maxL := 8) (ret := (some .int)) (by decide) rfl (Nat.le_of_ble_eq_true rfl) (mg_caS rfl (mg_caS rfl (mg_caS rfl (mg_caS rfl (mg_caS rfl (mg_caS rfl mg_ca0)))))) ?_
  intro p e s m args below meth c K hret hlk hnm hA
  refine mg_iload_n K md_A_receive_0 rfl ?_
  refine mr_cP K hA (ct_A_checkSender (Int32.ofNat s0) (mi_vs hs)) ms_A_50 (by decide) md_A_receive_1 rfl (by decide) ⟨Nat.zero_le _, Nat.zero_le _⟩ ?_
  refine mg_iload_n K md_A_receive_4 rfl ?_
  refine mr_cP K hA (ct_A_checkNumber (Int32.ofNat n) (mi_vN h1 h24)) ms_A_54 (by decide) md_A_receive_5 rfl (by decide) ⟨Nat.zero_le _, Nat.zero_le _⟩ ?_
  refine mg_iload_n K md_A_receive_8 rfl ?_
  refine mg_iload K md_A_receive_9 rfl ?_
  refine mg_iload K md_A_receive_11 rfl ?_
  refine mr_cP K hA (ct_A_checkContent fn (Int32.ofNat u) v hf (mi_vu hu) hv) ms_A_57 (by decide) md_A_receive_13 rfl (by decide) ⟨Nat.zero_le _, Nat.zero_le _⟩ ?_
  refine mg_aload_n K md_A_receive_16 rfl ?_
  refine mr_getS K mf_A_11 md_A_receive_17 Nat.zero_lt_one rfl ?_
  refine mg_iload_n K md_A_receive_20 rfl ?_
  refine mr_aaldS (k2 := 4) (i2 := s0) K rfl (ma_t hty 0) md_A_receive_21 Nat.zero_lt_one (mi_vn (by omega) (by omega)) (by rw [mi_tn (by omega)]; exact ma_lst hs g q) ?_
  refine mg_astore K md_A_receive_22 (by decide) ?_
  refine mg_aload K md_A_receive_24 rfl ?_
  refine mg_iload_n K md_A_receive_26 rfl ?_
  refine mr_cV K hA (ct_S_isGap hty g q hs h1 h24 (hok.1 s0 n)) ms_A_61 (by decide) md_A_receive_27 rfl rfl hs rfl (by decide) ⟨Nat.zero_le _, Nat.zero_le _⟩ ?_
  refine mg_if_ne K 45 md_A_receive_30 rfl (fun h30 => ?_) (fun h30 => ?_)
  · have hg : ca_gap g s0 n = true := by cases hh : ca_gap g s0 n with | true => rfl | false => (rw [hh] at h30; exact absurd rfl h30)
    have hrc : ca_recv g s0 n fn u v = (ca_come (ca_mk g s0 n (1000 * Int32.ofNat s0 + Int32.ofNat n) fn u v) s0 (ca_nm g), ca_recd (ca_come (ca_mk g s0 n (1000 * Int32.ofNat s0 + Int32.ofNat n) fn u v) s0 (ca_nm g)) (ca_nm g)) := if_pos hg
    rw [hrc]
    refine mr_new K 10 hA hwf mw_A_65 md_A_receive_45 (by decide) (by decide) (fun ad' had => ?_)
    rw [← had 0 0 Nat.zero_lt_one, ← had 4 s0 hs]
    refine mg_dup K md_A_receive_48 rfl ?_
    refine mg_sipush K (v := 1000) md_A_receive_49 (by decide) ?_
    refine mg_iload_n K md_A_receive_52 rfl ?_
    refine mg_imul K md_A_receive_53 ?_
    refine mg_iload_n K md_A_receive_54 rfl ?_
    refine mg_iadd K md_A_receive_55 ?_
    refine mg_iload_n K md_A_receive_56 rfl ?_
    refine mg_aload_n K md_A_receive_57 rfl ?_
    refine mr_getS K mf_A_17 md_A_receive_58 Nat.zero_lt_one rfl ?_
    refine mg_iload K md_A_receive_61 rfl ?_
    refine mr_aaldS (k2 := 7) (i2 := u) K rfl (ma_t hty 1) md_A_receive_63 Nat.zero_lt_one (mi_vn (by omega) (by omega)) (by rw [mi_tn (by omega)]; exact ma_sub hu g q) ?_
    refine mg_iload K md_A_receive_64 rfl ?_
    refine mr_cI K hA (ct_G_init g q (1000 * Int32.ofNat s0 + Int32.ofNat n) fn v hu) ms_A_67 (by decide) md_A_receive_66 rfl (Nat.le_of_ble_eq_true rfl) ⟨by decide, by decide⟩ ?_
    refine mg_astore K md_A_receive_69 (by decide) ?_
    refine mg_aload K md_A_receive_71 rfl ?_
    refine mg_iload_n K md_A_receive_73 rfl ?_
    refine mg_aload K md_A_receive_74 rfl ?_
    refine mr_cV K hA (ct_S_put hty (ca_new g (1000 * Int32.ofNat s0 + Int32.ofNat n) fn u v) q (j := ca_nm g) hs h1 h24 (Nat.lt_succ_self _)) ms_A_70 (by decide) md_A_receive_76 rfl rfl hs rfl (by decide) ⟨by decide, by decide⟩ ?_
    refine mg_aload_n K md_A_receive_79 rfl ?_
    refine mg_aload K md_A_receive_80 rfl ?_
    refine mg_aload K md_A_receive_82 rfl ?_
    refine mr_cV K hA (ct_A_come hty (ca_mk g s0 n (1000 * Int32.ofNat s0 + Int32.ofNat n) fn u v) q hs hmk hnn) ms_A_74 (by decide) md_A_receive_84 rfl rfl Nat.zero_lt_one rfl (by decide) ⟨by decide, by decide⟩ ?_
    refine mg_aload K md_A_receive_87 rfl ?_
    refine mr_cS K hA (ct_A_received hty (ca_come (ca_mk g s0 n (1000 * Int32.ofNat s0 + Int32.ofNat n) fn u v) s0 (ca_nm g)) q (tc.lt hnn)) ms_A_78 (by decide) md_A_receive_89 rfl (by decide) ⟨by decide, by decide⟩ ?_
    exact mg_iret K hret hlk md_A_receive_92 (by decide) (by decide) ⟨rfl, had, rfl⟩
  · have hg : ¬ ca_gap g s0 n = true := fun hh => by rw [hh] at h30; exact absurd h30 (by decide)
    have hrc : ca_recv g s0 n fn u v = (ca_si g 0 0 8 (ca_iv g 0 0 8 + 1), 3) := if_neg hg
    rw [hrc]
    refine mg_aload_n K md_A_receive_33 rfl ?_
    refine mg_dup K md_A_receive_34 rfl ?_
    refine mr_getI (v := ca_iv g 0 0 8) K mf_A_45 md_A_receive_35 (by decide) Nat.zero_lt_one rfl ?_
    refine mg_iconst K (v := 1) md_A_receive_38 (by decide) ?_
    refine mg_iadd K md_A_receive_39 ?_
    refine mr_putI K mf_A_45 md_A_receive_40 Nat.zero_lt_one ?_
    refine mr_eqr (ma_sI _ _ _ _ _ _ (by decide) (by decide)) ?_
    refine mg_iconst K (v := 3) md_A_receive_43 (by decide) ?_
    exact mg_iret K hret hlk md_A_receive_44 (by decide) (by decide) ⟨rfl, fun _ _ _ => rfl, rfl⟩
end CN1
