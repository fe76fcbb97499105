/-! Line: lists of messages -/
theorem mi_ex {x : Int32} (h : ¬ x < 0) : ∃ n : Nat, n < 2147483648 ∧ x = Int32.ofNat n := ⟨x.toNatClampNeg, by have h1 : x.toInt < 2147483648 := Int32.toInt_lt x; have h2 : x.toNatClampNeg = x.toInt.toNat := rfl; omega, mi_of h⟩
section CL0
variable {p : Program} {l : Launch} {e : Env} {R : Room} {s : State} {m : MethodId} {args : Array Value} {below : List Frame} {meth : Method} {c : Code} {Q : State → Prop}
variable {D : va_G} {cl : List vw_C} {Z : Nat × Cell} {tys : List (ClassId × FieldType)} {A : Nat → Prop} {H0 : Heap} {nL : Nat} {cc : ByteArray} {Ts : List Cond} {own : String}
variable {ad : mg_Ad} {sh : Nat → mr_Sh} {r : mr_St} {L : List (Option Value)} {cells slots pc : Nat} {st : List Value}
theorem mr_acmp_ne (K : mg_K p m c cc nL s args Ts own D cl Z tys) {k i k2 i2 : Nat} {off : Int} (tgt : Nat) (hd : decode cc pc = .ok (.if_acmp .ne off, 3)) (ht : (pc : Int) + off = (tgt : Int)) (hi : i < mr_pn r k) (hi2 : i2 < mr_pn r k2)
    (kt : ¬ (k = k2 ∧ i = i2) → mg_G p l e R s m args below meth c D cl Z A H0 nL Q ad (mr_C tys sh ad r) L cells slots st tgt) (kf : k = k2 ∧ i = i2 → mg_G p l e R s m args below meth c D cl Z A H0 nL Q ad (mr_C tys sh ad r) L cells slots st (pc + 3)) : mg_G p l e R s m args below meth c D cl Z A H0 nL Q ad (mr_C tys sh ad r) L cells slots (va_rf (some (ad k2 i2)) :: va_rf (some (ad k i)) :: st) pc := by
  intro H locs ls hW hS hL
  have n1 : mr_C tys sh ad r k i ≠ none := by rw [mr_at hi]; exact fun z => by cases z
  have n2 : mr_C tys sh ad r k2 i2 ≠ none := by rw [mr_at hi2]; exact fun z => by cases z
  exact lv_acmp_ne (rx := some (ad k i)) (ry := some (ad k2 i2)) K.1.1 K.1.2.1 hd ht (fun h => kt (fun z => h (by obtain ⟨rfl, rfl⟩ := z; rfl)) H locs ls hW hS hL) (fun h => kf (hW.2.1 k i k2 i2 n1 n2 (Option.some.inj h)) H locs ls hW hS hL)
end CL0
theorem ma_snE (g : ca_S) (q : mr_St) (x : Nat) (y : List Nat) (r : mr_St) (h1 : ∀ a b c, mr_iv r a b c = if a = 8 ∧ b = x ∧ c = 1 then Int32.ofNat y.length else ma_iv g q a b c) (h2 : mr_lv r = ma_lv q)
    (h3 : ∀ a b c, mr_rv r a b c = if a = 9 ∧ b = x then (y[c]?).map (fun j => (10, j)) else ma_rv g q a b c) (h4 : mr_pn r = ma_pn g q) : r = ma_R (ca_sn g x y) q := by
  obtain ⟨r1, r2, r3, r4⟩ := r
  have e1 : r1 = ma_iv (ca_sn g x y) q := by
    funext a b c
    refine (h1 a b c).trans ?_
    unfold ma_iv
    by_cases ha : a = 8
    · subst ha
      rw [if_pos rfl, if_pos rfl]
      by_cases hc : c = 1
      · rw [if_pos hc, if_pos hc]
        by_cases hb : b = x
        · rw [if_pos ⟨rfl, hb, hc⟩, hb, ca_ln_s]
        · rw [if_neg (fun z => hb z.2.1), ca_ln_n _ _ _ hb]
      · rw [if_neg (fun z => hc z.2.2), if_neg hc, if_neg hc]
    · rw [if_neg (fun z => ha z.1), if_neg ha, if_neg ha]
      rfl
  have e3 : r3 = ma_rv (ca_sn g x y) q := by
    funext a b c
    refine (h3 a b c).trans ?_
    by_cases ha : a = 9
    · subst ha
      by_cases hb : b = x
      · rw [if_pos ⟨rfl, hb⟩]
        show _ = ((ca_ln (ca_sn g x y) b)[c]?).map _
        rw [hb, ca_ln_s]
      · rw [if_neg (fun z => hb z.2)]
        show ((ca_ln g b)[c]?).map _ = ((ca_ln (ca_sn g x y) b)[c]?).map _
        rw [ca_ln_n _ _ _ hb]
    · rw [if_neg (fun z => ha z.1)]
      unfold ma_rv
      simp only [ha, if_false]
      rfl
  have e2 : r2 = ma_lv q := h2
  have e4 : r4 = ma_pn g q := h4
  rw [e1, e2, e3, e4]
  rfl
theorem ma_app (g : ca_S) (q : mr_St) (x j : Nat) (h : (ca_ln g x).length < 96) : mr_sI (mr_sR (ma_R g q) 9 x (ca_ln g x).length (some (10, j))) 8 x 1 (Int32.ofNat ((ca_ln g x).length + 1)) = ma_R (ca_app g x j) q := by
  unfold ca_app
  rw [if_pos h]
  refine ma_snE g q x _ _ (fun a b c => ?_) rfl (fun a b c => ?_) rfl
  · rw [List.length_append, List.length_singleton]
    rfl
  · show mr_u3 (ma_rv g q) 9 x (ca_ln g x).length (some (10, j)) a b c = _
    by_cases hab : a = 9 ∧ b = x
    · obtain ⟨rfl, rfl⟩ := hab
      rw [if_pos ⟨rfl, rfl⟩]
      by_cases hc : c = (ca_ln g b).length
      · subst hc
        rw [mr_u3_s, List.getElem?_append_right (Nat.le_refl _), Nat.sub_self]
        rfl
      · rw [mr_u3_n _ _ _ _ _ (fun z => hc z.2.2)]
        show ((ca_ln g b)[c]?).map _ = _
        by_cases hlt : c < (ca_ln g b).length
        · rw [List.getElem?_append_left hlt]
        · rw [List.getElem?_eq_none (by omega), List.getElem?_eq_none (by rw [List.length_append, List.length_singleton]; omega)]
    · rw [if_neg hab, mr_u3_n _ _ _ _ _ (fun z => hab ⟨z.1, z.2.1⟩)]
/-- while one is taken out: those behind it, moved up to the n-th -/
def ma_T (g : ca_S) (q : mr_St) (x i n : Nat) : mr_St := (ma_iv g q, ma_lv q, fun a b c => if a = 9 ∧ b = x ∧ i ≤ c ∧ c + 1 < n then ((ca_ln g x)[c + 1]?).map (fun j => (10, j)) else ma_rv g q a b c, ma_pn g q)
theorem ma_T0 (g : ca_S) (q : mr_St) (x i : Nat) : ma_T g q x i (i + 1) = ma_R g q := by
  refine Prod.ext rfl (Prod.ext rfl (Prod.ext ?_ rfl))
  funext a b c
  exact if_neg (by omega)
theorem ma_TS (g : ca_S) (q : mr_St) (x i n : Nat) (hn : i + 1 ≤ n) : mr_sR (ma_T g q x i n) 9 x (n - 1) (((ca_ln g x)[n]?).map (fun j => (10, j))) = ma_T g q x i (n + 1) := by
  refine Prod.ext rfl (Prod.ext rfl (Prod.ext ?_ rfl))
  funext a b c
  show mr_u3 _ 9 x (n - 1) _ a b c = if a = 9 ∧ b = x ∧ i ≤ c ∧ c + 1 < n + 1 then _ else _
  by_cases h : a = 9 ∧ b = x ∧ c = n - 1
  · obtain ⟨rfl, rfl, rfl⟩ := h
    rw [mr_u3_s, if_pos ⟨rfl, rfl, by omega, by omega⟩]
    congr 2
    omega
  · rw [mr_u3_n _ _ _ _ _ h]
    show (if a = 9 ∧ b = x ∧ i ≤ c ∧ c + 1 < n then _ else _) = _
    by_cases h2 : a = 9 ∧ b = x ∧ i ≤ c ∧ c + 1 < n
    · rw [if_pos h2, if_pos ⟨h2.1, h2.2.1, h2.2.2.1, by omega⟩]
    · rw [if_neg h2, if_neg (fun z => h2 ⟨z.1, z.2.1, z.2.2.1, by have := z.2.2.2; have h3 : ¬ c = n - 1 := fun w => h ⟨z.1, z.2.1, w⟩; omega⟩)]
theorem ma_TE (g : ca_S) (q : mr_St) (x i : Nat) (hi : i < (ca_ln g x).length) : mr_sR (mr_sI (ma_T g q x i (ca_ln g x).length) 8 x 1 (Int32.ofNat ((ca_ln g x).length - 1))) 9 x ((ca_ln g x).length - 1) none = ma_R (ca_sn g x ((ca_ln g x).eraseIdx i)) q := by
  refine ma_snE g q x _ _ (fun a b c => ?_) rfl (fun a b c => ?_) rfl
  · rw [List.length_eraseIdx, if_pos hi]
    rfl
  · show mr_u3 (fun a b c => if a = 9 ∧ b = x ∧ i ≤ c ∧ c + 1 < (ca_ln g x).length then _ else _) 9 x ((ca_ln g x).length - 1) none a b c = _
    by_cases hab : a = 9 ∧ b = x
    · obtain ⟨rfl, rfl⟩ := hab
      rw [if_pos ⟨rfl, rfl⟩, List.getElem?_eraseIdx]
      by_cases hc : c = (ca_ln g b).length - 1
      · subst hc
        rw [mr_u3_s]
        by_cases hci : (ca_ln g b).length - 1 < i
        · omega
        · rw [if_neg hci, List.getElem?_eq_none (by omega)]
          rfl
      · rw [mr_u3_n _ _ _ _ _ (fun z => hc z.2.2)]
        by_cases hci : c < i
        · rw [if_pos hci, if_neg (fun z => by have := z.2.2.1; omega)]
          rfl
        · rw [if_neg hci]
          by_cases hcl : c + 1 < (ca_ln g b).length
          · rw [if_pos ⟨rfl, rfl, by omega, hcl⟩]
          · rw [if_neg (fun z => hcl z.2.2.2), List.getElem?_eq_none (by omega)]
            show ((ca_ln g b)[c]?).map _ = _
            rw [List.getElem?_eq_none (by omega)]
    · rw [if_neg hab, mr_u3_n _ _ _ _ _ (fun z => hab ⟨z.1, z.2.1⟩)]
      exact if_neg (fun z => hab ⟨z.1, z.2.1⟩)
def ca_at (g : ca_S) (x : Nat) (i : Int32) : Option (Nat × Nat) := if i < 0 then none else ((ca_ln g x)[i.toNatClampNeg]?).map (fun j => (10, j))
section CL1
variable {l : Launch} {D : va_G} {Z : Nat × Cell} {tys : List (ClassId × FieldType)} {ad : mg_Ad}
theorem ct_L_append (hty : tys.map (·.2) = ma_ty) (g : ca_S) (q : mr_St) {x j : Nat} (hx : x < 4) (hj : j < ca_nm g) (hle : (ca_ln g x).length ≤ 96) : mr_M l my_L_append mc_L_append 2 none 1 D mn_cl Z mb_B tys ma_sh [va_rf (some (ad 8 x)), va_rf (some (ad 10 j))] ad (ma_R g q) none (ma_R (ca_app g x j) q) := by
  refine mg_M.of (cc := mc_L_append) (maxL := 2) (ret := none) (by decide) rfl (Nat.le_of_ble_eq_true rfl) (mg_caS rfl (mg_caS rfl mg_ca0)) ?_
  intro p e s m args below meth c K hret hlk hnm hA
  refine mg_aload_n K md_L_append_0 rfl ?_
  refine mr_getI (v := Int32.ofNat (ca_ln g x).length) K mf_L_17 md_L_append_1 (by decide) hx rfl ?_
  refine mg_if_lt K 39 md_L_append_4 rfl (fun h4 => ?_) (fun h4 => ?_)
  · exact absurd h4 (mi_nn (by omega))
  · refine mg_aload_n K md_L_append_7 rfl ?_
    refine mr_getI (v := Int32.ofNat (ca_ln g x).length) K mf_L_17 md_L_append_8 (by decide) hx rfl ?_
    refine mg_aload_n K md_L_append_11 rfl ?_
    refine mr_getS K mf_L_11 md_L_append_12 hx rfl ?_
    refine mr_alenR (v := Int32.ofNat 96) K rfl (ma_t hty 3) md_L_append_15 hx rfl ?_
    refine mg_icmp_ge K 39 md_L_append_16 rfl (fun h16 => ?_) (fun h16 => ?_)
    · have hge : ¬ (ca_ln g x).length < 96 := by have := (mi_le (by omega) (by omega)).mp h16; omega
      have hap : ca_app g x j = g := if_neg hge
      exact mg_vret K hret hlk md_L_append_39 (Nat.le_refl _) (Nat.le_refl _) ⟨rfl, rfl, by rw [hap]⟩
    · refine mg_aload_n K md_L_append_19 rfl ?_
      refine mr_getS K mf_L_11 md_L_append_20 hx rfl ?_
      refine mg_aload_n K md_L_append_23 rfl ?_
      refine mr_getI (v := Int32.ofNat (ca_ln g x).length) K mf_L_17 md_L_append_24 (by decide) hx rfl ?_
      refine mg_aload_n K md_L_append_27 rfl ?_
      have hlt : (ca_ln g x).length < 96 := by have := mt (mi_le (by omega) (by omega)).mpr h16; omega
      refine mr_aast (k2 := 10) (i2 := j) K rfl (ma_t hty 3) rfl rfl md_L_append_28 hx hj (mi_vn (by omega) hlt) ?_
      rw [mi_tn (by omega)]
      refine mg_aload_n K md_L_append_29 rfl ?_
      refine mg_dup K md_L_append_30 rfl ?_
      refine mr_getI (v := Int32.ofNat (ca_ln g x).length) K mf_L_17 md_L_append_31 (by decide) hx rfl ?_
      refine mg_iconst K (v := 1) md_L_append_34 (by decide) ?_
      refine mg_iadd K md_L_append_35 ?_
      refine mr_putI K mf_L_17 md_L_append_36 hx ?_
      rw [mi_a1]
      refine mr_eqr (ma_app g q x j hlt) ?_
      exact mg_vret K hret hlk md_L_append_39 (Nat.le_refl _) (Nat.le_refl _) ⟨rfl, rfl, rfl⟩
theorem ct_L_get (hty : tys.map (·.2) = ma_ty) (g : ca_S) (q : mr_St) {x : Nat} (i : Int32) (hx : x < 4) (hle : (ca_ln g x).length ≤ 96) : mr_M l my_L_get mc_L_get 2 (some (.object "MessageActs$Message")) 1 D mn_cl Z mb_B tys ma_sh [va_rf (some (ad 8 x)), .int i] ad (ma_R g q) (some (va_rf (mr_a ad (ca_at g x i)))) (ma_R g q) := by
  refine mg_M.of (cc := mc_L_get) (maxL := 2) (ret := (some (.object "MessageActs$Message"))) (by decide) rfl (Nat.le_of_ble_eq_true rfl) (mg_caS rfl (mg_caS rfl mg_ca0)) ?_
  intro p e s m args below meth c K hret hlk hnm hA
  refine mg_iload_n K md_L_get_0 rfl ?_
  refine mg_if_lt K 30 md_L_get_1 rfl (fun h1 => ?_) (fun h1 => ?_)
  · refine mg_null K md_L_get_30 ?_
    exact mg_aret K hret hlk md_L_get_31 (Nat.le_refl _) (Nat.le_refl _) ⟨by unfold ca_at; rw [if_pos h1]; rfl, rfl, rfl⟩
  · obtain ⟨n, hn, rfl⟩ := mi_ex h1
    refine mg_iload_n K md_L_get_4 rfl ?_
    refine mg_aload_n K md_L_get_5 rfl ?_
    refine mr_getI (v := Int32.ofNat (ca_ln g x).length) K mf_L_17 md_L_get_6 (by decide) hx rfl ?_
    refine mg_icmp_ge K 30 md_L_get_9 rfl (fun h9 => ?_) (fun h9 => ?_)
    · have hge : (ca_ln g x).length ≤ n := (mi_le (by omega) hn).mp h9
      refine mg_null K md_L_get_30 ?_
      exact mg_aret K hret hlk md_L_get_31 (Nat.le_refl _) (Nat.le_refl _) ⟨by unfold ca_at; rw [if_neg h1, mi_tn hn, List.getElem?_eq_none hge]; rfl, rfl, rfl⟩
    · have hlt : n < (ca_ln g x).length := by have := mt (mi_le (by omega) hn).mpr h9; omega
      refine mg_iload_n K md_L_get_12 rfl ?_
      refine mg_aload_n K md_L_get_13 rfl ?_
      refine mr_getS K mf_L_11 md_L_get_14 hx rfl ?_
      refine mr_alenR (v := Int32.ofNat 96) K rfl (ma_t hty 3) md_L_get_17 hx rfl ?_
      refine mg_icmp_ge K 30 md_L_get_18 rfl (fun h18 => ?_) (fun h18 => ?_)
      · exact absurd ((mi_le (by omega) hn).mp h18) (by omega)
      · refine mg_aload_n K md_L_get_21 rfl ?_
        refine mr_getS K mf_L_11 md_L_get_22 hx rfl ?_
        refine mg_iload_n K md_L_get_25 rfl ?_
        refine mr_aald K rfl (ma_t hty 3) md_L_get_26 hx (mi_vn hn (by omega)) rfl ?_
        refine mg_goto K 31 md_L_get_27 rfl ?_
        exact mg_aret K hret hlk md_L_get_31 (Nat.le_refl _) (Nat.le_refl _) ⟨by unfold ca_at; rw [if_neg h1]; rfl, rfl, rfl⟩
theorem mi_s {k : Nat} (h : 1 ≤ k) : Int32.ofNat k - 1 = Int32.ofNat (k - 1) := by
  obtain ⟨n, rfl⟩ : ∃ n, k = n + 1 := ⟨k - 1, by omega⟩
  rw [mi_s1]
  rfl
theorem mr_as (ad : mg_Ad) (k i : Nat) : mr_a ad (some (k, i)) = some (ad k i) := rfl
theorem ca_at_n {g : ca_S} {x n j : Nat} (hn : n < 2147483648) (h : (ca_ln g x)[n]? = some j) : ca_at g x (Int32.ofNat n) = some (10, j) := by
  unfold ca_at
  rw [if_neg (mi_nn hn), mi_tn hn, h]
  rfl
theorem ca_at_o {g : ca_S} {x n : Nat} (hn : n < 2147483648) (h : (ca_ln g x).length ≤ n) : ca_at g x (Int32.ofNat n) = none := by
  unfold ca_at
  rw [if_neg (mi_nn hn), mi_tn hn, List.getElem?_eq_none h]
  rfl
theorem ma_Tv (g : ca_S) (q : mr_St) {x i n j : Nat} (h : (ca_ln g x)[n]? = some j) : mr_rv (ma_T g q x i n) 9 x n = some (10, j) := by
  show (if 9 = 9 ∧ x = x ∧ i ≤ n ∧ n + 1 < n then _ else _) = _
  rw [if_neg (by omega)]
  show ((ca_ln g x)[n]?).map _ = _
  rw [h]
  rfl
theorem ct_L_take (hty : tys.map (·.2) = ma_ty) (g : ca_S) (q : mr_St) {x n j : Nat} (hx : x < 4) (hle : (ca_ln g x).length ≤ 96) (hm : ∀ i ∈ ca_ln g x, i < ca_nm g) (hnj : (ca_ln g x)[n]? = some j) : mr_M l my_L_take mc_L_take 4 (some (.object "MessageActs$Message")) 2 D mn_cl Z mb_B tys ma_sh [va_rf (some (ad 8 x)), .int (Int32.ofNat n)] ad (ma_R g q) (some (va_rf (some (ad 10 j)))) (ma_R (ca_sn g x ((ca_ln g x).eraseIdx n)) q) := by
  have hnl : n < (ca_ln g x).length := (List.getElem?_eq_some_iff.mp hnj).1
  refine mg_M.of (cc := mc_L_take) (maxL := 4) (ret := (some (.object "MessageActs$Message"))) (by decide) rfl (Nat.le_of_ble_eq_true rfl) (mg_caS rfl (mg_caS rfl mg_ca0)) ?_
  intro p e s m args below meth c K hret hlk hnm hA
  have loop : ∀ (f k : Nat), k + f = (ca_ln g x).length → n + 1 ≤ k → mg_G p l e (mg_rm 2 0 0) s m args below meth c D mn_cl Z (mg_A ad (mr_C tys ma_sh ad (ma_R g q)) s.heap.size) s.heap 4 (MQ below (mg_Qc D mn_cl Z ad (mr_C tys ma_sh ad (ma_R g q)) s.heap.size (mg_Po tys ma_sh ad (some (va_rf (some (ad 10 j)))) (ma_R (ca_sn g x ((ca_ln g x).eraseIdx n)) q))) args s 0 0 (mg_A ad (mr_C tys ma_sh ad (ma_R g q)) s.heap.size)) ad (mr_C tys ma_sh ad (ma_T g q x n k)) [some (va_rf (some (ad 8 x))), some (.int (Int32.ofNat n)), some (va_rf (some (ad 10 j))), some (.int (Int32.ofNat k))] 0 0 [] 14 := by
    intro f
    induction f with
    | zero =>
      intro k hk hnk
      have hk2 : k = (ca_ln g x).length := by omega
      subst hk2
      refine mg_iload_n K md_L_take_14 rfl ?_
      refine mg_aload_n K md_L_take_15 rfl ?_
      refine mr_getI (v := Int32.ofNat (ca_ln g x).length) K mf_L_17 md_L_take_16 (by decide) hx rfl ?_
      refine mg_icmp_ge K 42 md_L_take_19 rfl (fun h19 => ?_) (fun h19 => ?_)
      · refine mg_aload_n K md_L_take_42 rfl ?_
        refine mg_dup K md_L_take_43 rfl ?_
        refine mr_getI (v := Int32.ofNat (ca_ln g x).length) K mf_L_17 md_L_take_44 (by decide) hx rfl ?_
        refine mg_iconst K (v := 1) md_L_take_47 (by decide) ?_
        refine mg_isub K md_L_take_48 ?_
        rw [mi_s (by omega)]
        refine mr_putI K mf_L_17 md_L_take_49 hx ?_
        refine mg_aload_n K md_L_take_52 rfl ?_
        refine mr_getS K mf_L_11 md_L_take_53 hx rfl ?_
        refine mg_aload_n K md_L_take_56 rfl ?_
        refine mr_getI (v := Int32.ofNat ((ca_ln g x).length - 1)) K mf_L_17 md_L_take_57 (by decide) hx (mr_u3_s _ _ _ _ _) ?_
        refine mg_null K md_L_take_60 ?_
        refine mr_aastN K rfl (ma_t hty 3) md_L_take_61 hx (mi_vn (by omega) (by omega)) ?_
        rw [mi_tn (by omega)]
        refine mr_eqr (ma_TE g q x n hnl) ?_
        refine mg_aload_n K md_L_take_62 rfl ?_
        exact mg_aret K hret hlk md_L_take_63 (Nat.le_refl _) (Nat.le_refl _) ⟨rfl, rfl, rfl⟩
      · exact absurd ((mi_le (by omega) (by omega)).mpr (Nat.le_refl _)) h19
    | succ f ih =>
      intro k hk hnk
      obtain ⟨jk, hjk⟩ : ∃ j, (ca_ln g x)[k]? = some j := ⟨_, List.getElem?_eq_getElem (by omega)⟩
      have hjm : jk < ca_nm g := hm jk (List.mem_of_getElem? hjk)
      refine mg_iload_n K md_L_take_14 rfl ?_
      refine mg_aload_n K md_L_take_15 rfl ?_
      refine mr_getI (v := Int32.ofNat (ca_ln g x).length) K mf_L_17 md_L_take_16 (by decide) hx rfl ?_
      refine mg_icmp_ge K 42 md_L_take_19 rfl (fun h19 => ?_) (fun h19 => ?_)
      · exact absurd ((mi_le (by omega) (by omega)).mp h19) (by omega)
      · refine mg_aload_n K md_L_take_22 rfl ?_
        refine mr_getS K mf_L_11 md_L_take_23 hx rfl ?_
        refine mg_iload_n K md_L_take_26 rfl ?_
        refine mg_iconst K (v := 1) md_L_take_27 (by decide) ?_
        refine mg_isub K md_L_take_28 ?_
        rw [mi_s (by omega)]
        refine mg_aload_n K md_L_take_29 rfl ?_
        refine mr_getS K mf_L_11 md_L_take_30 hx rfl ?_
        refine mg_iload_n K md_L_take_33 rfl ?_
        refine mr_aaldS K rfl (ma_t hty 3) md_L_take_34 hx (mi_vn (by omega) (by omega)) (by rw [mi_tn (by omega)]; exact ma_Tv g q hjk) ?_
        refine mr_aast (k2 := 10) (i2 := jk) K rfl (ma_t hty 3) rfl rfl md_L_take_35 hx hjm (mi_vn (by omega) (by omega)) ?_
        rw [mi_tn (by omega)]
        have hTS := ma_TS g q x n k hnk
        rw [hjk] at hTS
        refine mr_eqr hTS ?_
        refine mg_iinc K (v := Int32.ofNat (k + 1)) md_L_take_36 rfl (mi_a1 k) (by decide) ?_
        refine mg_goto K 14 md_L_take_39 rfl ?_
        exact ih (k + 1) (by omega) (by omega)
  refine mg_aload_n K md_L_take_0 rfl ?_
  refine mg_iload_n K md_L_take_1 rfl ?_
  refine mr_cV K hA (ct_L_get hty g q (Int32.ofNat n) hx hle) ms_L_21 (by decide) md_L_take_2 rfl rfl hx rfl (by decide) ⟨Nat.le_refl _, Nat.le_refl _⟩ ?_
  rw [ca_at_n (by omega) hnj, mr_as]
  refine mg_astore_n K md_L_take_5 (by decide) ?_
  refine mg_aload_n K md_L_take_6 rfl ?_
  refine mg_ifnull K 62 md_L_take_7 rfl (fun h7 => ?_) (fun h7 => ?_)
  · exact absurd h7 (fun z => by cases z)
  · refine mg_iload_n K md_L_take_10 rfl ?_
    refine mg_iconst K (v := 1) md_L_take_11 (by decide) ?_
    refine mg_iadd K md_L_take_12 ?_
    rw [mi_a1]
    refine mg_istore_n K md_L_take_13 (by decide) ?_
    refine mr_eqr (ma_T0 g q x n).symm ?_
    exact loop ((ca_ln g x).length - (n + 1)) (n + 1) (by omega) (Nat.le_refl _)
theorem ct_L_takeN (hty : tys.map (·.2) = ma_ty) (g : ca_S) (q : mr_St) {x n : Nat} (hx : x < 4) (hle : (ca_ln g x).length ≤ 96) (hn : n < 2147483648) (hnl : (ca_ln g x).length ≤ n) : mr_M l my_L_take mc_L_take 4 (some (.object "MessageActs$Message")) 2 D mn_cl Z mb_B tys ma_sh [va_rf (some (ad 8 x)), .int (Int32.ofNat n)] ad (ma_R g q) (some (va_rf none)) (ma_R g q) := by
  refine mg_M.of (cc := mc_L_take) (maxL := 4) (ret := (some (.object "MessageActs$Message"))) (by decide) rfl (Nat.le_of_ble_eq_true rfl) (mg_caS rfl (mg_caS rfl mg_ca0)) ?_
  intro p e s m args below meth c K hret hlk hnm hA
  refine mg_aload_n K md_L_take_0 rfl ?_
  refine mg_iload_n K md_L_take_1 rfl ?_
  refine mr_cV K hA (ct_L_get hty g q (Int32.ofNat n) hx hle) ms_L_21 (by decide) md_L_take_2 rfl rfl hx rfl (by decide) ⟨Nat.le_refl _, Nat.le_refl _⟩ ?_
  rw [ca_at_o hn hnl]
  refine mg_astore_n K md_L_take_5 (by decide) ?_
  refine mg_aload_n K md_L_take_6 rfl ?_
  refine mg_ifnull K 62 md_L_take_7 rfl (fun h7 => ?_) (fun h7 => ?_)
  · refine mg_aload_n K md_L_take_62 rfl ?_
    exact mg_aret K hret hlk md_L_take_63 (Nat.le_refl _) (Nat.le_refl _) ⟨rfl, rfl, rfl⟩
  · exact absurd rfl h7
theorem ct_L_tff (hty : tys.map (·.2) = ma_ty) (g : ca_S) (q : mr_St) {x u : Nat} (hx : x < 4) (hu : u < 16) (hle : (ca_ln g x).length ≤ 96) (hm : ∀ i ∈ ca_ln g x, i < ca_nm g ∧ ca_ms g i < 16) {n j : Nat} (hnj : (ca_ln g x)[n]? = some j) (hju : ca_ms g j = u) (hno : ∀ k i, k < n → (ca_ln g x)[k]? = some i → ¬ ca_ms g i = u) : mr_M l my_L_takeFirstFor mc_L_takeFirstFor 4 (some (.object "MessageActs$Message")) 3 D mn_cl Z mb_B tys ma_sh [va_rf (some (ad 8 x)), va_rf (some (ad 7 u))] ad (ma_R g q) (some (va_rf (some (ad 10 j)))) (ma_R (ca_sn g x ((ca_ln g x).eraseIdx n)) q) := by
  refine mg_M.of (cc := mc_L_takeFirstFor) (maxL := 4) (ret := (some (.object "MessageActs$Message"))) (by decide) rfl (Nat.le_of_ble_eq_true rfl) (mg_caS rfl (mg_caS rfl mg_ca0)) ?_
  intro p e s m args below meth c K hret hlk hnm hA
  have hnl : n < (ca_ln g x).length := (List.getElem?_eq_some_iff.mp hnj).1
  have loop : ∀ (f k : Nat), k + f = n → mg_G p l e (mg_rm 3 0 0) s m args below meth c D mn_cl Z (mg_A ad (mr_C tys ma_sh ad (ma_R g q)) s.heap.size) s.heap 4 (MQ below (mg_Qc D mn_cl Z ad (mr_C tys ma_sh ad (ma_R g q)) s.heap.size (mg_Po tys ma_sh ad (some (va_rf (some (ad 10 j)))) (ma_R (ca_sn g x ((ca_ln g x).eraseIdx n)) q))) args s 0 0 (mg_A ad (mr_C tys ma_sh ad (ma_R g q)) s.heap.size)) ad (mr_C tys ma_sh ad (ma_R g q)) [some (va_rf (some (ad 8 x))), some (va_rf (some (ad 7 u))), some (.int (Int32.ofNat k))] 0 0 [] 2 := by
    intro f
    induction f with
    | zero =>
      intro k hk
      have hk2 : k = n := by omega
      subst hk2
      refine mg_iload_n K md_L_takeFirstFor_2 rfl ?_
      refine mg_aload_n K md_L_takeFirstFor_3 rfl ?_
      refine mr_getI (v := Int32.ofNat (ca_ln g x).length) K mf_L_17 md_L_takeFirstFor_4 (by decide) hx rfl ?_
      refine mg_icmp_ge K 40 md_L_takeFirstFor_7 rfl (fun h7 => ?_) (fun h7 => ?_)
      · exact absurd ((mi_le (by omega) (by omega)).mp h7) (by omega)
      · refine mg_aload_n K md_L_takeFirstFor_10 rfl ?_
        refine mg_iload_n K md_L_takeFirstFor_11 rfl ?_
        refine mr_cV K hA (ct_L_get hty g q (Int32.ofNat k) hx hle) ms_L_21 (by decide) md_L_takeFirstFor_12 rfl rfl hx rfl (by decide) ⟨Nat.le_refl _, Nat.le_refl _⟩ ?_
        rw [ca_at_n (by omega) hnj, mr_as]
        refine mg_astore_n K md_L_takeFirstFor_15 (by decide) ?_
        refine mg_aload_n K md_L_takeFirstFor_16 rfl ?_
        refine mg_ifnull K 34 md_L_takeFirstFor_17 rfl (fun h17 => ?_) (fun h17 => ?_)
        · exact absurd h17 (fun z => by cases z)
        · refine mg_aload_n K md_L_takeFirstFor_20 rfl ?_
          refine mr_getS K mf_L_25 md_L_takeFirstFor_21 (hm j (List.mem_of_getElem? hnj)).1 rfl ?_
          refine mg_aload_n K md_L_takeFirstFor_24 rfl ?_
          refine mr_acmp_ne K 34 md_L_takeFirstFor_25 rfl (hm j (List.mem_of_getElem? hnj)).2 hu (fun h25 => absurd ⟨rfl, hju⟩ h25) (fun h25 => ?_)
          refine mg_aload_n K md_L_takeFirstFor_28 rfl ?_
          refine mg_iload_n K md_L_takeFirstFor_29 rfl ?_
          refine mr_cV K hA (ct_L_take hty g q hx hle (fun i hi => (hm i hi).1) hnj) ms_L_29 (by decide) md_L_takeFirstFor_30 rfl rfl hx rfl (by decide) ⟨Nat.le_refl _, Nat.le_refl _⟩ ?_
          exact mg_aret K hret hlk md_L_takeFirstFor_33 (Nat.le_refl _) (Nat.le_refl _) ⟨rfl, rfl, rfl⟩
    | succ f ih =>
      intro k hk
      obtain ⟨jk, hjk⟩ : ∃ j, (ca_ln g x)[k]? = some j := ⟨_, List.getElem?_eq_getElem (by omega)⟩
      have hjm := hm jk (List.mem_of_getElem? hjk)
      have hne : ¬ ca_ms g jk = u := hno k jk (by omega) hjk
      refine mg_iload_n K md_L_takeFirstFor_2 rfl ?_
      refine mg_aload_n K md_L_takeFirstFor_3 rfl ?_
      refine mr_getI (v := Int32.ofNat (ca_ln g x).length) K mf_L_17 md_L_takeFirstFor_4 (by decide) hx rfl ?_
      refine mg_icmp_ge K 40 md_L_takeFirstFor_7 rfl (fun h7 => ?_) (fun h7 => ?_)
      · exact absurd ((mi_le (by omega) (by omega)).mp h7) (by omega)
      · refine mg_aload_n K md_L_takeFirstFor_10 rfl ?_
        refine mg_iload_n K md_L_takeFirstFor_11 rfl ?_
        refine mr_cV K hA (ct_L_get hty g q (Int32.ofNat k) hx hle) ms_L_21 (by decide) md_L_takeFirstFor_12 rfl rfl hx rfl (by decide) ⟨Nat.le_refl _, Nat.le_refl _⟩ ?_
        rw [ca_at_n (by omega) hjk, mr_as]
        refine mg_astore_n K md_L_takeFirstFor_15 (by decide) ?_
        refine mg_aload_n K md_L_takeFirstFor_16 rfl ?_
        refine mg_ifnull K 34 md_L_takeFirstFor_17 rfl (fun h17 => ?_) (fun h17 => ?_)
        · exact absurd h17 (fun z => by cases z)
        · refine mg_aload_n K md_L_takeFirstFor_20 rfl ?_
          refine mr_getS K mf_L_25 md_L_takeFirstFor_21 hjm.1 rfl ?_
          refine mg_aload_n K md_L_takeFirstFor_24 rfl ?_
          refine mr_acmp_ne K 34 md_L_takeFirstFor_25 rfl hjm.2 hu (fun h25 => ?_) (fun h25 => absurd h25.2 hne)
          refine mg_iinc K (v := Int32.ofNat (k + 1)) md_L_takeFirstFor_34 rfl (mi_a1 k) (by decide) ?_
          refine mg_goto K 2 md_L_takeFirstFor_37 rfl ?_
          refine mg_take 3 ?_
          exact ih (k + 1) (by omega)
  refine mg_iconst K (v := 0) md_L_takeFirstFor_0 (by decide) ?_
  refine mg_istore_n K md_L_takeFirstFor_1 (by decide) ?_
  exact loop n 0 (by omega)
theorem ct_L_tffN (hty : tys.map (·.2) = ma_ty) (g : ca_S) (q : mr_St) {x u : Nat} (hx : x < 4) (hu : u < 16) (hle : (ca_ln g x).length ≤ 96) (hm : ∀ i ∈ ca_ln g x, i < ca_nm g ∧ ca_ms g i < 16) (hno : ∀ i ∈ ca_ln g x, ¬ ca_ms g i = u) : mr_M l my_L_takeFirstFor mc_L_takeFirstFor 4 (some (.object "MessageActs$Message")) 3 D mn_cl Z mb_B tys ma_sh [va_rf (some (ad 8 x)), va_rf (some (ad 7 u))] ad (ma_R g q) (some (va_rf none)) (ma_R g q) := by
  refine mg_M.of (cc := mc_L_takeFirstFor) (maxL := 4) (ret := (some (.object "MessageActs$Message"))) (by decide) rfl (Nat.le_of_ble_eq_true rfl) (mg_caS rfl (mg_caS rfl mg_ca0)) ?_
  intro p e s m args below meth c K hret hlk hnm hA
  have loop : ∀ (f k : Nat), k + f = (ca_ln g x).length → mg_G p l e (mg_rm 3 0 0) s m args below meth c D mn_cl Z (mg_A ad (mr_C tys ma_sh ad (ma_R g q)) s.heap.size) s.heap 4 (MQ below (mg_Qc D mn_cl Z ad (mr_C tys ma_sh ad (ma_R g q)) s.heap.size (mg_Po tys ma_sh ad (some (va_rf none)) (ma_R g q))) args s 0 0 (mg_A ad (mr_C tys ma_sh ad (ma_R g q)) s.heap.size)) ad (mr_C tys ma_sh ad (ma_R g q)) [some (va_rf (some (ad 8 x))), some (va_rf (some (ad 7 u))), some (.int (Int32.ofNat k))] 0 0 [] 2 := by
    intro f
    induction f with
    | zero =>
      intro k hk
      refine mg_iload_n K md_L_takeFirstFor_2 rfl ?_
      refine mg_aload_n K md_L_takeFirstFor_3 rfl ?_
      refine mr_getI (v := Int32.ofNat (ca_ln g x).length) K mf_L_17 md_L_takeFirstFor_4 (by decide) hx rfl ?_
      refine mg_icmp_ge K 40 md_L_takeFirstFor_7 rfl (fun h7 => ?_) (fun h7 => ?_)
      · refine mg_null K md_L_takeFirstFor_40 ?_
        exact mg_aret K hret hlk md_L_takeFirstFor_41 (Nat.le_refl _) (Nat.le_refl _) ⟨rfl, rfl, rfl⟩
      · exact absurd ((mi_le (by omega) (by omega)).mpr (by omega)) h7
    | succ f ih =>
      intro k hk
      obtain ⟨jk, hjk⟩ : ∃ j, (ca_ln g x)[k]? = some j := ⟨_, List.getElem?_eq_getElem (by omega)⟩
      have hjm := hm jk (List.mem_of_getElem? hjk)
      have hne : ¬ ca_ms g jk = u := hno jk (List.mem_of_getElem? hjk)
      refine mg_iload_n K md_L_takeFirstFor_2 rfl ?_
      refine mg_aload_n K md_L_takeFirstFor_3 rfl ?_
      refine mr_getI (v := Int32.ofNat (ca_ln g x).length) K mf_L_17 md_L_takeFirstFor_4 (by decide) hx rfl ?_
      refine mg_icmp_ge K 40 md_L_takeFirstFor_7 rfl (fun h7 => ?_) (fun h7 => ?_)
      · exact absurd ((mi_le (by omega) (by omega)).mp h7) (by omega)
      · refine mg_aload_n K md_L_takeFirstFor_10 rfl ?_
        refine mg_iload_n K md_L_takeFirstFor_11 rfl ?_
        refine mr_cV K hA (ct_L_get hty g q (Int32.ofNat k) hx hle) ms_L_21 (by decide) md_L_takeFirstFor_12 rfl rfl hx rfl (by decide) ⟨Nat.le_refl _, Nat.le_refl _⟩ ?_
        rw [ca_at_n (by omega) hjk, mr_as]
        refine mg_astore_n K md_L_takeFirstFor_15 (by decide) ?_
        refine mg_aload_n K md_L_takeFirstFor_16 rfl ?_
        refine mg_ifnull K 34 md_L_takeFirstFor_17 rfl (fun h17 => ?_) (fun h17 => ?_)
        · exact absurd h17 (fun z => by cases z)
        · refine mg_aload_n K md_L_takeFirstFor_20 rfl ?_
          refine mr_getS K mf_L_25 md_L_takeFirstFor_21 hjm.1 rfl ?_
          refine mg_aload_n K md_L_takeFirstFor_24 rfl ?_
          refine mr_acmp_ne K 34 md_L_takeFirstFor_25 rfl hjm.2 hu (fun h25 => ?_) (fun h25 => absurd h25.2 hne)
          refine mg_iinc K (v := Int32.ofNat (k + 1)) md_L_takeFirstFor_34 rfl (mi_a1 k) (by decide) ?_
          refine mg_goto K 2 md_L_takeFirstFor_37 rfl ?_
          refine mg_take 3 ?_
          exact ih (k + 1) (by omega)
  refine mg_iconst K (v := 0) md_L_takeFirstFor_0 (by decide) ?_
  refine mg_istore_n K md_L_takeFirstFor_1 (by decide) ?_
  exact loop (ca_ln g x).length 0 (by omega)
def ca_lf (g : ca_S) (x u : Nat) : Nat → Nat → Nat → Nat
  | _, 0, a => a
  | k, f + 1, a => ca_lf g x u (k + 1) f (match (ca_ln g x)[k]? with
    | none => a
    | some j => if ca_ms g j = u then a + 1 else a)
theorem ca_lf_S {g : ca_S} {x u k f a j : Nat} (h : (ca_ln g x)[k]? = some j) : ca_lf g x u k (f + 1) a = ca_lf g x u (k + 1) f (if ca_ms g j = u then a + 1 else a) := by
  show ca_lf g x u (k + 1) f (match (ca_ln g x)[k]? with | none => a | some j => if ca_ms g j = u then a + 1 else a) = _
  rw [h]
theorem ca_lf_le (g : ca_S) (x u : Nat) : ∀ (f k a : Nat), ca_lf g x u k f a ≤ a + f
  | 0, k, a => Nat.le_refl _
  | f + 1, k, a => by
    unfold ca_lf
    refine Nat.le_trans (ca_lf_le g x u f (k + 1) _) ?_
    split
    · omega
    · split <;> omega
theorem ct_L_lengthFor (hty : tys.map (·.2) = ma_ty) (g : ca_S) (q : mr_St) {x u : Nat} (hx : x < 4) (hu : u < 16) (hle : (ca_ln g x).length ≤ 96) (hm : ∀ i ∈ ca_ln g x, i < ca_nm g ∧ ca_ms g i < 16) : mr_M l my_L_lengthFor mc_L_lengthFor 5 (some .int) 2 D mn_cl Z mb_B tys ma_sh [va_rf (some (ad 8 x)), va_rf (some (ad 7 u))] ad (ma_R g q) (some (.int (Int32.ofNat (ca_lf g x u 0 (ca_ln g x).length 0)))) (ma_R g q) := by
  refine mg_M.of (cc := mc_L_lengthFor) (maxL := 5) (ret := (some .int)) (by decide) rfl (Nat.le_of_ble_eq_true rfl) (mg_caS rfl (mg_caS rfl mg_ca0)) ?_
  intro p e s m args below meth c K hret hlk hnm hA
  have loop : ∀ (f k a : Nat), k + f = (ca_ln g x).length → ca_lf g x u k f a = ca_lf g x u 0 (ca_ln g x).length 0 → mg_G p l e (mg_rm 2 0 0) s m args below meth c D mn_cl Z (mg_A ad (mr_C tys ma_sh ad (ma_R g q)) s.heap.size) s.heap 5 (MQ below (mg_Qc D mn_cl Z ad (mr_C tys ma_sh ad (ma_R g q)) s.heap.size (mg_Po tys ma_sh ad (some (.int (Int32.ofNat (ca_lf g x u 0 (ca_ln g x).length 0)))) (ma_R g q))) args s 0 0 (mg_A ad (mr_C tys ma_sh ad (ma_R g q)) s.heap.size)) ad (mr_C tys ma_sh ad (ma_R g q)) [some (va_rf (some (ad 8 x))), some (va_rf (some (ad 7 u))), some (.int (Int32.ofNat a)), some (.int (Int32.ofNat k))] 0 0 [] 4 := by
    intro f
    induction f with
    | zero =>
      intro k a hk ha
      refine mg_iload_n K md_L_lengthFor_4 rfl ?_
      refine mg_aload_n K md_L_lengthFor_5 rfl ?_
      refine mr_getI (v := Int32.ofNat (ca_ln g x).length) K mf_L_17 md_L_lengthFor_6 (by decide) hx rfl ?_
      refine mg_icmp_ge K 42 md_L_lengthFor_9 rfl (fun h9 => ?_) (fun h9 => ?_)
      · refine mg_iload_n K md_L_lengthFor_42 rfl ?_
        exact mg_iret K hret hlk md_L_lengthFor_43 (Nat.le_refl _) (Nat.le_refl _) ⟨by rw [← ha]; rfl, rfl, rfl⟩
      · exact absurd ((mi_le (by omega) (by omega)).mpr (by omega)) h9
    | succ f ih =>
      intro k a hk ha
      obtain ⟨jk, hjk⟩ : ∃ j, (ca_ln g x)[k]? = some j := ⟨_, List.getElem?_eq_getElem (by omega)⟩
      have hjm := hm jk (List.mem_of_getElem? hjk)
      rw [ca_lf_S hjk] at ha
      refine mg_iload_n K md_L_lengthFor_4 rfl ?_
      refine mg_aload_n K md_L_lengthFor_5 rfl ?_
      refine mr_getI (v := Int32.ofNat (ca_ln g x).length) K mf_L_17 md_L_lengthFor_6 (by decide) hx rfl ?_
      refine mg_icmp_ge K 42 md_L_lengthFor_9 rfl (fun h9 => ?_) (fun h9 => ?_)
      · exact absurd ((mi_le (by omega) (by omega)).mp h9) (by omega)
      · refine mg_aload_n K md_L_lengthFor_12 rfl ?_
        refine mg_iload_n K md_L_lengthFor_13 rfl ?_
        refine mr_cV K hA (ct_L_get hty g q (Int32.ofNat k) hx hle) ms_L_21 (by decide) md_L_lengthFor_14 rfl rfl hx rfl (by decide) ⟨Nat.le_refl _, Nat.le_refl _⟩ ?_
        rw [ca_at_n (by omega) hjk, mr_as]
        refine mg_astore K md_L_lengthFor_17 (by decide) ?_
        refine mg_aload K md_L_lengthFor_19 rfl ?_
        refine mg_ifnull K 36 md_L_lengthFor_21 rfl (fun h21 => ?_) (fun h21 => ?_)
        · exact absurd h21 (fun z => by cases z)
        · refine mg_aload K md_L_lengthFor_24 rfl ?_
          refine mr_getS K mf_L_25 md_L_lengthFor_26 hjm.1 rfl ?_
          refine mg_aload_n K md_L_lengthFor_29 rfl ?_
          refine mr_acmp_ne K 36 md_L_lengthFor_30 rfl hjm.2 hu (fun h30 => ?_) (fun h30 => ?_)
          · refine mg_iinc K (v := Int32.ofNat (k + 1)) md_L_lengthFor_36 rfl (mi_a1 k) (by decide) ?_
            refine mg_goto K 4 md_L_lengthFor_39 rfl ?_
            rw [if_neg (fun z => h30 ⟨rfl, z⟩)] at ha
            refine mg_take 4 ?_
            exact ih (k + 1) a (by omega) ha
          · refine mg_iinc K (v := Int32.ofNat (a + 1)) md_L_lengthFor_33 rfl (mi_a1 a) (by decide) ?_
            refine mg_iinc K (v := Int32.ofNat (k + 1)) md_L_lengthFor_36 rfl (mi_a1 k) (by decide) ?_
            refine mg_goto K 4 md_L_lengthFor_39 rfl ?_
            rw [if_pos h30.2] at ha
            refine mg_take 4 ?_
            exact ih (k + 1) (a + 1) (by omega) ha
  refine mg_iconst K (v := 0) md_L_lengthFor_0 (by decide) ?_
  refine mg_istore_n K md_L_lengthFor_1 (by decide) ?_
  refine mg_iconst K (v := 0) md_L_lengthFor_2 (by decide) ?_
  refine mg_istore_n K md_L_lengthFor_3 (by decide) ?_
  exact loop (ca_ln g x).length 0 0 (by omega) rfl
end CL1
