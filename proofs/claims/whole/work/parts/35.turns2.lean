/-! the class: turns of a line, of those that failed, of those that wait -/
theorem ca_least_b (g : ca_S) (s : Nat) : ∀ (f n : Nat), n ≤ ca_least g s n f ∧ ca_least g s n f ≤ n + f
  | 0, n => ⟨Nat.le_refl _, Nat.le_refl _⟩
  | f + 1, n => by
    show n ≤ (if ca_gap g s n then n else ca_least g s (n + 1) f) ∧ (if ca_gap g s n then n else ca_least g s (n + 1) f) ≤ n + (f + 1)
    have h := ca_least_b g s f (n + 1)
    split
    · omega
    · omega
theorem ca_lg_b (g : ca_S) (s : Nat) : 1 ≤ ca_lg g s ∧ ca_lg g s ≤ 25 := ca_least_b g s 24 1
theorem ca_give_N {g : ca_S} {s n f : Nat} (h : ca_tb g s n = none) : ca_give s n (f + 1) g = ca_give s (n + 1) f g := by
  show ca_give s (n + 1) f (match ca_tb g s n with | none => g | some j => if ca_iv g 10 j 4 = 0 then ca_turn g j false else g) = _
  rw [h]
theorem ca_give_S {g : ca_S} {s n f j : Nat} (h : ca_tb g s n = some j) : ca_give s n (f + 1) g = ca_give s (n + 1) f (if ca_iv g 10 j 4 = 0 then ca_turn g j false else g) := by
  show ca_give s (n + 1) f (match ca_tb g s n with | none => g | some j => if ca_iv g 10 j 4 = 0 then ca_turn g j false else g) = _
  rw [h]
theorem ca_retry_N {g : ca_S} {n : Nat} (h : ca_ln g 3 = []) : ca_retry (n + 1) g = ca_retry n g := by
  show ca_retry n (match ca_ln g 3 with | [] => g | j :: r => ca_turn (ca_sn g 3 r) j true) = _
  rw [h]
theorem ca_retry_S {g : ca_S} {n j : Nat} {r : List Nat} (h : ca_ln g 3 = j :: r) : ca_retry (n + 1) g = ca_retry n (ca_turn (ca_sn g 3 r) j true) := by
  show ca_retry n (match ca_ln g 3 with | [] => g | j :: r => ca_turn (ca_sn g 3 r) j true) = _
  rw [h]
theorem ca_longs_N {g : ca_S} {n : Nat} (h : ca_ln g 2 = []) : ca_longs (n + 1) g = g := by
  show (match ca_ln g 2 with | [] => g | j :: r => if ca_iv g 0 0 7 - ca_iv g 10 j 7 ≤ 50 then g else ca_longs n (ca_app (ca_si (ca_sn g 2 r) 10 j 4 5) 1 j)) = _
  rw [h]
theorem ca_longs_S {g : ca_S} {n j : Nat} {r : List Nat} (h : ca_ln g 2 = j :: r) : ca_longs (n + 1) g = if ca_iv g 0 0 7 - ca_iv g 10 j 7 ≤ 50 then g else ca_longs n (ca_app (ca_si (ca_sn g 2 r) 10 j 4 5) 1 j) := by
  show (match ca_ln g 2 with | [] => g | j :: r => if ca_iv g 0 0 7 - ca_iv g 10 j 7 ≤ 50 then g else ca_longs n (ca_app (ca_si (ca_sn g 2 r) 10 j 4 5) 1 j)) = _
  rw [h]
def ca_nmAt (g : ca_S) (x : Nat) (i : Int32) : Int32 := match ca_at g x i with
  | none => -1
  | some z => ca_iv g 10 z.2 0
theorem ca_at_some {g : ca_S} {x : Nat} {i : Int32} {z : Nat × Nat} (hok : ca_ok g) (h : ca_at g x i = some z) : ∃ j, j < ca_nm g ∧ z = (10, j) := by
  unfold ca_at at h
  split at h
  · cases h
  · cases hq : (ca_ln g x)[i.toNatClampNeg]? with
    | none => rw [hq] at h; cases h
    | some j =>
      rw [hq] at h
      cases h
      exact ⟨j, hok.2.1 x j (List.mem_of_getElem? hq), rfl⟩
section CA3
variable {l : Launch} {D : va_G} {Z : Nat × Cell} {tys : List (ClassId × FieldType)} {ad : mg_Ad}
theorem ct_A_give (hty : tys.map (·.2) = ma_ty) (g : ca_S) (q : mr_St) {s0 : Nat} (hs : s0 < 4) (hok : ca_ok g) : mr_M l my_A_giveTurns mc_A_giveTurns 5 none 5 D mn_cl Z mb_B tys ma_sh [va_rf (some (ad 0 0)), va_rf (some (ad 4 s0))] ad (ma_R g q) none (ma_R (ca_turns g s0) q) := by
  have hlb := ca_lg_b g s0
  refine mg_M.of (cc := mc_A_giveTurns) (maxL := 5) (ret := none) (by decide) rfl (Nat.le_of_ble_eq_true rfl) (mg_caS rfl (mg_caS rfl mg_ca0)) ?_
  intro p e s m args below meth c K hret hlk hnm hA
  have loop : ∀ (f n : Nat) (g' : ca_S), n + f = ca_lg g s0 → 1 ≤ n → ca_to g g' → ca_give s0 n f g' = (ca_turns g s0) → mg_G p l e (mg_rm 5 0 0) s m args below meth c D mn_cl Z (mg_A ad (mr_C tys ma_sh ad (ma_R g q)) s.heap.size) s.heap 5 (MQ below (mg_Qc D mn_cl Z ad (mr_C tys ma_sh ad (ma_R g q)) s.heap.size (mg_Po tys ma_sh ad none (ma_R (ca_turns g s0) q))) args s 0 0 (mg_A ad (mr_C tys ma_sh ad (ma_R g q)) s.heap.size)) ad (mr_C tys ma_sh ad (ma_R g' q)) [some (va_rf (some (ad 0 0))), some (va_rf (some (ad 4 s0))), some (.int (Int32.ofNat (ca_lg g s0))), some (.int (Int32.ofNat n))] 0 0 [] 7 := by
    intro f
    induction f with
    | zero =>
      intro n g' hn h1 ht hT
      refine mg_iload_n K md_A_giveTurns_7 rfl ?_
      refine mg_iload_n K md_A_giveTurns_8 rfl ?_
      refine mg_icmp_ge K 45 md_A_giveTurns_9 rfl (fun h9 => ?_) (fun h9 => ?_)
      · exact mg_vret K hret hlk md_A_giveTurns_45 (Nat.le_refl _) (Nat.le_refl _) ⟨rfl, rfl, by rw [← hT]; rfl⟩
      · exact absurd ((mi_le (by omega) (by omega)).mpr (by omega)) h9
    | succ f ih =>
      intro n g' hn h1 ht hT
      cases hx : ca_tb g' s0 n with
      | none =>
        rw [ca_give_N hx] at hT
        refine mg_iload_n K md_A_giveTurns_7 rfl ?_
        refine mg_iload_n K md_A_giveTurns_8 rfl ?_
        refine mg_icmp_ge K 45 md_A_giveTurns_9 rfl (fun h9 => ?_) (fun h9 => ?_)
        · exact absurd ((mi_le (by omega) (by omega)).mp h9) (by omega)
        · refine mg_aload_n K md_A_giveTurns_12 rfl ?_
          refine mg_iload_n K md_A_giveTurns_13 rfl ?_
          refine mr_cV K hA (ct_S_get hty g' q hs h1 (by omega)) ms_A_82 (by decide) md_A_giveTurns_14 rfl rfl hs rfl (by decide) ⟨Nat.le_refl _, Nat.le_refl _⟩ ?_
          rw [ca_tv_n hx]
          refine mg_astore K md_A_giveTurns_17 (by decide) ?_
          refine mg_aload K md_A_giveTurns_19 rfl ?_
          refine mg_ifnull K 39 md_A_giveTurns_21 rfl (fun h21 => ?_) (fun h21 => ?_)
          · refine mg_iinc K (v := Int32.ofNat (n + 1)) md_A_giveTurns_39 rfl (mi_a1 n) (by decide) ?_
            refine mg_goto K 7 md_A_giveTurns_42 rfl ?_
            refine mg_take 4 ?_
            exact ih (n + 1) g' (by omega) (by omega) ht hT
          · exact absurd rfl h21
      | some j =>
        have hj := ht.ok.1 s0 n j hx
        rw [ca_give_S hx] at hT
        refine mg_iload_n K md_A_giveTurns_7 rfl ?_
        refine mg_iload_n K md_A_giveTurns_8 rfl ?_
        refine mg_icmp_ge K 45 md_A_giveTurns_9 rfl (fun h9 => ?_) (fun h9 => ?_)
        · exact absurd ((mi_le (by omega) (by omega)).mp h9) (by omega)
        · refine mg_aload_n K md_A_giveTurns_12 rfl ?_
          refine mg_iload_n K md_A_giveTurns_13 rfl ?_
          refine mr_cV K hA (ct_S_get hty g' q hs h1 (by omega)) ms_A_82 (by decide) md_A_giveTurns_14 rfl rfl hs rfl (by decide) ⟨Nat.le_refl _, Nat.le_refl _⟩ ?_
          rw [ca_tv_s hx, mr_as]
          refine mg_astore K md_A_giveTurns_17 (by decide) ?_
          refine mg_aload K md_A_giveTurns_19 rfl ?_
          refine mg_ifnull K 39 md_A_giveTurns_21 rfl (fun h21 => ?_) (fun h21 => ?_)
          · exact absurd h21 (fun z => by cases z)
          · refine mg_aload K md_A_giveTurns_24 rfl ?_
            refine mr_getI (v := ca_iv g' 10 j 4) K mf_A_86 md_A_giveTurns_26 (by decide) hj rfl ?_
            refine mg_if_ne K 39 md_A_giveTurns_29 rfl (fun h29 => ?_) (fun h29 => ?_)
            · rw [if_neg h29] at hT
              refine mg_iinc K (v := Int32.ofNat (n + 1)) md_A_giveTurns_39 rfl (mi_a1 n) (by decide) ?_
              refine mg_goto K 7 md_A_giveTurns_42 rfl ?_
              refine mg_take 4 ?_
              exact ih (n + 1) g' (by omega) (by omega) ht hT
            · rw [if_pos h29] at hT
              refine mg_aload_n K md_A_giveTurns_32 rfl ?_
              refine mg_aload K md_A_giveTurns_33 rfl ?_
              refine mg_iconst K (v := 0) md_A_giveTurns_35 (by decide) ?_
              refine mr_cV K hA (ct_A_turn hty g' q false ht.ok hj) ms_A_184 (by decide) md_A_giveTurns_36 rfl rfl Nat.zero_lt_one rfl (by decide) ⟨Nat.le_refl _, Nat.le_refl _⟩ ?_
              refine mg_iinc K (v := Int32.ofNat (n + 1)) md_A_giveTurns_39 rfl (mi_a1 n) (by decide) ?_
              refine mg_goto K 7 md_A_giveTurns_42 rfl ?_
              refine mg_take 4 ?_
              exact ih (n + 1) _ (by omega) (by omega) (ht.tr (ca_to.turn ht.ok false hj)) hT
  refine mg_aload_n K md_A_giveTurns_0 rfl ?_
  refine mr_cV K hA (ct_S_leastGap hty g q hs (hok.1 s0)) ms_A_118 (by decide) md_A_giveTurns_1 rfl rfl hs rfl (by decide) ⟨Nat.le_refl _, Nat.le_refl _⟩ ?_
  refine mg_istore_n K md_A_giveTurns_4 (by decide) ?_
  refine mg_iconst K (v := 1) md_A_giveTurns_5 (by decide) ?_
  refine mg_istore_n K md_A_giveTurns_6 (by decide) ?_
  exact loop (ca_lg g s0 - 1) 1 g (by omega) (by omega) (ca_to.rf hok) rfl
theorem ct_A_come (hty : tys.map (·.2) = ma_ty) (g : ca_S) (q : mr_St) {s0 j : Nat} (hs : s0 < 4) (hok : ca_ok g) (hj : j < ca_nm g) : mr_M l my_A_come mc_A_come 3 none 6 D mn_cl Z mb_B tys ma_sh [va_rf (some (ad 0 0)), va_rf (some (ad 4 s0)), va_rf (some (ad 10 j))] ad (ma_R g q) none (ma_R (ca_come g s0 j) q) := by
  have t1 := ca_to.si hok 10 j 4 0 (by omega)
  have t2 := t1.tr (ca_to.si t1.ok 10 j 6 (ca_iv g 0 0 7) (by omega))
  have t3 := ca_to.turn t2.ok false (j := j) hj
  refine mg_M.of (cc := mc_A_come) (maxL := 3) (ret := none) (by decide) rfl (Nat.le_of_ble_eq_true rfl) (mg_caS rfl (mg_caS rfl (mg_caS rfl mg_ca0))) ?_
  intro p e s m args below meth c K hret hlk hnm hA
  refine mg_aload_n K md_A_come_0 rfl ?_
  refine mg_iconst K (v := 0) md_A_come_1 (by decide) ?_
  refine mr_putI K mf_A_86 md_A_come_2 hj ?_
  refine mr_eqr (ma_sI _ _ _ _ _ _ (by decide) (by decide)) ?_
  refine mg_aload_n K md_A_come_5 rfl ?_
  refine mg_aload_n K md_A_come_6 rfl ?_
  refine mr_getI (v := ca_iv g 0 0 7) K mf_A_41 md_A_come_7 (by decide) Nat.zero_lt_one rfl ?_
  refine mr_putI K mf_A_178 md_A_come_10 hj ?_
  refine mr_eqr (ma_sI _ _ _ _ _ _ (by decide) (by decide)) ?_
  refine mg_aload_n K md_A_come_13 rfl ?_
  refine mr_getI (v := ca_iv g 10 j 1) K mf_A_181 md_A_come_14 (by decide) hj (t2.2.2.2.1 j 1 (Or.inr (Or.inl rfl))) ?_
  refine mg_iconst K (v := 3) md_A_come_17 (by decide) ?_
  refine mg_icmp_ne K 27 md_A_come_18 rfl (fun h18 => ?_) (fun h18 => ?_)
  · refine mg_aload_n K md_A_come_27 rfl ?_
    refine mg_aload_n K md_A_come_28 rfl ?_
    refine mr_cV K hA (ct_A_give hty (ca_si (ca_si g 10 j 4 0) 10 j 6 (ca_iv g 0 0 7)) q hs t2.ok) ms_A_129 (by decide) md_A_come_29 rfl rfl Nat.zero_lt_one rfl (by decide) ⟨Nat.le_refl _, Nat.le_refl _⟩ ?_
    exact mg_vret K hret hlk md_A_come_32 (Nat.le_refl _) (Nat.le_refl _) ⟨rfl, rfl, by unfold ca_come; simp only; rw [if_neg h18]⟩
  · refine mg_aload_n K md_A_come_21 rfl ?_
    refine mg_aload_n K md_A_come_22 rfl ?_
    refine mg_iconst K (v := 0) md_A_come_23 (by decide) ?_
    refine mr_cV K hA (ct_A_turn hty (ca_si (ca_si g 10 j 4 0) 10 j 6 (ca_iv g 0 0 7)) q false t2.ok hj) ms_A_184 (by decide) md_A_come_24 rfl rfl Nat.zero_lt_one rfl (by decide) ⟨Nat.le_refl _, Nat.le_refl _⟩ ?_
    refine mg_aload_n K md_A_come_27 rfl ?_
    refine mg_aload_n K md_A_come_28 rfl ?_
    refine mr_cV K hA (ct_A_give hty (ca_turn (ca_si (ca_si g 10 j 4 0) 10 j 6 (ca_iv g 0 0 7)) j false) q hs t3.ok) ms_A_129 (by decide) md_A_come_29 rfl rfl Nat.zero_lt_one rfl (by decide) ⟨Nat.le_refl _, Nat.le_refl _⟩ ?_
    exact mg_vret K hret hlk md_A_come_32 (Nat.le_refl _) (Nat.le_refl _) ⟨rfl, rfl, by unfold ca_come; simp only; rw [if_pos h18]⟩
theorem ct_A_retry (hty : tys.map (·.2) = ma_ty) (g : ca_S) (q : mr_St) (hok : ca_ok g) : mr_M l my_A_tryFailedAgain mc_A_tryFailedAgain 4 none 5 D mn_cl Z mb_B tys ma_sh [va_rf (some (ad 0 0))] ad (ma_R g q) none (ma_R (ca_retry (ca_ln g 3).length g) q) := by
  have hle := hok.2.2.1 3
  refine mg_M.of (cc := mc_A_tryFailedAgain) (maxL := 4) (ret := none) (by decide) rfl (Nat.le_of_ble_eq_true rfl) (mg_caS rfl mg_ca0) ?_
  intro p e s m args below meth c K hret hlk hnm hA
  have loop : ∀ (f n : Nat) (g' : ca_S), n + f = (ca_ln g 3).length → ca_to g g' → ca_retry f g' = (ca_retry (ca_ln g 3).length g) → mg_G p l e (mg_rm 5 0 0) s m args below meth c D mn_cl Z (mg_A ad (mr_C tys ma_sh ad (ma_R g q)) s.heap.size) s.heap 4 (MQ below (mg_Qc D mn_cl Z ad (mr_C tys ma_sh ad (ma_R g q)) s.heap.size (mg_Po tys ma_sh ad none (ma_R (ca_retry (ca_ln g 3).length g) q))) args s 0 0 (mg_A ad (mr_C tys ma_sh ad (ma_R g q)) s.heap.size)) ad (mr_C tys ma_sh ad (ma_R g' q)) [some (va_rf (some (ad 0 0))), some (.int (Int32.ofNat (ca_ln g 3).length)), some (.int (Int32.ofNat n))] 0 0 [] 10 := by
    intro f
    induction f with
    | zero =>
      intro n g' hn ht hT
      refine mg_iload_n K md_A_tryFailedAgain_10 rfl ?_
      refine mg_iload_n K md_A_tryFailedAgain_11 rfl ?_
      refine mg_icmp_ge K 40 md_A_tryFailedAgain_12 rfl (fun h12 => ?_) (fun h12 => ?_)
      · exact mg_vret K hret hlk md_A_tryFailedAgain_40 (Nat.le_refl _) (Nat.le_refl _) ⟨rfl, rfl, by rw [← hT]; rfl⟩
      · exact absurd ((mi_le (by omega) (by omega)).mpr (by omega)) h12
    | succ f ih =>
      intro n g' hn ht hT
      cases hx : ca_ln g' 3 with
      | nil =>
        rw [ca_retry_N hx] at hT
        refine mg_iload_n K md_A_tryFailedAgain_10 rfl ?_
        refine mg_iload_n K md_A_tryFailedAgain_11 rfl ?_
        refine mg_icmp_ge K 40 md_A_tryFailedAgain_12 rfl (fun h12 => ?_) (fun h12 => ?_)
        · exact absurd ((mi_le (by omega) (by omega)).mp h12) (by omega)
        · refine mg_aload_n K md_A_tryFailedAgain_15 rfl ?_
          refine mr_getS (k2 := 8) (i2 := 3) K mf_A_38 md_A_tryFailedAgain_16 Nat.zero_lt_one rfl ?_
          refine mg_iconst K (v := 0) md_A_tryFailedAgain_19 (by decide) ?_
          refine mr_cV K hA (ct_L_takeN hty g' q (x := 3) (n := 0) (by decide) (ht.ok.2.2.1 3) (by decide) (by rw [hx]; exact Nat.le_refl _)) ms_A_222 (by decide) md_A_tryFailedAgain_20 rfl rfl (by decide : 3 < 4) rfl (by decide) ⟨Nat.le_refl _, Nat.le_refl _⟩ ?_
          refine mg_astore_n K md_A_tryFailedAgain_23 (by decide) ?_
          refine mg_aload_n K md_A_tryFailedAgain_24 rfl ?_
          refine mg_ifnull K 34 md_A_tryFailedAgain_25 rfl (fun h25 => ?_) (fun h25 => ?_)
          · refine mg_iinc K (v := Int32.ofNat (n + 1)) md_A_tryFailedAgain_34 rfl (mi_a1 n) (by decide) ?_
            refine mg_goto K 10 md_A_tryFailedAgain_37 rfl ?_
            refine mg_take 3 ?_
            exact ih (n + 1) g' (by omega) ht hT
          · exact absurd rfl h25
      | cons j r =>
        have hjm : j ∈ ca_ln g' 3 := by rw [hx]; exact List.mem_cons_self
        have hj := ht.ok.2.1 3 j hjm
        have tk := ca_to.take ht.ok 3 0
        have he : (ca_ln g' 3).eraseIdx 0 = r := by rw [hx]; rfl
        rw [he] at tk
        rw [ca_retry_S hx] at hT
        have tt := ca_to.turn tk.ok true (j := j) hj
        refine mg_iload_n K md_A_tryFailedAgain_10 rfl ?_
        refine mg_iload_n K md_A_tryFailedAgain_11 rfl ?_
        refine mg_icmp_ge K 40 md_A_tryFailedAgain_12 rfl (fun h12 => ?_) (fun h12 => ?_)
        · exact absurd ((mi_le (by omega) (by omega)).mp h12) (by omega)
        · refine mg_aload_n K md_A_tryFailedAgain_15 rfl ?_
          refine mr_getS (k2 := 8) (i2 := 3) K mf_A_38 md_A_tryFailedAgain_16 Nat.zero_lt_one rfl ?_
          refine mg_iconst K (v := 0) md_A_tryFailedAgain_19 (by decide) ?_
          refine mr_cV K hA (ct_L_take hty g' q (x := 3) (n := 0) (j := j) (by decide) (ht.ok.2.2.1 3) (fun i hi => ht.ok.2.1 3 i hi) (by rw [hx]; rfl)) ms_A_222 (by decide) md_A_tryFailedAgain_20 rfl rfl (by decide : 3 < 4) rfl (by decide) ⟨Nat.le_refl _, Nat.le_refl _⟩ ?_
          rw [he]
          refine mg_astore_n K md_A_tryFailedAgain_23 (by decide) ?_
          refine mg_aload_n K md_A_tryFailedAgain_24 rfl ?_
          refine mg_ifnull K 34 md_A_tryFailedAgain_25 rfl (fun h25 => ?_) (fun h25 => ?_)
          · exact absurd h25 (fun z => by cases z)
          · refine mg_aload_n K md_A_tryFailedAgain_28 rfl ?_
            refine mg_aload_n K md_A_tryFailedAgain_29 rfl ?_
            refine mg_iconst K (v := 1) md_A_tryFailedAgain_30 (by decide) ?_
            refine mr_cV K hA (ct_A_turn hty (ca_sn g' 3 r) q true tk.ok hj) ms_A_184 (by decide) md_A_tryFailedAgain_31 rfl rfl Nat.zero_lt_one rfl (by decide) ⟨Nat.le_refl _, Nat.le_refl _⟩ ?_
            refine mg_iinc K (v := Int32.ofNat (n + 1)) md_A_tryFailedAgain_34 rfl (mi_a1 n) (by decide) ?_
            refine mg_goto K 10 md_A_tryFailedAgain_37 rfl ?_
            refine mg_take 3 ?_
            exact ih (n + 1) _ (by omega) (ht.tr (tk.tr tt)) hT
  refine mg_aload_n K md_A_tryFailedAgain_0 rfl ?_
  refine mr_getS (k2 := 8) (i2 := 3) K mf_A_38 md_A_tryFailedAgain_1 Nat.zero_lt_one rfl ?_
  refine mr_getI (v := Int32.ofNat (ca_ln g 3).length) K mf_A_109 md_A_tryFailedAgain_4 (by decide) (by decide : 3 < 4) rfl ?_
  refine mg_istore_n K md_A_tryFailedAgain_7 (by decide) ?_
  refine mg_iconst K (v := 0) md_A_tryFailedAgain_8 (by decide) ?_
  refine mg_istore_n K md_A_tryFailedAgain_9 (by decide) ?_
  exact loop (ca_ln g 3).length 0 g (by omega) (ca_to.rf hok) rfl
theorem ct_A_longs (hty : tys.map (·.2) = ma_ty) (g : ca_S) (q : mr_St) (hok : ca_ok g) : mr_M l my_A_endLongWaits mc_A_endLongWaits 3 none 3 D mn_cl Z mb_B tys ma_sh [va_rf (some (ad 0 0))] ad (ma_R g q) none (ma_R (ca_longs (ca_ln g 2).length g) q) := by
  have hle := hok.2.2.1 2
  refine mg_M.of (cc := mc_A_endLongWaits) (maxL := 3) (ret := none) (by decide) rfl (Nat.le_of_ble_eq_true rfl) (mg_caS rfl mg_ca0) ?_
  intro p e s m args below meth c K hret hlk hnm hA
  have loop : ∀ (n : Nat) (g' : ca_S), n ≤ 96 → ca_to g g' → ca_longs n g' = (ca_longs (ca_ln g 2).length g) → mg_G p l e (mg_rm 3 0 0) s m args below meth c D mn_cl Z (mg_A ad (mr_C tys ma_sh ad (ma_R g q)) s.heap.size) s.heap 3 (MQ below (mg_Qc D mn_cl Z ad (mr_C tys ma_sh ad (ma_R g q)) s.heap.size (mg_Po tys ma_sh ad none (ma_R (ca_longs (ca_ln g 2).length g) q))) args s 0 0 (mg_A ad (mr_C tys ma_sh ad (ma_R g q)) s.heap.size)) ad (mr_C tys ma_sh ad (ma_R g' q)) [some (va_rf (some (ad 0 0))), some (.int (Int32.ofNat n))] 0 0 [] 8 := by
    intro n
    induction n with
    | zero =>
      intro g' hn ht hT
      refine mg_iload_n K md_A_endLongWaits_8 rfl ?_
      refine mg_if_le K 68 md_A_endLongWaits_9 rfl (fun h9 => ?_) (fun h9 => ?_)
      · exact mg_vret K hret hlk md_A_endLongWaits_68 (Nat.le_refl _) (Nat.le_refl _) ⟨rfl, rfl, by rw [← hT]; rfl⟩
      · exact absurd ((mi_le (a := 0) (b := 0) (by omega) (by omega)).mpr (by omega)) h9
    | succ n ih =>
      intro g' hn ht hT
      cases hx : ca_ln g' 2 with
      | nil =>
        rw [ca_longs_N hx] at hT
        refine mg_iload_n K md_A_endLongWaits_8 rfl ?_
        refine mg_if_le K 68 md_A_endLongWaits_9 rfl (fun h9 => ?_) (fun h9 => ?_)
        · exact absurd ((mi_le (a := n + 1) (b := 0) (by omega) (by omega)).mp h9) (by omega)
        · refine mg_aload_n K md_A_endLongWaits_12 rfl ?_
          refine mr_getS (k2 := 8) (i2 := 2) K mf_A_35 md_A_endLongWaits_13 Nat.zero_lt_one rfl ?_
          refine mg_iconst K (v := 0) md_A_endLongWaits_16 (by decide) ?_
          refine mr_cV K hA (ct_L_get hty g' q (x := 2) (Int32.ofNat 0) (by decide) (ht.ok.2.2.1 2)) ms_A_225 (by decide) md_A_endLongWaits_17 rfl rfl (by decide : 2 < 4) rfl (by decide) ⟨Nat.le_refl _, Nat.le_refl _⟩ ?_
          rw [ca_at_o (n := 0) (by decide) (by rw [hx]; exact Nat.le_refl _)]
          refine mg_astore_n K md_A_endLongWaits_20 (by decide) ?_
          refine mg_aload_n K md_A_endLongWaits_21 rfl ?_
          refine mg_ifnull K 39 md_A_endLongWaits_22 rfl (fun h22 => ?_) (fun h22 => ?_)
          · exact mg_vret K hret hlk md_A_endLongWaits_39 (Nat.le_refl _) (Nat.le_refl _) ⟨rfl, rfl, by rw [← hT]⟩
          · exact absurd rfl h22
      | cons j r =>
        have hjm : j ∈ ca_ln g' 2 := by rw [hx]; exact List.mem_cons_self
        have hj := ht.ok.2.1 2 j hjm
        have tk := ca_to.take ht.ok 2 0
        have he : (ca_ln g' 2).eraseIdx 0 = r := by rw [hx]; rfl
        have h0 : (ca_ln g' 2)[0]? = some j := by rw [hx]; rfl
        rw [he] at tk
        have t2 := ca_to.si tk.ok 10 j 4 5 (by omega)
        have t3 := ca_to.app t2.ok 1 (j := j) hj
        rw [ca_longs_S hx] at hT
        refine mg_iload_n K md_A_endLongWaits_8 rfl ?_
        refine mg_if_le K 68 md_A_endLongWaits_9 rfl (fun h9 => ?_) (fun h9 => ?_)
        · exact absurd ((mi_le (a := n + 1) (b := 0) (by omega) (by omega)).mp h9) (by omega)
        · refine mg_aload_n K md_A_endLongWaits_12 rfl ?_
          refine mr_getS (k2 := 8) (i2 := 2) K mf_A_35 md_A_endLongWaits_13 Nat.zero_lt_one rfl ?_
          refine mg_iconst K (v := 0) md_A_endLongWaits_16 (by decide) ?_
          refine mr_cV K hA (ct_L_get hty g' q (x := 2) (Int32.ofNat 0) (by decide) (ht.ok.2.2.1 2)) ms_A_225 (by decide) md_A_endLongWaits_17 rfl rfl (by decide : 2 < 4) rfl (by decide) ⟨Nat.le_refl _, Nat.le_refl _⟩ ?_
          rw [ca_at_n (n := 0) (by decide) h0, mr_as]
          refine mg_astore_n K md_A_endLongWaits_20 (by decide) ?_
          refine mg_aload_n K md_A_endLongWaits_21 rfl ?_
          refine mg_ifnull K 39 md_A_endLongWaits_22 rfl (fun h22 => ?_) (fun h22 => ?_)
          · exact absurd h22 (fun z => by cases z)
          · refine mg_aload_n K md_A_endLongWaits_25 rfl ?_
            refine mr_getI (v := ca_iv g' 0 0 7) K mf_A_41 md_A_endLongWaits_26 (by decide) Nat.zero_lt_one rfl ?_
            refine mg_aload_n K md_A_endLongWaits_29 rfl ?_
            refine mr_getI (v := ca_iv g' 10 j 7) K mf_A_202 md_A_endLongWaits_30 (by decide) hj rfl ?_
            refine mg_isub K md_A_endLongWaits_33 ?_
            refine mg_bipush K (v := 50) md_A_endLongWaits_34 (by decide) ?_
            refine mg_icmp_gt K 40 md_A_endLongWaits_36 rfl (fun h36 => ?_) (fun h36 => ?_)
            · rw [if_neg (Int32.not_le.mpr h36)] at hT
              refine mg_aload_n K md_A_endLongWaits_40 rfl ?_
              refine mr_getS (k2 := 8) (i2 := 2) K mf_A_35 md_A_endLongWaits_41 Nat.zero_lt_one rfl ?_
              refine mg_iconst K (v := 0) md_A_endLongWaits_44 (by decide) ?_
              refine mr_cV K hA (ct_L_take hty g' q (x := 2) (n := 0) (j := j) (by decide) (ht.ok.2.2.1 2) (fun i hi => ht.ok.2.1 2 i hi) h0) ms_A_222 (by decide) md_A_endLongWaits_45 rfl rfl (by decide : 2 < 4) rfl (by decide) ⟨Nat.le_refl _, Nat.le_refl _⟩ ?_
              rw [he]
              refine mg_pop K md_A_endLongWaits_48 rfl ?_
              refine mg_aload_n K md_A_endLongWaits_49 rfl ?_
              refine mg_iconst K (v := 5) md_A_endLongWaits_50 (by decide) ?_
              refine mr_putI K mf_A_86 md_A_endLongWaits_51 hj ?_
              refine mr_eqr (ma_sI _ _ _ _ _ _ (by decide) (by decide)) ?_
              refine mg_aload_n K md_A_endLongWaits_54 rfl ?_
              refine mr_getS (k2 := 8) (i2 := 1) K mf_A_32 md_A_endLongWaits_55 Nat.zero_lt_one rfl ?_
              refine mg_aload_n K md_A_endLongWaits_58 rfl ?_
              refine mr_cV K hA (ct_L_append hty (ca_si (ca_sn g' 2 r) 10 j 4 5) q (x := 1) (by decide) hj (t2.ok.2.2.1 1)) ms_A_205 (by decide) md_A_endLongWaits_59 rfl rfl (by decide : 1 < 4) rfl (by decide) ⟨Nat.le_refl _, Nat.le_refl _⟩ ?_
              refine mg_iinc K (v := Int32.ofNat n) md_A_endLongWaits_62 rfl (mi_m1 n) (by decide) ?_
              refine mg_goto K 8 md_A_endLongWaits_65 rfl ?_
              refine mg_take 2 ?_
              exact ih _ (by omega) (ht.tr (tk.tr (t2.tr t3))) hT
            · rw [if_pos (Int32.not_lt.mp h36)] at hT
              exact mg_vret K hret hlk md_A_endLongWaits_39 (Nat.le_refl _) (Nat.le_refl _) ⟨rfl, rfl, by rw [← hT]⟩
  refine mg_aload_n K md_A_endLongWaits_0 rfl ?_
  refine mr_getS (k2 := 8) (i2 := 2) K mf_A_35 md_A_endLongWaits_1 Nat.zero_lt_one rfl ?_
  refine mr_getI (v := Int32.ofNat (ca_ln g 2).length) K mf_A_109 md_A_endLongWaits_4 (by decide) (by decide : 2 < 4) rfl ?_
  refine mg_istore_n K md_A_endLongWaits_7 (by decide) ?_
  exact loop (ca_ln g 2).length g hle (ca_to.rf hok) rfl
theorem ct_A_received (hty : tys.map (·.2) = ma_ty) (g : ca_S) (q : mr_St) {j : Nat} (hj : j < ca_nm g) : mr_M l my_A_received mc_A_received 1 (some .int) 1 D mn_cl Z mb_B tys ma_sh [va_rf (some (ad 10 j))] ad (ma_R g q) (some (.int (ca_recd g j))) (ma_R g q) := by
  refine mg_M.of (cc := mc_A_received) (maxL := 1) (ret := (some .int)) (by decide) rfl (Nat.le_of_ble_eq_true rfl) (mg_caS rfl mg_ca0) ?_
  intro p e s m args below meth c K hret hlk hnm hA
  refine mg_aload_n K md_A_received_0 rfl ?_
  refine mr_getI (v := ca_iv g 10 j 4) K mf_A_86 md_A_received_1 (by decide) hj rfl ?_
  by_cases hS4_1 : ca_iv g 10 j 4 = 1
  · refine mg_tabIn (off := 32) K 1 36 md_A_received_4 hS4_1 (by decide) (by decide) (by decide) rfl ?_
    refine mg_iconst K (v := 1) md_A_received_36 (by decide) ?_
    exact mg_iret K hret hlk md_A_received_37 (Nat.le_refl _) (Nat.le_refl _) ⟨by unfold ca_recd; simp only; rw [if_pos hS4_1], rfl, rfl⟩
  by_cases hS4_2 : ca_iv g 10 j 4 = 2
  · refine mg_tabIn (off := 38) K 2 42 md_A_received_4 hS4_2 (by decide) (by decide) (by decide) rfl ?_
    refine mg_aload_n K md_A_received_42 rfl ?_
    refine mr_getI (v := ca_iv g 10 j 5) K mf_A_89 md_A_received_43 (by decide) hj rfl ?_
    exact mg_iret K hret hlk md_A_received_46 (Nat.le_refl _) (Nat.le_refl _) ⟨by unfold ca_recd; simp only; rw [hS4_2]; rfl, rfl, rfl⟩
  by_cases hS4_3 : ca_iv g 10 j 4 = 3
  · refine mg_tabIn (off := 34) K 3 38 md_A_received_4 hS4_3 (by decide) (by decide) (by decide) rfl ?_
    refine mg_iconst K (v := 4) md_A_received_38 (by decide) ?_
    exact mg_iret K hret hlk md_A_received_39 (Nat.le_refl _) (Nat.le_refl _) ⟨by unfold ca_recd; simp only; rw [hS4_3]; rfl, rfl, rfl⟩
  by_cases hS4_4 : ca_iv g 10 j 4 = 4
  · refine mg_tabIn (off := 36) K 4 40 md_A_received_4 hS4_4 (by decide) (by decide) (by decide) rfl ?_
    refine mg_iconst K (v := 5) md_A_received_40 (by decide) ?_
    exact mg_iret K hret hlk md_A_received_41 (Nat.le_refl _) (Nat.le_refl _) ⟨by unfold ca_recd; simp only; rw [hS4_4]; rfl, rfl, rfl⟩
  have ehS4_1 : (ca_iv g 10 j 4).toInt ≠ 1 := fun z => hS4_1 (Int32.toInt_inj.mp z)
  have ehS4_2 : (ca_iv g 10 j 4).toInt ≠ 2 := fun z => hS4_2 (Int32.toInt_inj.mp z)
  have ehS4_3 : (ca_iv g 10 j 4).toInt ≠ 3 := fun z => hS4_3 (Int32.toInt_inj.mp z)
  have ehS4_4 : (ca_iv g 10 j 4).toInt ≠ 4 := fun z => hS4_4 (Int32.toInt_inj.mp z)
  refine mg_tabOut K 47 md_A_received_4 (by omega) rfl ?_
  refine mg_iconst K (v := 2) md_A_received_47 (by decide) ?_
  exact mg_iret K hret hlk md_A_received_48 (Nat.le_refl _) (Nat.le_refl _) ⟨by unfold ca_recd; simp only; rw [if_neg hS4_1, if_neg hS4_3, if_neg hS4_4, if_neg hS4_2], rfl, rfl⟩
theorem ct_A_nameAt (hty : tys.map (·.2) = ma_ty) (g : ca_S) (q : mr_St) {x : Nat} (i : Int32) (hx : x < 4) (hok : ca_ok g) : mr_M l my_A_nameAt mc_A_nameAt 3 (some .int) 2 D mn_cl Z mb_B tys ma_sh [va_rf (some (ad 8 x)), .int i] ad (ma_R g q) (some (.int (ca_nmAt g x i))) (ma_R g q) := by
  refine mg_M.of (cc := mc_A_nameAt) (maxL := 3) (ret := (some .int)) (by decide) rfl (Nat.le_of_ble_eq_true rfl) (mg_caS rfl (mg_caS rfl mg_ca0)) ?_
  intro p e s m args below meth c K hret hlk hnm hA
  cases hz : ca_at g x i with
  | none =>
    refine mg_aload_n K md_A_nameAt_0 rfl ?_
    refine mg_iload_n K md_A_nameAt_1 rfl ?_
    refine mr_cV K hA (ct_L_get hty g q i hx (hok.2.2.1 x)) ms_A_225 (by decide) md_A_nameAt_2 rfl rfl hx rfl (by decide) ⟨Nat.le_refl _, Nat.le_refl _⟩ ?_
    rw [hz]
    refine mg_astore_n K md_A_nameAt_5 (by decide) ?_
    refine mg_aload_n K md_A_nameAt_6 rfl ?_
    refine mg_ifnonnull K 14 md_A_nameAt_7 rfl (fun h7 => ?_) (fun h7 => ?_)
    · exact absurd rfl h7
    · refine mg_iconst K (v := -1) md_A_nameAt_10 (by decide) ?_
      refine mg_goto K 18 md_A_nameAt_11 rfl ?_
      exact mg_iret K hret hlk md_A_nameAt_18 (Nat.le_refl _) (Nat.le_refl _) ⟨by unfold ca_nmAt; rw [hz], rfl, rfl⟩
  | some z =>
    obtain ⟨j, hj, rfl⟩ := ca_at_some hok hz
    refine mg_aload_n K md_A_nameAt_0 rfl ?_
    refine mg_iload_n K md_A_nameAt_1 rfl ?_
    refine mr_cV K hA (ct_L_get hty g q i hx (hok.2.2.1 x)) ms_A_225 (by decide) md_A_nameAt_2 rfl rfl hx rfl (by decide) ⟨Nat.le_refl _, Nat.le_refl _⟩ ?_
    rw [hz, mr_as]
    refine mg_astore_n K md_A_nameAt_5 (by decide) ?_
    refine mg_aload_n K md_A_nameAt_6 rfl ?_
    refine mg_ifnonnull K 14 md_A_nameAt_7 rfl (fun h7 => ?_) (fun h7 => ?_)
    · refine mg_aload_n K md_A_nameAt_14 rfl ?_
      refine mr_getI (v := ca_iv g 10 j 0) K mf_A_226 md_A_nameAt_15 (by decide) hj rfl ?_
      exact mg_iret K hret hlk md_A_nameAt_18 (Nat.le_refl _) (Nat.le_refl _) ⟨by unfold ca_nmAt; rw [hz], rfl, rfl⟩
    · exact absurd h7 (fun z => by cases z)
end CA3
