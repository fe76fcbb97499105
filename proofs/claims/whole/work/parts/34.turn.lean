/-! the class: a message's turn -/
theorem ca_act_0 {g : ca_S} {j : Nat} (h : ca_iv g 10 j 1 = 0) : ca_act g j = ca_si (ca_si g 7 (ca_ms g j) 0 1) 7 (ca_ms g j) 1 (ca_iv g 10 j 3) := by unfold ca_act; rw [if_pos h]
theorem ca_act_1 {g : ca_S} {j : Nat} (h : ca_iv g 10 j 1 = 1) : ca_act g j = ca_si g 7 (ca_ms g j) 1 (ca_iv g 10 j 3) := by unfold ca_act; rw [if_neg (by rw [h]; decide), if_pos h]
theorem ca_act_2 {g : ca_S} {j : Nat} (h : ca_iv g 10 j 1 = 2) : ca_act g j = ca_si g 7 (ca_ms g j) 1 (ca_iv g 7 (ca_ms g j) 1 + ca_iv g 10 j 3) := by unfold ca_act; rw [if_neg (by rw [h]; decide), if_neg (by rw [h]; decide), if_pos h]
theorem ca_act_4 {g : ca_S} {j : Nat} (h : ca_iv g 10 j 1 = 4) : ca_act g j = ca_si g 7 (ca_ms g j) 0 3 := by unfold ca_act; rw [if_neg (by rw [h]; decide), if_neg (by rw [h]; decide), if_neg (by rw [h]; decide), if_pos h]
theorem ca_act_e {g : ca_S} {j : Nat} (h0 : ¬ ca_iv g 10 j 1 = 0) (h1 : ¬ ca_iv g 10 j 1 = 1) (h2 : ¬ ca_iv g 10 j 1 = 2) (h4 : ¬ ca_iv g 10 j 1 = 4) : ca_act g j = ca_si g 10 j 5 (10 * ca_iv g 7 (ca_ms g j) 1 + ca_iv g 7 (ca_ms g j) 0) := by unfold ca_act; rw [if_neg h0, if_neg h1, if_neg h2, if_neg h4]
theorem ca_set_w {g : ca_S} {j : Nat} {b : Bool} (h : ca_vd g j = -1) : ca_settle g j b = ca_app (ca_si (ca_si g 10 j 4 3) 10 j 7 (ca_iv g 0 0 7)) 2 j := by unfold ca_settle; rw [if_pos h]
theorem ca_set_r {g : ca_S} {j : Nat} {b : Bool} (h : ¬ ca_vd g j = -1) (h0 : ¬ ca_vd g j = 0) : ca_settle g j b = ca_si (ca_si g 10 j 4 2) 10 j 5 (-(ca_vd g j)) := by unfold ca_settle; rw [if_neg h, if_pos h0]
theorem ca_set_f {g : ca_S} {j : Nat} {b : Bool} (h : ¬ ca_vd g j = -1) (h0 : ca_vd g j = 0) (hf : ¬ ca_iv g 3 0 (ca_iv g 10 j 1).toNatClampNeg = 0) : ca_settle g j b = ca_fail (ca_si g 3 0 (ca_iv g 10 j 1).toNatClampNeg 0) j b := by unfold ca_settle; rw [if_neg h, if_neg (fun z => z h0), if_pos hf]
theorem ca_set_p {g : ca_S} {j : Nat} {b : Bool} (h : ¬ ca_vd g j = -1) (h0 : ca_vd g j = 0) (hf : ca_iv g 3 0 (ca_iv g 10 j 1).toNatClampNeg = 0) : ca_settle g j b = ca_perf g j := by unfold ca_settle; rw [if_neg h, if_neg (fun z => z h0), if_neg (fun z => z hf)]
theorem ca_first_none {g : ca_S} {u : Nat} (h : ca_first g u = none) : ∀ i ∈ ca_ln g 2, ¬ ca_ms g i = u := by
  intro i hi hz
  unfold ca_first at h
  have := List.findIdx?_eq_none_iff.mp h i hi
  rw [decide_eq_true hz] at this
  cases this
theorem ca_first_some {g : ca_S} {u i : Nat} (h : ca_first g u = some i) : ∃ w, (ca_ln g 2)[i]? = some w ∧ ca_ms g w = u ∧ (∀ k x, k < i → (ca_ln g 2)[k]? = some x → ¬ ca_ms g x = u) ∧ (ca_ln g 2).getD i 0 = w := by
  unfold ca_first at h
  obtain ⟨hi, h1, h2⟩ := List.findIdx?_eq_some_iff_getElem.mp h
  refine ⟨(ca_ln g 2)[i], List.getElem?_eq_getElem hi, of_decide_eq_true h1, fun k x hk hx hz => ?_, ?_⟩
  · have h3 := h2 k hk
    have hl : k < (ca_ln g 2).length := by omega
    rw [List.getElem?_eq_getElem hl] at hx
    cases hx
    exact h3 (decide_eq_true hz)
  · rw [List.getD_eq_getElem?_getD, List.getElem?_eq_getElem hi]
    rfl
theorem ca_wake_N {g : ca_S} {u n : Nat} (h : ca_first g u = none) : ca_wake u (n + 1) g = g := by
  show (match ca_first g u with | none => g | some i => ca_wake u n (ca_settle (ca_sn g 2 ((ca_ln g 2).eraseIdx i)) ((ca_ln g 2).getD i 0) false)) = g
  rw [h]
theorem ca_wake_S {g : ca_S} {u n i : Nat} (h : ca_first g u = some i) : ca_wake u (n + 1) g = ca_wake u n (ca_settle (ca_sn g 2 ((ca_ln g 2).eraseIdx i)) ((ca_ln g 2).getD i 0) false) := by
  show (match ca_first g u with | none => g | some i => ca_wake u n (ca_settle (ca_sn g 2 ((ca_ln g 2).eraseIdx i)) ((ca_ln g 2).getD i 0) false)) = _
  rw [h]
section CA2
variable {l : Launch} {D : va_G} {Z : Nat × Cell} {tys : List (ClassId × FieldType)} {ad : mg_Ad}
theorem ct_A_fail (hty : tys.map (·.2) = ma_ty) (g : ca_S) (q : mr_St) {j : Nat} (b : Bool) (hok : ca_ok g) (hj : j < ca_nm g) : mr_M l my_A_fail mc_A_fail 4 none 2 D mn_cl Z mb_B tys ma_sh [va_rf (some (ad 0 0)), va_rf (some (ad 10 j)), .int (mi_b b)] ad (ma_R g q) none (ma_R (ca_fail g j b) q) := by
  cases b with
  | false =>
    refine mg_M.of (cc := mc_A_fail) (maxL := 4) (ret := none) (by decide) rfl (Nat.le_of_ble_eq_true rfl) (mg_caS rfl (mg_caS rfl (mg_caS rfl mg_ca0))) ?_
    intro p e s m args below meth c K hret hlk hnm hA
    refine mg_iload_n K md_A_fail_0 rfl ?_
    refine mg_if_eq K 11 md_A_fail_1 rfl (fun h1 => ?_) (fun h1 => ?_)
    · refine mg_aload_n K md_A_fail_11 rfl ?_
      refine mr_getS (k2 := 8) (i2 := 3) K mf_A_38 md_A_fail_12 Nat.zero_lt_one rfl ?_
      refine mg_astore_n K md_A_fail_15 (by decide) ?_
      refine mg_aload_n K md_A_fail_16 rfl ?_
      refine mg_iload_n K md_A_fail_17 rfl ?_
      refine mg_if_eq K 25 md_A_fail_18 rfl (fun h18 => ?_) (fun h18 => ?_)
      · refine mg_iconst K (v := 4) md_A_fail_25 (by decide) ?_
        refine mr_putI K mf_A_86 md_A_fail_26 hj ?_
        refine mr_eqr (ma_sI _ _ _ _ _ _ (by decide) (by decide)) ?_
        refine mg_aload_n K md_A_fail_29 rfl ?_
        refine mg_aload_n K md_A_fail_30 rfl ?_
        refine mr_cV K hA (ct_L_append hty (ca_si g 10 j 4 4) q (x := 3) (by decide) hj (hok.2.2.1 3)) ms_A_205 (by decide) md_A_fail_31 rfl rfl (by decide : 3 < 4) rfl (by decide) ⟨Nat.le_refl _, Nat.le_refl _⟩ ?_
        exact mg_vret K hret hlk md_A_fail_34 (Nat.le_refl _) (Nat.le_refl _) ⟨rfl, rfl, rfl⟩
      · exact absurd rfl h18
    · exact absurd rfl h1
  | true =>
    refine mg_M.of (cc := mc_A_fail) (maxL := 4) (ret := none) (by decide) rfl (Nat.le_of_ble_eq_true rfl) (mg_caS rfl (mg_caS rfl (mg_caS rfl mg_ca0))) ?_
    intro p e s m args below meth c K hret hlk hnm hA
    refine mg_iload_n K md_A_fail_0 rfl ?_
    refine mg_if_eq K 11 md_A_fail_1 rfl (fun h1 => ?_) (fun h1 => ?_)
    · exact absurd h1 (by decide)
    · refine mg_aload_n K md_A_fail_4 rfl ?_
      refine mr_getS (k2 := 8) (i2 := 1) K mf_A_32 md_A_fail_5 Nat.zero_lt_one rfl ?_
      refine mg_goto K 15 md_A_fail_8 rfl ?_
      refine mg_astore_n K md_A_fail_15 (by decide) ?_
      refine mg_aload_n K md_A_fail_16 rfl ?_
      refine mg_iload_n K md_A_fail_17 rfl ?_
      refine mg_if_eq K 25 md_A_fail_18 rfl (fun h18 => ?_) (fun h18 => ?_)
      · exact absurd h18 (by decide)
      · refine mg_iconst K (v := 5) md_A_fail_21 (by decide) ?_
        refine mg_goto K 26 md_A_fail_22 rfl ?_
        refine mr_putI K mf_A_86 md_A_fail_26 hj ?_
        refine mr_eqr (ma_sI _ _ _ _ _ _ (by decide) (by decide)) ?_
        refine mg_aload_n K md_A_fail_29 rfl ?_
        refine mg_aload_n K md_A_fail_30 rfl ?_
        refine mr_cV K hA (ct_L_append hty (ca_si g 10 j 4 5) q (x := 1) (by decide) hj (hok.2.2.1 1)) ms_A_205 (by decide) md_A_fail_31 rfl rfl (by decide : 1 < 4) rfl (by decide) ⟨Nat.le_refl _, Nat.le_refl _⟩ ?_
        exact mg_vret K hret hlk md_A_fail_34 (Nat.le_refl _) (Nat.le_refl _) ⟨rfl, rfl, rfl⟩
theorem ct_A_perform (hty : tys.map (·.2) = ma_ty) (g : ca_S) (q : mr_St) {j : Nat} (hok : ca_ok g) (hj : j < ca_nm g) : mr_M l my_A_perform mc_A_perform 3 none 2 D mn_cl Z mb_B tys ma_sh [va_rf (some (ad 0 0)), va_rf (some (ad 10 j))] ad (ma_R g q) none (ma_R (ca_perf g j) q) := by
  have hu := (hok.2.2.2 j hj).1
  have h1 := ca_to.act hok j
  have hj1 := h1.lt hj
  refine mg_M.of (cc := mc_A_perform) (maxL := 3) (ret := none) (by decide) rfl (Nat.le_of_ble_eq_true rfl) (mg_caS rfl (mg_caS rfl mg_ca0)) ?_
  intro p e s m args below meth c K hret hlk hnm hA
  have tail : mg_G p l e (mg_rm 2 0 0) s m args below meth c D mn_cl Z (mg_A ad (mr_C tys ma_sh ad (ma_R g q)) s.heap.size) s.heap 3 (MQ below (mg_Qc D mn_cl Z ad (mr_C tys ma_sh ad (ma_R g q)) s.heap.size (mg_Po tys ma_sh ad none (ma_R (ca_perf g j) q))) args s 0 0 (mg_A ad (mr_C tys ma_sh ad (ma_R g q)) s.heap.size)) ad (mr_C tys ma_sh ad (ma_R (ca_act g j) q)) [some (va_rf (some (ad 0 0))), some (va_rf (some (ad 10 j))), some (va_rf (some (ad 7 (ca_ms g j))))] 0 0 [] 111 := by
    refine mg_aload_n K md_A_perform_111 rfl ?_
    refine mg_dup K md_A_perform_112 rfl ?_
    refine mr_getI (v := ca_iv (ca_act g j) 7 (ca_ms g j) 2) K mf_A_144 md_A_perform_113 (by decide) hu rfl ?_
    refine mg_iconst K (v := 1) md_A_perform_116 (by decide) ?_
    refine mg_iadd K md_A_perform_117 ?_
    refine mr_putI K mf_A_144 md_A_perform_118 hu ?_
    refine mr_eqr (ma_sI _ _ _ _ _ _ (by decide) (by decide)) ?_
    refine mg_aload_n K md_A_perform_121 rfl ?_
    refine mg_iconst K (v := 1) md_A_perform_122 (by decide) ?_
    refine mr_putI K mf_A_86 md_A_perform_123 hj1 ?_
    refine mr_eqr (ma_sI _ _ _ _ _ _ (by decide) (by decide)) ?_
    refine mg_aload_n K md_A_perform_126 rfl ?_
    refine mr_getS (k2 := 8) (i2 := 0) K mf_A_28 md_A_perform_127 Nat.zero_lt_one rfl ?_
    refine mg_aload_n K md_A_perform_130 rfl ?_
    refine mr_cV K hA (ct_L_append hty (ca_si (ca_si (ca_act g j) 7 (ca_ms g j) 2 (ca_iv (ca_act g j) 7 (ca_ms g j) 2 + 1)) 10 j 4 1) q (x := 0) (by decide) hj1 (h1.ok.2.2.1 0)) ms_A_205 (by decide) md_A_perform_131 rfl rfl (by decide : 0 < 4) rfl (by decide) ⟨Nat.le_refl _, Nat.le_refl _⟩ ?_
    exact mg_vret K hret hlk md_A_perform_134 (Nat.le_refl _) (Nat.le_refl _) ⟨rfl, rfl, rfl⟩
  refine mg_aload_n K md_A_perform_0 rfl ?_
  refine mr_getS (k2 := 7) (i2 := (ca_ms g j)) K mf_A_191 md_A_perform_1 hj rfl ?_
  refine mg_astore_n K md_A_perform_4 (by decide) ?_
  refine mg_aload_n K md_A_perform_5 rfl ?_
  refine mr_getI (v := ca_iv g 10 j 1) K mf_A_181 md_A_perform_6 (by decide) hj rfl ?_
  by_cases hS9_0 : ca_iv g 10 j 1 = 0
  · refine mg_tabIn (off := 35) K 0 44 md_A_perform_9 hS9_0 (by decide) (by decide) (by decide) rfl ?_
    refine mg_aload_n K md_A_perform_44 rfl ?_
    refine mg_iconst K (v := 1) md_A_perform_45 (by decide) ?_
    refine mr_putI K mf_A_95 md_A_perform_46 hu ?_
    refine mr_eqr (ma_sI _ _ _ _ _ _ (by decide) (by decide)) ?_
    refine mg_aload_n K md_A_perform_49 rfl ?_
    refine mg_aload_n K md_A_perform_50 rfl ?_
    refine mr_getI (v := ca_iv g 10 j 3) K mf_A_215 md_A_perform_51 (by decide) hj rfl ?_
    refine mr_putI K mf_A_141 md_A_perform_54 hu ?_
    refine mr_eqr (ma_sI _ _ _ _ _ _ (by decide) (by decide)) ?_
    refine mg_goto K 111 md_A_perform_57 rfl ?_
    refine mr_eqr (congrArg (fun z => ma_R z q) (ca_act_0 hS9_0)).symm ?_
    exact tail
  by_cases hS9_1 : ca_iv g 10 j 1 = 1
  · refine mg_tabIn (off := 51) K 1 60 md_A_perform_9 hS9_1 (by decide) (by decide) (by decide) rfl ?_
    refine mg_aload_n K md_A_perform_60 rfl ?_
    refine mg_aload_n K md_A_perform_61 rfl ?_
    refine mr_getI (v := ca_iv g 10 j 3) K mf_A_215 md_A_perform_62 (by decide) hj rfl ?_
    refine mr_putI K mf_A_141 md_A_perform_65 hu ?_
    refine mr_eqr (ma_sI _ _ _ _ _ _ (by decide) (by decide)) ?_
    refine mg_goto K 111 md_A_perform_68 rfl ?_
    refine mr_eqr (congrArg (fun z => ma_R z q) (ca_act_1 hS9_1)).symm ?_
    exact tail
  by_cases hS9_2 : ca_iv g 10 j 1 = 2
  · refine mg_tabIn (off := 62) K 2 71 md_A_perform_9 hS9_2 (by decide) (by decide) (by decide) rfl ?_
    refine mg_aload_n K md_A_perform_71 rfl ?_
    refine mg_dup K md_A_perform_72 rfl ?_
    refine mr_getI (v := ca_iv g 7 (ca_ms g j) 1) K mf_A_141 md_A_perform_73 (by decide) hu rfl ?_
    refine mg_aload_n K md_A_perform_76 rfl ?_
    refine mr_getI (v := ca_iv g 10 j 3) K mf_A_215 md_A_perform_77 (by decide) hj rfl ?_
    refine mg_iadd K md_A_perform_80 ?_
    refine mr_putI K mf_A_141 md_A_perform_81 hu ?_
    refine mr_eqr (ma_sI _ _ _ _ _ _ (by decide) (by decide)) ?_
    refine mg_goto K 111 md_A_perform_84 rfl ?_
    refine mr_eqr (congrArg (fun z => ma_R z q) (ca_act_2 hS9_2)).symm ?_
    exact tail
  by_cases hS9_3 : ca_iv g 10 j 1 = 3
  · refine mg_tabIn (off := 86) K 3 95 md_A_perform_9 hS9_3 (by decide) (by decide) (by decide) rfl ?_
    refine mg_aload_n K md_A_perform_95 rfl ?_
    refine mg_bipush K (v := 10) md_A_perform_96 (by decide) ?_
    refine mg_aload_n K md_A_perform_98 rfl ?_
    refine mr_getI (v := ca_iv g 7 (ca_ms g j) 1) K mf_A_141 md_A_perform_99 (by decide) hu rfl ?_
    refine mg_imul K md_A_perform_102 ?_
    refine mg_aload_n K md_A_perform_103 rfl ?_
    refine mr_getI (v := ca_iv g 7 (ca_ms g j) 0) K mf_A_95 md_A_perform_104 (by decide) hu rfl ?_
    refine mg_iadd K md_A_perform_107 ?_
    refine mr_putI K mf_A_89 md_A_perform_108 hj ?_
    refine mr_eqr (ma_sI _ _ _ _ _ _ (by decide) (by decide)) ?_
    refine mr_eqr (congrArg (fun z => ma_R z q) (ca_act_e hS9_0 hS9_1 hS9_2 (by rw [hS9_3]; decide))).symm ?_
    exact tail
  by_cases hS9_4 : ca_iv g 10 j 1 = 4
  · refine mg_tabIn (off := 78) K 4 87 md_A_perform_9 hS9_4 (by decide) (by decide) (by decide) rfl ?_
    refine mg_aload_n K md_A_perform_87 rfl ?_
    refine mg_iconst K (v := 3) md_A_perform_88 (by decide) ?_
    refine mr_putI K mf_A_95 md_A_perform_89 hu ?_
    refine mr_eqr (ma_sI _ _ _ _ _ _ (by decide) (by decide)) ?_
    refine mg_goto K 111 md_A_perform_92 rfl ?_
    refine mr_eqr (congrArg (fun z => ma_R z q) (ca_act_4 hS9_4)).symm ?_
    exact tail
  have ehS9_0 : (ca_iv g 10 j 1).toInt ≠ 0 := fun z => hS9_0 (Int32.toInt_inj.mp z)
  have ehS9_1 : (ca_iv g 10 j 1).toInt ≠ 1 := fun z => hS9_1 (Int32.toInt_inj.mp z)
  have ehS9_2 : (ca_iv g 10 j 1).toInt ≠ 2 := fun z => hS9_2 (Int32.toInt_inj.mp z)
  have ehS9_3 : (ca_iv g 10 j 1).toInt ≠ 3 := fun z => hS9_3 (Int32.toInt_inj.mp z)
  have ehS9_4 : (ca_iv g 10 j 1).toInt ≠ 4 := fun z => hS9_4 (Int32.toInt_inj.mp z)
  refine mg_tabOut K 95 md_A_perform_9 (by omega) rfl ?_
  refine mg_aload_n K md_A_perform_95 rfl ?_
  refine mg_bipush K (v := 10) md_A_perform_96 (by decide) ?_
  refine mg_aload_n K md_A_perform_98 rfl ?_
  refine mr_getI (v := ca_iv g 7 (ca_ms g j) 1) K mf_A_141 md_A_perform_99 (by decide) hu rfl ?_
  refine mg_imul K md_A_perform_102 ?_
  refine mg_aload_n K md_A_perform_103 rfl ?_
  refine mr_getI (v := ca_iv g 7 (ca_ms g j) 0) K mf_A_95 md_A_perform_104 (by decide) hu rfl ?_
  refine mg_iadd K md_A_perform_107 ?_
  refine mr_putI K mf_A_89 md_A_perform_108 hj ?_
  refine mr_eqr (ma_sI _ _ _ _ _ _ (by decide) (by decide)) ?_
  refine mr_eqr (congrArg (fun z => ma_R z q) (ca_act_e hS9_0 hS9_1 hS9_2 hS9_4)).symm ?_
  exact tail
theorem ct_A_settle (hty : tys.map (·.2) = ma_ty) (g : ca_S) (q : mr_St) {j : Nat} (b : Bool) (hok : ca_ok g) (hj : j < ca_nm g) : mr_M l my_A_settle mc_A_settle 4 none 3 D mn_cl Z mb_B tys ma_sh [va_rf (some (ad 0 0)), va_rf (some (ad 10 j)), .int (mi_b b)] ad (ma_R g q) none (ma_R (ca_settle g j b) q) := by
  have hu := (hok.2.2.2 j hj).1
  have hfn := (hok.2.2.2 j hj).2
  refine mg_M.of (cc := mc_A_settle) (maxL := 4) (ret := none) (by decide) rfl (Nat.le_of_ble_eq_true rfl) (mg_caS rfl (mg_caS rfl (mg_caS rfl mg_ca0))) ?_
  intro p e s m args below meth c K hret hlk hnm hA
  refine mg_aload_n K md_A_settle_0 rfl ?_
  refine mg_aload_n K md_A_settle_1 rfl ?_
  refine mr_cV K hA (ct_A_vd hty g q hj hu (hok.2.2.1 2)) ms_A_199 (by decide) md_A_settle_2 rfl rfl Nat.zero_lt_one rfl (by decide) ⟨Nat.le_refl _, Nat.le_refl _⟩ ?_
  refine mg_istore_n K md_A_settle_5 (by decide) ?_
  refine mg_iload_n K md_A_settle_6 rfl ?_
  refine mg_iconst K (v := -1) md_A_settle_7 (by decide) ?_
  refine mg_icmp_ne K 35 md_A_settle_8 rfl (fun h8 => ?_) (fun h8 => ?_)
  · refine mg_iload_n K md_A_settle_35 rfl ?_
    refine mg_if_eq K 53 md_A_settle_36 rfl (fun h36 => ?_) (fun h36 => ?_)
    · refine mg_aload_n K md_A_settle_53 rfl ?_
      refine mr_getS (k2 := 3) (i2 := 0) K mf_A_21 md_A_settle_54 Nat.zero_lt_one rfl ?_
      refine mg_aload_n K md_A_settle_57 rfl ?_
      refine mr_getI (v := ca_iv g 10 j 1) K mf_A_181 md_A_settle_58 (by decide) hj rfl ?_
      refine mr_zald (v := ca_iv g 3 0 (ca_iv g 10 j 1).toNatClampNeg) K rfl (ma_t hty 2) md_A_settle_61 Nat.zero_lt_one (mi_vi hfn.1 hfn.2) rfl ?_
      refine mg_if_eq K 84 md_A_settle_62 rfl (fun h62 => ?_) (fun h62 => ?_)
      · refine mg_aload_n K md_A_settle_84 rfl ?_
        refine mg_aload_n K md_A_settle_85 rfl ?_
        refine mr_cV K hA (ct_A_perform hty g q hok hj) ms_A_212 (by decide) md_A_settle_86 rfl rfl Nat.zero_lt_one rfl (by decide) ⟨Nat.le_refl _, Nat.le_refl _⟩ ?_
        exact mg_vret K hret hlk md_A_settle_89 (Nat.le_refl _) (Nat.le_refl _) ⟨rfl, rfl, by rw [ca_set_p h8 h36 h62]⟩
      · refine mg_aload_n K md_A_settle_65 rfl ?_
        refine mr_getS (k2 := 3) (i2 := 0) K mf_A_21 md_A_settle_66 Nat.zero_lt_one rfl ?_
        refine mg_aload_n K md_A_settle_69 rfl ?_
        refine mr_getI (v := ca_iv g 10 j 1) K mf_A_181 md_A_settle_70 (by decide) hj rfl ?_
        refine mg_iconst K (v := 0) md_A_settle_73 (by decide) ?_
        refine mr_zast (v := 0) K rfl (ma_t hty 2) md_A_settle_74 Nat.zero_lt_one (mi_vi hfn.1 hfn.2) (by decide) ?_
        refine mr_eqr (ma_sI _ _ _ _ _ _ (by decide) (by decide)) ?_
        have hf1 := ca_to.si hok 3 0 (ca_iv g 10 j 1).toNatClampNeg 0 (by omega)
        refine mg_aload_n K md_A_settle_75 rfl ?_
        refine mg_aload_n K md_A_settle_76 rfl ?_
        refine mg_iload_n K md_A_settle_77 rfl ?_
        refine mr_cV K hA (ct_A_fail hty (ca_si g 3 0 (ca_iv g 10 j 1).toNatClampNeg 0) q b hf1.ok hj) ms_A_209 (by decide) md_A_settle_78 rfl rfl Nat.zero_lt_one rfl (by decide) ⟨Nat.le_refl _, Nat.le_refl _⟩ ?_
        refine mg_goto K 89 md_A_settle_81 rfl ?_
        exact mg_vret K hret hlk md_A_settle_89 (Nat.le_refl _) (Nat.le_refl _) ⟨rfl, rfl, by rw [ca_set_f h8 h36 h62]⟩
    · refine mg_aload_n K md_A_settle_39 rfl ?_
      refine mg_iconst K (v := 2) md_A_settle_40 (by decide) ?_
      refine mr_putI K mf_A_86 md_A_settle_41 hj ?_
      refine mr_eqr (ma_sI _ _ _ _ _ _ (by decide) (by decide)) ?_
      refine mg_aload_n K md_A_settle_44 rfl ?_
      refine mg_iload_n K md_A_settle_45 rfl ?_
      refine mg_ineg K md_A_settle_46 ?_
      refine mr_putI K mf_A_89 md_A_settle_47 hj ?_
      refine mr_eqr (ma_sI _ _ _ _ _ _ (by decide) (by decide)) ?_
      refine mg_goto K 89 md_A_settle_50 rfl ?_
      exact mg_vret K hret hlk md_A_settle_89 (Nat.le_refl _) (Nat.le_refl _) ⟨rfl, rfl, by rw [ca_set_r h8 h36]⟩
  · refine mg_aload_n K md_A_settle_11 rfl ?_
    refine mg_iconst K (v := 3) md_A_settle_12 (by decide) ?_
    refine mr_putI K mf_A_86 md_A_settle_13 hj ?_
    refine mr_eqr (ma_sI _ _ _ _ _ _ (by decide) (by decide)) ?_
    refine mg_aload_n K md_A_settle_16 rfl ?_
    refine mg_aload_n K md_A_settle_17 rfl ?_
    refine mr_getI (v := ca_iv g 0 0 7) K mf_A_41 md_A_settle_18 (by decide) Nat.zero_lt_one rfl ?_
    refine mr_putI K mf_A_202 md_A_settle_21 hj ?_
    refine mr_eqr (ma_sI _ _ _ _ _ _ (by decide) (by decide)) ?_
    refine mg_aload_n K md_A_settle_24 rfl ?_
    refine mr_getS (k2 := 8) (i2 := 2) K mf_A_35 md_A_settle_25 Nat.zero_lt_one rfl ?_
    refine mg_aload_n K md_A_settle_28 rfl ?_
    refine mr_cV K hA (ct_L_append hty (ca_si (ca_si g 10 j 4 3) 10 j 7 (ca_iv g 0 0 7)) q (x := 2) (by decide) hj (hok.2.2.1 2)) ms_A_205 (by decide) md_A_settle_29 rfl rfl (by decide : 2 < 4) rfl (by decide) ⟨Nat.le_refl _, Nat.le_refl _⟩ ?_
    refine mg_goto K 89 md_A_settle_32 rfl ?_
    exact mg_vret K hret hlk md_A_settle_89 (Nat.le_refl _) (Nat.le_refl _) ⟨rfl, rfl, by rw [ca_set_w h8]⟩
theorem ct_A_turn (hty : tys.map (·.2) = ma_ty) (g : ca_S) (q : mr_St) {j : Nat} (b : Bool) (hok : ca_ok g) (hj : j < ca_nm g) : mr_M l my_A_haveTurn mc_A_haveTurn 5 none 4 D mn_cl Z mb_B tys ma_sh [va_rf (some (ad 0 0)), va_rf (some (ad 10 j)), .int (mi_b b)] ad (ma_R g q) none (ma_R (ca_turn g j b) q) := by
  have hu := (hok.2.2.2 j hj).1
  have t1 := ca_to.settle hok b hj
  have hms : ca_ms (ca_settle g j b) j = ca_ms g j := by rw [t1.2.1]
  have hj1 := t1.lt hj
  refine mg_M.of (cc := mc_A_haveTurn) (maxL := 5) (ret := none) (by decide) rfl (Nat.le_of_ble_eq_true rfl) (mg_caS rfl (mg_caS rfl (mg_caS rfl mg_ca0))) ?_
  intro p e s m args below meth c K hret hlk hnm hA
  have loop : ∀ (n k : Nat) (g' : ca_S), k + n = 12 → ca_to g g' → ca_wake (ca_ms g j) n g' = (ca_turn g j b) → mg_G p l e (mg_rm 4 0 0) s m args below meth c D mn_cl Z (mg_A ad (mr_C tys ma_sh ad (ma_R g q)) s.heap.size) s.heap 5 (MQ below (mg_Qc D mn_cl Z ad (mr_C tys ma_sh ad (ma_R g q)) s.heap.size (mg_Po tys ma_sh ad none (ma_R (ca_turn g j b) q))) args s 0 0 (mg_A ad (mr_C tys ma_sh ad (ma_R g q)) s.heap.size)) ad (mr_C tys ma_sh ad (ma_R g' q)) [some (va_rf (some (ad 0 0))), some (va_rf (some (ad 10 j))), some (.int (mi_b b)), some (.int (Int32.ofNat k))] 0 0 [] 19 := by
    intro n
    induction n with
    | zero =>
      intro k g' hk ht hT
      refine mg_iload_n K md_A_haveTurn_19 rfl ?_
      refine mg_bipush K (v := 12) md_A_haveTurn_20 (by decide) ?_
      refine mg_icmp_ge K 57 md_A_haveTurn_22 rfl (fun h22 => ?_) (fun h22 => ?_)
      · exact mg_vret K hret hlk md_A_haveTurn_57 (Nat.le_refl _) (Nat.le_refl _) ⟨rfl, rfl, by rw [← hT]; rfl⟩
      · exact absurd ((mi_le (a := 12) (b := k) (by omega) (by omega)).mpr (by omega)) h22
    | succ n ih =>
      intro k g' hk ht hT
      have hm2 : ca_ms g' j = ca_ms g j := by rw [ht.2.1]
      have hj2 := ht.lt hj
      have hmm : ∀ i ∈ ca_ln g' 2, i < ca_nm g' ∧ ca_ms g' i < 16 := fun i hi => ⟨ht.ok.2.1 2 i hi, (ht.ok.2.2.2 i (ht.ok.2.1 2 i hi)).1⟩
      cases hx : ca_first g' (ca_ms g j) with
      | none =>
        rw [ca_wake_N hx] at hT
        refine mg_iload_n K md_A_haveTurn_19 rfl ?_
        refine mg_bipush K (v := 12) md_A_haveTurn_20 (by decide) ?_
        refine mg_icmp_ge K 57 md_A_haveTurn_22 rfl (fun h22 => ?_) (fun h22 => ?_)
        · exact absurd ((mi_le (a := 12) (b := k) (by omega) (by omega)).mp h22) (by omega)
        · refine mg_aload_n K md_A_haveTurn_25 rfl ?_
          refine mr_getS (k2 := 8) (i2 := 2) K mf_A_35 md_A_haveTurn_26 Nat.zero_lt_one rfl ?_
          refine mg_aload_n K md_A_haveTurn_29 rfl ?_
          refine mr_getS (k2 := 7) (i2 := ca_ms g j) K mf_A_191 md_A_haveTurn_30 hj2 (by show some (7, ca_ms g' j) = _; rw [hm2]) ?_
          refine mr_cV K hA (ct_L_tffN hty g' q (x := 2) (by decide) hu (ht.ok.2.2.1 2) hmm (ca_first_none hx)) ms_A_195 (by decide) md_A_haveTurn_33 rfl rfl (by decide : 2 < 4) rfl (by decide) ⟨Nat.le_refl _, Nat.le_refl _⟩ ?_
          refine mg_astore K md_A_haveTurn_36 (by decide) ?_
          refine mg_aload K md_A_haveTurn_38 rfl ?_
          refine mg_ifnonnull K 44 md_A_haveTurn_40 rfl (fun h40 => ?_) (fun h40 => ?_)
          · exact absurd rfl h40
          · exact mg_vret K hret hlk md_A_haveTurn_43 (Nat.le_refl _) (Nat.le_refl _) ⟨rfl, rfl, by rw [← hT]⟩
      | some i =>
        obtain ⟨w, hw1, hw2, hw3, hw4⟩ := ca_first_some hx
        rw [ca_wake_S hx, hw4] at hT
        have tk := ca_to.take ht.ok 2 i
        have hwn : w < ca_nm g' := ht.ok.2.1 2 w (List.mem_of_getElem? hw1)
        have ts := ca_to.settle tk.ok false hwn
        refine mg_iload_n K md_A_haveTurn_19 rfl ?_
        refine mg_bipush K (v := 12) md_A_haveTurn_20 (by decide) ?_
        refine mg_icmp_ge K 57 md_A_haveTurn_22 rfl (fun h22 => ?_) (fun h22 => ?_)
        · exact absurd ((mi_le (a := 12) (b := k) (by omega) (by omega)).mp h22) (by omega)
        · refine mg_aload_n K md_A_haveTurn_25 rfl ?_
          refine mr_getS (k2 := 8) (i2 := 2) K mf_A_35 md_A_haveTurn_26 Nat.zero_lt_one rfl ?_
          refine mg_aload_n K md_A_haveTurn_29 rfl ?_
          refine mr_getS (k2 := 7) (i2 := ca_ms g j) K mf_A_191 md_A_haveTurn_30 hj2 (by show some (7, ca_ms g' j) = _; rw [hm2]) ?_
          refine mr_cV K hA (ct_L_tff hty g' q (x := 2) (by decide) hu (ht.ok.2.2.1 2) hmm hw1 hw2 hw3) ms_A_195 (by decide) md_A_haveTurn_33 rfl rfl (by decide : 2 < 4) rfl (by decide) ⟨Nat.le_refl _, Nat.le_refl _⟩ ?_
          refine mg_astore K md_A_haveTurn_36 (by decide) ?_
          refine mg_aload K md_A_haveTurn_38 rfl ?_
          refine mg_ifnonnull K 44 md_A_haveTurn_40 rfl (fun h40 => ?_) (fun h40 => ?_)
          · refine mg_aload_n K md_A_haveTurn_44 rfl ?_
            refine mg_aload K md_A_haveTurn_45 rfl ?_
            refine mg_iconst K (v := 0) md_A_haveTurn_47 (by decide) ?_
            refine mr_cV K hA (ct_A_settle hty (ca_sn g' 2 ((ca_ln g' 2).eraseIdx i)) q false tk.ok hwn) ms_A_188 (by decide) md_A_haveTurn_48 rfl rfl Nat.zero_lt_one rfl (by decide) ⟨Nat.le_refl _, Nat.le_refl _⟩ ?_
            refine mg_iinc K (v := Int32.ofNat (k + 1)) md_A_haveTurn_51 rfl (mi_a1 k) (by decide) ?_
            refine mg_goto K 19 md_A_haveTurn_54 rfl ?_
            refine mg_take 4 ?_
            exact ih (k + 1) _ (by omega) (ht.tr (tk.tr ts)) hT
          · exact absurd h40 (fun z => by cases z)
  refine mg_aload_n K md_A_haveTurn_0 rfl ?_
  refine mg_aload_n K md_A_haveTurn_1 rfl ?_
  refine mg_iload_n K md_A_haveTurn_2 rfl ?_
  refine mr_cV K hA (ct_A_settle hty g q b hok hj) ms_A_188 (by decide) md_A_haveTurn_3 rfl rfl Nat.zero_lt_one rfl (by decide) ⟨Nat.le_refl _, Nat.le_refl _⟩ ?_
  refine mg_aload_n K md_A_haveTurn_6 rfl ?_
  refine mr_getS (k2 := 7) (i2 := ca_ms g j) K mf_A_191 md_A_haveTurn_7 hj1 (by show some (7, ca_ms (ca_settle g j b) j) = _; rw [hms]) ?_
  refine mr_getI (v := ca_iv (ca_settle g j b) 7 (ca_ms g j) 0) K mf_A_95 md_A_haveTurn_10 (by decide) hu rfl ?_
  refine mg_if_ne K 17 md_A_haveTurn_13 rfl (fun h13 => ?_) (fun h13 => ?_)
  · refine mg_iconst K (v := 0) md_A_haveTurn_17 (by decide) ?_
    refine mg_istore_n K md_A_haveTurn_18 (by decide) ?_
    exact loop 12 0 (ca_settle g j b) (by omega) t1 (if_neg h13).symm
  · exact mg_vret K hret hlk md_A_haveTurn_16 (Nat.le_refl _) (Nat.le_refl _) ⟨rfl, rfl, by rw [show ca_turn g j b = ca_settle g j b from if_pos h13]⟩
end CA2
