/-! the class: turns -/
theorem ca_in_w {x y : Int32} (h : ¬ (if ¬ x < -y ∧ ¬ y < x then (1 : Int32) else 0) = 0) : ca_in x y = true := by
  by_cases hc : ¬ x < -y ∧ ¬ y < x
  · unfold ca_in
    rw [decide_eq_true (Int32.not_lt.mp hc.1), decide_eq_true (Int32.not_lt.mp hc.2)]
    rfl
  · rw [if_neg hc] at h
    exact absurd rfl h
theorem ca_in_n {x y : Int32} (h : (if ¬ x < -y ∧ ¬ y < x then (1 : Int32) else 0) = 0) : ca_in x y = false := by
  by_cases hc : ¬ x < -y ∧ ¬ y < x
  · rw [if_pos hc] at h
    exact absurd h (by decide)
  · cases hi : ca_in x y with
    | false => rfl
    | true =>
      unfold ca_in at hi
      rw [Bool.and_eq_true] at hi
      exact absurd ⟨Int32.not_lt.mpr (of_decide_eq_true hi.1), Int32.not_lt.mpr (of_decide_eq_true hi.2)⟩ hc
section CA1
variable {l : Launch} {D : va_G} {Z : Nat × Cell} {tys : List (ClassId × FieldType)} {ad : mg_Ad}
theorem ct_A_vo (hty : tys.map (·.2) = ma_ty) (g : ca_S) (q : mr_St) (st : Int32) (hle : (ca_ln g 2).length ≤ 96) : mr_M l my_A_verdictIfOpenIsAsked mc_A_verdictIfOpenIsAsked 2 (some .int) 1 D mn_cl Z mb_B tys ma_sh [va_rf (some (ad 0 0)), .int st] ad (ma_R g q) (some (.int (ca_vo g st))) (ma_R g q) := by
  refine mg_M.of (cc := mc_A_verdictIfOpenIsAsked) (maxL := 2) (ret := (some .int)) (by decide) rfl (Nat.le_of_ble_eq_true rfl) (mg_caS rfl (mg_caS rfl mg_ca0)) ?_
  intro p e s m args below meth c K hret hlk hnm hA
  refine mg_iload_n K md_A_verdictIfOpenIsAsked_0 rfl ?_
  by_cases hS1_0 : st = 0
  · refine mg_tabIn (off := 31) K 0 32 md_A_verdictIfOpenIsAsked_1 hS1_0 (by decide) (by decide) (by decide) rfl ?_
    refine mg_aload_n K md_A_verdictIfOpenIsAsked_32 rfl ?_
    refine mr_getS (k2 := 8) (i2 := 2) K mf_A_35 md_A_verdictIfOpenIsAsked_33 Nat.zero_lt_one rfl ?_
    refine mr_getI (v := Int32.ofNat (ca_ln g 2).length) K mf_A_109 md_A_verdictIfOpenIsAsked_36 (by decide) (by decide : 2 < 4) rfl ?_
    refine mg_bipush K (v := 12) md_A_verdictIfOpenIsAsked_39 (by decide) ?_
    refine mg_icmp_ge K 48 md_A_verdictIfOpenIsAsked_41 rfl (fun h41 => ?_) (fun h41 => ?_)
    · have hge : ¬ (ca_ln g 2).length < 12 := by have := (mi_le (a := 12) (b := (ca_ln g 2).length) (by omega) (by omega)).mp h41; omega
      refine mg_iconst K (v := 5) md_A_verdictIfOpenIsAsked_48 (by decide) ?_
      exact mg_iret K hret hlk md_A_verdictIfOpenIsAsked_49 (Nat.le_refl _) (Nat.le_refl _) ⟨by unfold ca_vo; rw [if_pos hS1_0, if_neg hge], rfl, rfl⟩
    · have hlt : (ca_ln g 2).length < 12 := by have := mt (mi_le (a := 12) (b := (ca_ln g 2).length) (by omega) (by omega)).mpr h41; omega
      refine mg_iconst K (v := -1) md_A_verdictIfOpenIsAsked_44 (by decide) ?_
      refine mg_goto K 49 md_A_verdictIfOpenIsAsked_45 rfl ?_
      exact mg_iret K hret hlk md_A_verdictIfOpenIsAsked_49 (Nat.le_refl _) (Nat.le_refl _) ⟨by unfold ca_vo; rw [if_pos hS1_0, if_pos hlt], rfl, rfl⟩
  by_cases hS1_1 : st = 1
  · refine mg_tabIn (off := 53) K 1 54 md_A_verdictIfOpenIsAsked_1 hS1_1 (by decide) (by decide) (by decide) rfl ?_
    refine mg_iconst K (v := 0) md_A_verdictIfOpenIsAsked_54 (by decide) ?_
    exact mg_iret K hret hlk md_A_verdictIfOpenIsAsked_55 (Nat.le_refl _) (Nat.le_refl _) ⟨by unfold ca_vo; rw [hS1_1]; rfl, rfl, rfl⟩
  by_cases hS1_2 : st = 2
  · refine mg_tabIn (off := 49) K 2 50 md_A_verdictIfOpenIsAsked_1 hS1_2 (by decide) (by decide) (by decide) rfl ?_
    refine mg_iconst K (v := 2) md_A_verdictIfOpenIsAsked_50 (by decide) ?_
    exact mg_iret K hret hlk md_A_verdictIfOpenIsAsked_51 (Nat.le_refl _) (Nat.le_refl _) ⟨by unfold ca_vo; rw [hS1_2]; rfl, rfl, rfl⟩
  by_cases hS1_3 : st = 3
  · refine mg_tabIn (off := 51) K 3 52 md_A_verdictIfOpenIsAsked_1 hS1_3 (by decide) (by decide) (by decide) rfl ?_
    refine mg_iconst K (v := 3) md_A_verdictIfOpenIsAsked_52 (by decide) ?_
    exact mg_iret K hret hlk md_A_verdictIfOpenIsAsked_53 (Nat.le_refl _) (Nat.le_refl _) ⟨by unfold ca_vo; rw [hS1_3]; rfl, rfl, rfl⟩
  have ehS1_0 : (st).toInt ≠ 0 := fun z => hS1_0 (Int32.toInt_inj.mp z)
  have ehS1_1 : (st).toInt ≠ 1 := fun z => hS1_1 (Int32.toInt_inj.mp z)
  have ehS1_2 : (st).toInt ≠ 2 := fun z => hS1_2 (Int32.toInt_inj.mp z)
  have ehS1_3 : (st).toInt ≠ 3 := fun z => hS1_3 (Int32.toInt_inj.mp z)
  refine mg_tabOut K 54 md_A_verdictIfOpenIsAsked_1 (by omega) rfl ?_
  refine mg_iconst K (v := 0) md_A_verdictIfOpenIsAsked_54 (by decide) ?_
  exact mg_iret K hret hlk md_A_verdictIfOpenIsAsked_55 (Nat.le_refl _) (Nat.le_refl _) ⟨by unfold ca_vo; rw [if_neg hS1_0, if_neg hS1_2, if_neg hS1_3], rfl, rfl⟩
theorem ct_A_vd (hty : tys.map (·.2) = ma_ty) (g : ca_S) (q : mr_St) {j : Nat} (hj : j < ca_nm g) (hu : ca_ms g j < 16) (hle : (ca_ln g 2).length ≤ 96) : mr_M l my_A_verdict mc_A_verdict 3 (some .int) 2 D mn_cl Z mb_B tys ma_sh [va_rf (some (ad 0 0)), va_rf (some (ad 10 j))] ad (ma_R g q) (some (.int (ca_vd g j))) (ma_R g q) := by
  refine mg_M.of (cc := mc_A_verdict) (maxL := 3) (ret := (some .int)) (by decide) rfl (Nat.le_of_ble_eq_true rfl) (mg_caS rfl (mg_caS rfl mg_ca0)) ?_
  intro p e s m args below meth c K hret hlk hnm hA
  refine mg_aload_n K md_A_verdict_0 rfl ?_
  refine mr_getS (k2 := 7) (i2 := ca_ms g j) K mf_A_191 md_A_verdict_1 hj rfl ?_
  refine mr_getI (v := ca_iv g 7 (ca_ms g j) 0) K mf_A_95 md_A_verdict_4 (by decide) hu rfl ?_
  refine mg_istore_n K md_A_verdict_7 (by decide) ?_
  refine mg_aload_n K md_A_verdict_8 rfl ?_
  refine mr_getI (v := ca_iv g 10 j 1) K mf_A_181 md_A_verdict_9 (by decide) hj rfl ?_
  by_cases hS12_0 : ca_iv g 10 j 1 = 0
  · refine mg_tabIn (off := 36) K 0 48 md_A_verdict_12 hS12_0 (by decide) (by decide) (by decide) rfl ?_
    refine mg_iload_n K md_A_verdict_48 rfl ?_
    refine mg_if_eq K 57 md_A_verdict_49 rfl (fun h49 => ?_) (fun h49 => ?_)
    · refine mg_iconst K (v := 0) md_A_verdict_57 (by decide) ?_
      refine mg_goto K 62 md_A_verdict_58 rfl ?_
      exact mg_iret K hret hlk md_A_verdict_62 (Nat.le_refl _) (Nat.le_refl _) ⟨by unfold ca_vd; simp [hS12_0, h49], rfl, rfl⟩
    · refine mg_iload_n K md_A_verdict_52 rfl ?_
      refine mg_iconst K (v := 3) md_A_verdict_53 (by decide) ?_
      refine mg_icmp_ne K 61 md_A_verdict_54 rfl (fun h54 => ?_) (fun h54 => ?_)
      · refine mg_iconst K (v := 1) md_A_verdict_61 (by decide) ?_
        exact mg_iret K hret hlk md_A_verdict_62 (Nat.le_refl _) (Nat.le_refl _) ⟨by unfold ca_vd; simp [hS12_0, h49, h54], rfl, rfl⟩
      · refine mg_iconst K (v := 0) md_A_verdict_57 (by decide) ?_
        refine mg_goto K 62 md_A_verdict_58 rfl ?_
        exact mg_iret K hret hlk md_A_verdict_62 (Nat.le_refl _) (Nat.le_refl _) ⟨by unfold ca_vd; simp [hS12_0, h49, h54], rfl, rfl⟩
  by_cases hS12_1 : ca_iv g 10 j 1 = 1
  · refine mg_tabIn (off := 84) K 1 96 md_A_verdict_12 hS12_1 (by decide) (by decide) (by decide) rfl ?_
    refine mg_aload_n K md_A_verdict_96 rfl ?_
    refine mg_iload_n K md_A_verdict_97 rfl ?_
    refine mr_cV K hA (ct_A_vo hty g q (ca_iv g 7 (ca_ms g j) 0) hle) ms_A_219 (by decide) md_A_verdict_98 rfl rfl Nat.zero_lt_one rfl (by decide) ⟨Nat.le_refl _, Nat.le_refl _⟩ ?_
    exact mg_iret K hret hlk md_A_verdict_101 (Nat.le_refl _) (Nat.le_refl _) ⟨by unfold ca_vd; simp [hS12_1], rfl, rfl⟩
  by_cases hS12_2 : ca_iv g 10 j 1 = 2
  · refine mg_tabIn (off := 51) K 2 63 md_A_verdict_12 hS12_2 (by decide) (by decide) (by decide) rfl ?_
    refine mg_iload_n K md_A_verdict_63 rfl ?_
    refine mg_iconst K (v := 1) md_A_verdict_64 (by decide) ?_
    refine mg_icmp_ne K 90 md_A_verdict_65 rfl (fun h65 => ?_) (fun h65 => ?_)
    · refine mg_aload_n K md_A_verdict_90 rfl ?_
      refine mg_iload_n K md_A_verdict_91 rfl ?_
      refine mr_cV K hA (ct_A_vo hty g q (ca_iv g 7 (ca_ms g j) 0) hle) ms_A_219 (by decide) md_A_verdict_92 rfl rfl Nat.zero_lt_one rfl (by decide) ⟨Nat.le_refl _, Nat.le_refl _⟩ ?_
      exact mg_iret K hret hlk md_A_verdict_95 (Nat.le_refl _) (Nat.le_refl _) ⟨by unfold ca_vd; simp [hS12_2, h65], rfl, rfl⟩
    · refine mg_aload_n K md_A_verdict_68 rfl ?_
      refine mr_getS (k2 := 7) (i2 := ca_ms g j) K mf_A_191 md_A_verdict_69 hj rfl ?_
      refine mr_getI (v := ca_iv g 7 (ca_ms g j) 1) K mf_A_141 md_A_verdict_72 (by decide) hu rfl ?_
      refine mg_aload_n K md_A_verdict_75 rfl ?_
      refine mr_getI (v := ca_iv g 10 j 3) K mf_A_215 md_A_verdict_76 (by decide) hj rfl ?_
      refine mg_iadd K md_A_verdict_79 ?_
      refine mg_ldc K md_A_verdict_80 mk_A_218 ?_
      refine mr_cP K hA (ct_A_isWithin (ca_iv g 7 (ca_ms g j) 1 + ca_iv g 10 j 3) 1000000) ms_A_173 (by decide) md_A_verdict_82 rfl (by decide) ⟨Nat.le_refl _, Nat.le_refl _⟩ ?_
      refine mg_if_ne K 90 md_A_verdict_85 rfl (fun h85 => ?_) (fun h85 => ?_)
      · refine mg_aload_n K md_A_verdict_90 rfl ?_
        refine mg_iload_n K md_A_verdict_91 rfl ?_
        refine mr_cV K hA (ct_A_vo hty g q (ca_iv g 7 (ca_ms g j) 0) hle) ms_A_219 (by decide) md_A_verdict_92 rfl rfl Nat.zero_lt_one rfl (by decide) ⟨Nat.le_refl _, Nat.le_refl _⟩ ?_
        exact mg_iret K hret hlk md_A_verdict_95 (Nat.le_refl _) (Nat.le_refl _) ⟨by unfold ca_vd; simp [hS12_2, h65, ca_in_w h85], rfl, rfl⟩
      · refine mg_iconst K (v := 4) md_A_verdict_88 (by decide) ?_
        exact mg_iret K hret hlk md_A_verdict_89 (Nat.le_refl _) (Nat.le_refl _) ⟨by unfold ca_vd; simp [hS12_2, h65, ca_in_n h85], rfl, rfl⟩
  by_cases hS12_3 : ca_iv g 10 j 1 = 3
  · refine mg_tabIn (off := 90) K 3 102 md_A_verdict_12 hS12_3 (by decide) (by decide) (by decide) rfl ?_
    refine mg_iconst K (v := 0) md_A_verdict_102 (by decide) ?_
    exact mg_iret K hret hlk md_A_verdict_103 (Nat.le_refl _) (Nat.le_refl _) ⟨by unfold ca_vd; simp [hS12_3], rfl, rfl⟩
  by_cases hS12_4 : ca_iv g 10 j 1 = 4
  · refine mg_tabIn (off := 84) K 4 96 md_A_verdict_12 hS12_4 (by decide) (by decide) (by decide) rfl ?_
    refine mg_aload_n K md_A_verdict_96 rfl ?_
    refine mg_iload_n K md_A_verdict_97 rfl ?_
    refine mr_cV K hA (ct_A_vo hty g q (ca_iv g 7 (ca_ms g j) 0) hle) ms_A_219 (by decide) md_A_verdict_98 rfl rfl Nat.zero_lt_one rfl (by decide) ⟨Nat.le_refl _, Nat.le_refl _⟩ ?_
    exact mg_iret K hret hlk md_A_verdict_101 (Nat.le_refl _) (Nat.le_refl _) ⟨by unfold ca_vd; simp [hS12_4], rfl, rfl⟩
  have ehS12_0 : (ca_iv g 10 j 1).toInt ≠ 0 := fun z => hS12_0 (Int32.toInt_inj.mp z)
  have ehS12_1 : (ca_iv g 10 j 1).toInt ≠ 1 := fun z => hS12_1 (Int32.toInt_inj.mp z)
  have ehS12_2 : (ca_iv g 10 j 1).toInt ≠ 2 := fun z => hS12_2 (Int32.toInt_inj.mp z)
  have ehS12_3 : (ca_iv g 10 j 1).toInt ≠ 3 := fun z => hS12_3 (Int32.toInt_inj.mp z)
  have ehS12_4 : (ca_iv g 10 j 1).toInt ≠ 4 := fun z => hS12_4 (Int32.toInt_inj.mp z)
  refine mg_tabOut K 102 md_A_verdict_12 (by omega) rfl ?_
  refine mg_iconst K (v := 0) md_A_verdict_102 (by decide) ?_
  exact mg_iret K hret hlk md_A_verdict_103 (Nat.le_refl _) (Nat.le_refl _) ⟨by unfold ca_vd; simp [hS12_0, hS12_1, hS12_2, hS12_4], rfl, rfl⟩
end CA1
