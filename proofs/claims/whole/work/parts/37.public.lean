/-! the class: its public methods, where they return -/
theorem mi_vs {s : Nat} (h : s < 4) : cv_s (Int32.ofNat s) := ⟨mi_nn (by omega), fun z => by have := (mi_le (a := 4) (b := s) (by omega) (by omega)).mp z; omega⟩
theorem mi_vN {n : Nat} (h1 : 1 ≤ n) (h2 : n ≤ 24) : cv_n (Int32.ofNat n) := ⟨fun z => by have := (mi_lt (a := n) (b := 1) (by omega) (by omega)).mp z; omega, fun z => by have := (mi_lt (a := 24) (b := n) (by omega) (by omega)).mp z; omega⟩
theorem mi_vu {u : Nat} (h : u < 16) : cv_u (Int32.ofNat u) := ⟨mi_nn (by omega), fun z => by have := (mi_le (a := 16) (b := u) (by omega) (by omega)).mp z; omega⟩
theorem cv_s_ex {x : Int32} (h : cv_s x) : ∃ s : Nat, s < 4 ∧ x = Int32.ofNat s := by
  obtain ⟨n, hn, rfl⟩ := mi_ex h.1
  exact ⟨n, by have := mt (mi_le (a := 4) (b := n) (by omega) hn).mpr h.2; omega, rfl⟩
theorem cv_u_ex {x : Int32} (h : cv_u x) : ∃ s : Nat, s < 16 ∧ x = Int32.ofNat s := by
  obtain ⟨n, hn, rfl⟩ := mi_ex h.1
  exact ⟨n, by have := mt (mi_le (a := 16) (b := n) (by omega) hn).mpr h.2; omega, rfl⟩
theorem cv_f_ex {x : Int32} (h : cv_f x) : ∃ s : Nat, s < 5 ∧ x = Int32.ofNat s := by
  obtain ⟨n, hn, rfl⟩ := mi_ex h.1
  exact ⟨n, by have := mt (mi_le (a := 5) (b := n) (by omega) hn).mpr h.2; omega, rfl⟩
theorem cv_n_ex {x : Int32} (h : cv_n x) : ∃ s : Nat, 1 ≤ s ∧ s ≤ 24 ∧ x = Int32.ofNat s := by
  have h0 : ¬ x < 0 := fun z => h.1 (Int32.lt_iff_toInt_lt.mpr (by have := Int32.lt_iff_toInt_lt.mp z; have e0 : (0 : Int32).toInt = 0 := rfl; have e1 : (1 : Int32).toInt = 1 := rfl; omega))
  obtain ⟨n, hn, rfl⟩ := mi_ex h0
  exact ⟨n, by have := mt (mi_lt (a := n) (b := 1) hn (by omega)).mpr h.1; omega, by have := mt (mi_lt (a := 24) (b := n) (by omega) hn).mpr h.2; omega, rfl⟩
def ca_stat (g : ca_S) (s n : Nat) : Int32 := match ca_tb g s n with
  | none => -1
  | some j => ca_iv g 10 j 4
def ca_answ (g : ca_S) (s n : Nat) : Int32 := match ca_tb g s n with
  | none => 0
  | some j => ca_iv g 10 j 5
abbrev ca_ptP (g : ca_S) (u : Int32) : Prop := cv_u u ∧ ca_iv g 7 u.toNatClampNeg 0 = 1
abbrev ca_flP (g : ca_S) (f b : Int32) : Prop := cv_f f ∧ ¬ ca_iv g 3 0 f.toNatClampNeg = b
def ca_pt (g : ca_S) (u : Int32) : ca_S := if ca_ptP g u then ca_si g 7 u.toNatClampNeg 0 2 else g
def ca_fl (g : ca_S) (f b : Int32) : ca_S := if ca_flP g f b then ca_si g 3 0 f.toNatClampNeg b else g
def ca_of (g : ca_S) (s w : Int32) : Int32 := if cv_s s then (if w = 0 then Int32.ofNat (ca_lg g s.toNatClampNeg) else if w = 1 then Int32.ofNat (ca_cnt g s.toNatClampNeg 0 1 24 0) else if w = 2 then Int32.ofNat (ca_cnt g s.toNatClampNeg 6 1 24 0) else if w = 3 then Int32.ofNat (ca_great g s.toNatClampNeg 24) else -1) else -1
def ca_count (g : ca_S) (w : Int32) : Int32 := if w = 0 then Int32.ofNat (ca_ln g 0).length else if w = 1 then Int32.ofNat (ca_ln g 1).length else if w = 2 then ca_iv g 0 0 7 else if w = 3 then ca_iv g 0 0 8 else if w = 4 then Int32.ofNat (ca_ln g 2).length else if w = 5 then Int32.ofNat (ca_ln g 3).length else -1
def ca_look (g : ca_S) (u : Nat) (w : Int32) : Int32 := if w = 0 then ca_iv g 7 u 0 else if w = 1 then ca_iv g 7 u 1 else if w = 2 then ca_iv g 7 u 2 else Int32.ofNat (ca_lf g 2 u 0 (ca_ln g 2).length 0)
def ca_skP (g : ca_S) (s : Nat) : Bool := ca_beh g s (ca_iv g 0 0 7 - 100) (ca_lg g s + 1) (24 - ca_lg g s)
def ca_skip (g : ca_S) (s : Nat) : ca_S × Int32 := if ca_skP g s then (ca_turns (ca_si g 6 s (ca_lg g s) 1) s, Int32.ofNat (ca_lg g s)) else (g, -1)
theorem ca_beh_25 (g : ca_S) (s : Nat) (b : Int32) : ca_beh g s b 26 0 = false := rfl
theorem ca_skP_lt {g : ca_S} {s : Nat} (h : ca_skP g s = true) : ca_lg g s ≤ 24 := by
  have hb := ca_lg_b g s
  by_cases h2 : ca_lg g s ≤ 24
  · exact h2
  · have h3 : ca_lg g s = 25 := by omega
    unfold ca_skP at h
    rw [h3] at h
    cases h
theorem mi_4 {w : Int32} (h0 : ¬ w < 0) (h4 : ¬ 4 ≤ w) (e0 : ¬ w = 0) (e1 : ¬ w = 1) (e2 : ¬ w = 2) (e3 : ¬ w = 3) : False := by
  obtain ⟨n, hn, rfl⟩ := mi_ex h0
  have h5 : n < 4 := by have := mt (mi_le (a := 4) (b := n) (by omega) hn).mpr h4; omega
  match n, h5 with
  | 0, _ => exact e0 rfl
  | 1, _ => exact e1 rfl
  | 2, _ => exact e2 rfl
  | 3, _ => exact e3 rfl
section CP1
variable {l : Launch} {D : va_G} {Z : Nat × Cell} {tys : List (ClassId × FieldType)} {ad : mg_Ad}
theorem ct_A_status (hty : tys.map (·.2) = ma_ty) (g : ca_S) (q : mr_St) {s0 : Nat} (hs : s0 < 4) {n : Nat} (h1 : 1 ≤ n) (h24 : n ≤ 24) (hok : ca_ok g) : mr_M l my_A_status mc_A_status 4 (some .int) 3 D mn_cl Z mb_B tys ma_sh [va_rf (some (ad 0 0)), .int (Int32.ofNat s0), .int (Int32.ofNat n)] ad (ma_R g q) (some (.int (ca_stat g s0 n))) (ma_R g q) := by
  refine mg_M.of (cc := mc_A_status) (maxL := 4) (ret := (some .int)) (by decide) rfl (Nat.le_of_ble_eq_true rfl) (mg_caS rfl (mg_caS rfl (mg_caS rfl mg_ca0))) ?_
  intro p e s m args below meth c K hret hlk hnm hA
  cases hx : ca_tb g s0 n with
  | none =>
    refine mg_iload_n K md_A_status_0 rfl ?_
    refine mr_cP K hA (ct_A_checkSender (Int32.ofNat s0) (mi_vs hs)) ms_A_50 (by decide) md_A_status_1 rfl (by decide) ⟨Nat.zero_le _, Nat.zero_le _⟩ ?_
    refine mg_iload_n K md_A_status_4 rfl ?_
    refine mr_cP K hA (ct_A_checkNumber (Int32.ofNat n) (mi_vN h1 h24)) ms_A_54 (by decide) md_A_status_5 rfl (by decide) ⟨Nat.zero_le _, Nat.zero_le _⟩ ?_
    refine mg_aload_n K md_A_status_8 rfl ?_
    refine mr_getS K mf_A_11 md_A_status_9 Nat.zero_lt_one rfl ?_
    refine mg_iload_n K md_A_status_12 rfl ?_
    refine mr_aaldS (k2 := 4) (i2 := s0) K rfl (ma_t hty 0) md_A_status_13 Nat.zero_lt_one (mi_vn (by omega) (by omega)) (by rw [mi_tn (by omega)]; exact ma_lst hs g q) ?_
    refine mg_iload_n K md_A_status_14 rfl ?_
    refine mr_cV K hA (ct_S_get hty g q hs h1 h24) ms_A_82 (by decide) md_A_status_15 rfl rfl hs rfl (by decide) ⟨Nat.le_refl _, Nat.le_refl _⟩ ?_
    rw [ca_tv_n hx]
    refine mg_astore_n K md_A_status_18 (by decide) ?_
    refine mg_aload_n K md_A_status_19 rfl ?_
    refine mg_ifnonnull K 27 md_A_status_20 rfl (fun h20 => ?_) (fun h20 => ?_)
    · exact absurd rfl h20
    · refine mg_iconst K (v := -1) md_A_status_23 (by decide) ?_
      refine mg_goto K 31 md_A_status_24 rfl ?_
      exact mg_iret K hret hlk md_A_status_31 (Nat.le_refl _) (Nat.le_refl _) ⟨by unfold ca_stat; rw [hx], rfl, rfl⟩
  | some j =>
    have hj := hok.1 s0 n j hx
    refine mg_iload_n K md_A_status_0 rfl ?_
    refine mr_cP K hA (ct_A_checkSender (Int32.ofNat s0) (mi_vs hs)) ms_A_50 (by decide) md_A_status_1 rfl (by decide) ⟨Nat.zero_le _, Nat.zero_le _⟩ ?_
    refine mg_iload_n K md_A_status_4 rfl ?_
    refine mr_cP K hA (ct_A_checkNumber (Int32.ofNat n) (mi_vN h1 h24)) ms_A_54 (by decide) md_A_status_5 rfl (by decide) ⟨Nat.zero_le _, Nat.zero_le _⟩ ?_
    refine mg_aload_n K md_A_status_8 rfl ?_
    refine mr_getS K mf_A_11 md_A_status_9 Nat.zero_lt_one rfl ?_
    refine mg_iload_n K md_A_status_12 rfl ?_
    refine mr_aaldS (k2 := 4) (i2 := s0) K rfl (ma_t hty 0) md_A_status_13 Nat.zero_lt_one (mi_vn (by omega) (by omega)) (by rw [mi_tn (by omega)]; exact ma_lst hs g q) ?_
    refine mg_iload_n K md_A_status_14 rfl ?_
    refine mr_cV K hA (ct_S_get hty g q hs h1 h24) ms_A_82 (by decide) md_A_status_15 rfl rfl hs rfl (by decide) ⟨Nat.le_refl _, Nat.le_refl _⟩ ?_
    rw [ca_tv_s hx, mr_as]
    refine mg_astore_n K md_A_status_18 (by decide) ?_
    refine mg_aload_n K md_A_status_19 rfl ?_
    refine mg_ifnonnull K 27 md_A_status_20 rfl (fun h20 => ?_) (fun h20 => ?_)
    · refine mg_aload_n K md_A_status_27 rfl ?_
      refine mr_getI (v := ca_iv g 10 j 4) K mf_A_86 md_A_status_28 (by decide) hj rfl ?_
      exact mg_iret K hret hlk md_A_status_31 (Nat.le_refl _) (Nat.le_refl _) ⟨by unfold ca_stat; rw [hx], rfl, rfl⟩
    · exact absurd h20 (fun z => by cases z)
theorem ct_A_answer (hty : tys.map (·.2) = ma_ty) (g : ca_S) (q : mr_St) {s0 : Nat} (hs : s0 < 4) {n : Nat} (h1 : 1 ≤ n) (h24 : n ≤ 24) (hok : ca_ok g) : mr_M l my_A_answer mc_A_answer 4 (some .int) 3 D mn_cl Z mb_B tys ma_sh [va_rf (some (ad 0 0)), .int (Int32.ofNat s0), .int (Int32.ofNat n)] ad (ma_R g q) (some (.int (ca_answ g s0 n))) (ma_R g q) := by
  refine mg_M.of (cc := mc_A_answer) (maxL := 4) (ret := (some .int)) (by decide) rfl (Nat.le_of_ble_eq_true rfl) (mg_caS rfl (mg_caS rfl (mg_caS rfl mg_ca0))) ?_
  intro p e s m args below meth c K hret hlk hnm hA
  cases hx : ca_tb g s0 n with
  | none =>
    refine mg_iload_n K md_A_answer_0 rfl ?_
    refine mr_cP K hA (ct_A_checkSender (Int32.ofNat s0) (mi_vs hs)) ms_A_50 (by decide) md_A_answer_1 rfl (by decide) ⟨Nat.zero_le _, Nat.zero_le _⟩ ?_
    refine mg_iload_n K md_A_answer_4 rfl ?_
    refine mr_cP K hA (ct_A_checkNumber (Int32.ofNat n) (mi_vN h1 h24)) ms_A_54 (by decide) md_A_answer_5 rfl (by decide) ⟨Nat.zero_le _, Nat.zero_le _⟩ ?_
    refine mg_aload_n K md_A_answer_8 rfl ?_
    refine mr_getS K mf_A_11 md_A_answer_9 Nat.zero_lt_one rfl ?_
    refine mg_iload_n K md_A_answer_12 rfl ?_
    refine mr_aaldS (k2 := 4) (i2 := s0) K rfl (ma_t hty 0) md_A_answer_13 Nat.zero_lt_one (mi_vn (by omega) (by omega)) (by rw [mi_tn (by omega)]; exact ma_lst hs g q) ?_
    refine mg_iload_n K md_A_answer_14 rfl ?_
    refine mr_cV K hA (ct_S_get hty g q hs h1 h24) ms_A_82 (by decide) md_A_answer_15 rfl rfl hs rfl (by decide) ⟨Nat.le_refl _, Nat.le_refl _⟩ ?_
    rw [ca_tv_n hx]
    refine mg_astore_n K md_A_answer_18 (by decide) ?_
    refine mg_aload_n K md_A_answer_19 rfl ?_
    refine mg_ifnonnull K 27 md_A_answer_20 rfl (fun h20 => ?_) (fun h20 => ?_)
    · exact absurd rfl h20
    · refine mg_iconst K (v := 0) md_A_answer_23 (by decide) ?_
      refine mg_goto K 31 md_A_answer_24 rfl ?_
      exact mg_iret K hret hlk md_A_answer_31 (Nat.le_refl _) (Nat.le_refl _) ⟨by unfold ca_answ; rw [hx], rfl, rfl⟩
  | some j =>
    have hj := hok.1 s0 n j hx
    refine mg_iload_n K md_A_answer_0 rfl ?_
    refine mr_cP K hA (ct_A_checkSender (Int32.ofNat s0) (mi_vs hs)) ms_A_50 (by decide) md_A_answer_1 rfl (by decide) ⟨Nat.zero_le _, Nat.zero_le _⟩ ?_
    refine mg_iload_n K md_A_answer_4 rfl ?_
    refine mr_cP K hA (ct_A_checkNumber (Int32.ofNat n) (mi_vN h1 h24)) ms_A_54 (by decide) md_A_answer_5 rfl (by decide) ⟨Nat.zero_le _, Nat.zero_le _⟩ ?_
    refine mg_aload_n K md_A_answer_8 rfl ?_
    refine mr_getS K mf_A_11 md_A_answer_9 Nat.zero_lt_one rfl ?_
    refine mg_iload_n K md_A_answer_12 rfl ?_
    refine mr_aaldS (k2 := 4) (i2 := s0) K rfl (ma_t hty 0) md_A_answer_13 Nat.zero_lt_one (mi_vn (by omega) (by omega)) (by rw [mi_tn (by omega)]; exact ma_lst hs g q) ?_
    refine mg_iload_n K md_A_answer_14 rfl ?_
    refine mr_cV K hA (ct_S_get hty g q hs h1 h24) ms_A_82 (by decide) md_A_answer_15 rfl rfl hs rfl (by decide) ⟨Nat.le_refl _, Nat.le_refl _⟩ ?_
    rw [ca_tv_s hx, mr_as]
    refine mg_astore_n K md_A_answer_18 (by decide) ?_
    refine mg_aload_n K md_A_answer_19 rfl ?_
    refine mg_ifnonnull K 27 md_A_answer_20 rfl (fun h20 => ?_) (fun h20 => ?_)
    · refine mg_aload_n K md_A_answer_27 rfl ?_
      refine mr_getI (v := ca_iv g 10 j 5) K mf_A_89 md_A_answer_28 (by decide) hj rfl ?_
      exact mg_iret K hret hlk md_A_answer_31 (Nat.le_refl _) (Nat.le_refl _) ⟨by unfold ca_answ; rw [hx], rfl, rfl⟩
    · exact absurd h20 (fun z => by cases z)
theorem ct_A_point (hty : tys.map (·.2) = ma_ty) (g : ca_S) (q : mr_St) (x : Int32) : mr_M l my_A_point mc_A_point 2 (some .boolean) 2 D mn_cl Z mb_B tys ma_sh [va_rf (some (ad 0 0)), .int x] ad (ma_R g q) (some (.int (if ca_ptP g x then 1 else 0))) (ma_R (ca_pt g x) q) := by
  refine mg_M.of (cc := mc_A_point) (maxL := 2) (ret := (some .boolean)) (by decide) rfl (Nat.le_of_ble_eq_true rfl) (mg_caS rfl (mg_caS rfl mg_ca0)) ?_
  intro p e s m args below meth c K hret hlk hnm hA
  by_cases hv : cv_u x
  case neg =>
    have hnp : ¬ ca_ptP g x := fun z => hv z.1
    have hst : ca_pt g x = g := if_neg hnp
    rw [if_neg hnp, hst]
    refine mg_iload_n K md_A_point_0 rfl ?_
    refine mr_cP K hA (ct_A_isSubject x) ms_A_92 (by decide) md_A_point_1 rfl (by decide) ⟨Nat.zero_le _, Nat.zero_le _⟩ ?_
    rw [if_neg hv]
    refine mg_if_eq K 20 md_A_point_4 rfl (fun h4 => ?_) (fun h4 => ?_)
    · refine mg_iconst K (v := 0) md_A_point_20 (by decide) ?_
      exact mg_zret K hret hlk md_A_point_21 (by decide) (Nat.le_refl _) (Nat.le_refl _) ⟨rfl, rfl, rfl⟩
    · exact absurd rfl h4
  obtain ⟨u, hu, rfl⟩ := cv_u_ex hv
  refine mg_iload_n K md_A_point_0 rfl ?_
  refine mr_cP K hA (ct_A_isSubject (Int32.ofNat u)) ms_A_92 (by decide) md_A_point_1 rfl (by decide) ⟨Nat.zero_le _, Nat.zero_le _⟩ ?_
  rw [if_pos hv]
  refine mg_if_eq K 20 md_A_point_4 rfl (fun h4 => ?_) (fun h4 => ?_)
  · exact absurd h4 (by decide)
  · refine mg_aload_n K md_A_point_7 rfl ?_
    refine mr_getS K mf_A_17 md_A_point_8 Nat.zero_lt_one rfl ?_
    refine mg_iload_n K md_A_point_11 rfl ?_
    refine mr_aaldS (k2 := 7) (i2 := u) K rfl (ma_t hty 1) md_A_point_12 Nat.zero_lt_one (mi_vn (by omega) (by omega)) (by rw [mi_tn (by omega)]; exact ma_sub hu g q) ?_
    refine mr_getI (v := ca_iv g 7 u 0) K mf_A_95 md_A_point_13 (by decide) hu rfl ?_
    refine mg_iconst K (v := 1) md_A_point_16 (by decide) ?_
    refine mg_icmp_eq K 22 md_A_point_17 rfl (fun h17 => ?_) (fun h17 => ?_)
    · have hp : ca_ptP g (Int32.ofNat u) := ⟨hv, by rw [mi_tn (by omega)]; exact h17⟩
      have hst : ca_pt g (Int32.ofNat u) = ca_si g 7 u 0 2 := by unfold ca_pt; rw [if_pos hp, mi_tn (by omega)]
      rw [if_pos hp, hst]
      refine mg_aload_n K md_A_point_22 rfl ?_
      refine mr_getS K mf_A_17 md_A_point_23 Nat.zero_lt_one rfl ?_
      refine mg_iload_n K md_A_point_26 rfl ?_
      refine mr_aaldS (k2 := 7) (i2 := u) K rfl (ma_t hty 1) md_A_point_27 Nat.zero_lt_one (mi_vn (by omega) (by omega)) (by rw [mi_tn (by omega)]; exact ma_sub hu g q) ?_
      refine mg_iconst K (v := 2) md_A_point_28 (by decide) ?_
      refine mr_putI K mf_A_95 md_A_point_29 hu ?_
      refine mr_eqr (ma_sI _ _ _ _ _ _ (by decide) (by decide)) ?_
      refine mg_iconst K (v := 1) md_A_point_32 (by decide) ?_
      exact mg_zret K hret hlk md_A_point_33 (by decide) (Nat.le_refl _) (Nat.le_refl _) ⟨rfl, rfl, rfl⟩
    · have hp : ¬ ca_ptP g (Int32.ofNat u) := fun z => h17 (by have := z.2; rw [mi_tn (by omega)] at this; exact this)
      have hst : ca_pt g (Int32.ofNat u) = g := if_neg hp
      rw [if_neg hp, hst]
      refine mg_iconst K (v := 0) md_A_point_20 (by decide) ?_
      exact mg_zret K hret hlk md_A_point_21 (by decide) (Nat.le_refl _) (Nat.le_refl _) ⟨rfl, rfl, rfl⟩
theorem ct_A_fails (hty : tys.map (·.2) = ma_ty) (g : ca_S) (q : mr_St) (x b : Int32) (hb : b = 0 ∨ b = 1) : mr_M l my_A_fails mc_A_fails 3 (some .boolean) 2 D mn_cl Z mb_B tys ma_sh [va_rf (some (ad 0 0)), .int x, .int b] ad (ma_R g q) (some (.int (if ca_flP g x b then 1 else 0))) (ma_R (ca_fl g x b) q) := by
  have hnb : vp_nar .boolean b = b := by rcases hb with rfl | rfl <;> decide
  refine mg_M.of (cc := mc_A_fails) (maxL := 3) (ret := (some .boolean)) (by decide) rfl (Nat.le_of_ble_eq_true rfl) (mg_caS rfl (mg_caS rfl (mg_caS rfl mg_ca0))) ?_
  intro p e s m args below meth c K hret hlk hnm hA
  by_cases hv : cv_f x
  case neg =>
    have hnp : ¬ ca_flP g x b := fun z => hv z.1
    have hst : ca_fl g x b = g := if_neg hnp
    rw [if_neg hnp, hst]
    refine mg_iload_n K md_A_fails_0 rfl ?_
    refine mr_cP K hA (ct_A_isFunction x) ms_A_98 (by decide) md_A_fails_1 rfl (by decide) ⟨Nat.zero_le _, Nat.zero_le _⟩ ?_
    rw [if_neg hv]
    refine mg_if_eq K 17 md_A_fails_4 rfl (fun h4 => ?_) (fun h4 => ?_)
    · refine mg_iconst K (v := 0) md_A_fails_17 (by decide) ?_
      exact mg_zret K hret hlk md_A_fails_18 (by decide) (Nat.le_refl _) (Nat.le_refl _) ⟨rfl, rfl, rfl⟩
    · exact absurd rfl h4
  obtain ⟨u, hu, rfl⟩ := cv_f_ex hv
  refine mg_iload_n K md_A_fails_0 rfl ?_
  refine mr_cP K hA (ct_A_isFunction (Int32.ofNat u)) ms_A_98 (by decide) md_A_fails_1 rfl (by decide) ⟨Nat.zero_le _, Nat.zero_le _⟩ ?_
  rw [if_pos hv]
  refine mg_if_eq K 17 md_A_fails_4 rfl (fun h4 => ?_) (fun h4 => ?_)
  · exact absurd h4 (by decide)
  · refine mg_aload_n K md_A_fails_7 rfl ?_
    refine mr_getS (k2 := 3) (i2 := 0) K mf_A_21 md_A_fails_8 Nat.zero_lt_one rfl ?_
    refine mg_iload_n K md_A_fails_11 rfl ?_
    refine mr_zald (v := ca_iv g 3 0 u) K rfl (ma_t hty 2) md_A_fails_12 Nat.zero_lt_one (mi_vn (by omega) (by omega)) (by rw [mi_tn (by omega)]; rfl) ?_
    refine mg_iload_n K md_A_fails_13 rfl ?_
    refine mg_icmp_ne K 19 md_A_fails_14 rfl (fun h14 => ?_) (fun h14 => ?_)
    · have hp : ca_flP g (Int32.ofNat u) b := ⟨hv, by rw [mi_tn (by omega)]; exact h14⟩
      have hst : ca_fl g (Int32.ofNat u) b = ca_si g 3 0 u b := by unfold ca_fl; rw [if_pos hp, mi_tn (by omega)]
      rw [if_pos hp, hst]
      refine mg_aload_n K md_A_fails_19 rfl ?_
      refine mr_getS (k2 := 3) (i2 := 0) K mf_A_21 md_A_fails_20 Nat.zero_lt_one rfl ?_
      refine mg_iload_n K md_A_fails_23 rfl ?_
      refine mg_iload_n K md_A_fails_24 rfl ?_
      refine mr_zast (v := b) K rfl (ma_t hty 2) md_A_fails_25 Nat.zero_lt_one (mi_vn (by omega) (by omega)) hnb ?_
      rw [mi_tn (by omega)]
      refine mr_eqr (ma_sI _ _ _ _ _ _ (by decide) (by decide)) ?_
      refine mg_iconst K (v := 1) md_A_fails_26 (by decide) ?_
      exact mg_zret K hret hlk md_A_fails_27 (by decide) (Nat.le_refl _) (Nat.le_refl _) ⟨rfl, rfl, rfl⟩
    · have hp : ¬ ca_flP g (Int32.ofNat u) b := fun z => z.2 (by rw [mi_tn (by omega)]; exact h14)
      have hst : ca_fl g (Int32.ofNat u) b = g := if_neg hp
      rw [if_neg hp, hst]
      refine mg_iconst K (v := 0) md_A_fails_17 (by decide) ?_
      exact mg_zret K hret hlk md_A_fails_18 (by decide) (Nat.le_refl _) (Nat.le_refl _) ⟨rfl, rfl, rfl⟩
theorem ct_A_tick (hty : tys.map (·.2) = ma_ty) (g : ca_S) (q : mr_St) (t : Int32) (hok : ca_ok g) (ht1 : ¬ t < ca_iv g 0 0 7) (ht2 : ¬ 100000 < t) : mr_M l my_A_tick mc_A_tick 3 (some .int) 6 D mn_cl Z mb_B tys ma_sh [va_rf (some (ad 0 0)), .int t] ad (ma_R g q) (some (.int (Int32.ofNat (ca_ln (ca_tick g t) 1).length - Int32.ofNat (ca_ln g 1).length))) (ma_R (ca_tick g t) q) := by
  have t1 := ca_to.si hok 0 0 7 t (by omega)
  have t2 := ca_to.retry (ca_ln (ca_si g 0 0 7 t) 3).length t1.ok
  refine mg_M.of (cc := mc_A_tick) (maxL := 3) (ret := (some .int)) (by decide) rfl (Nat.le_of_ble_eq_true rfl) (mg_caS rfl (mg_caS rfl mg_ca0)) ?_
  intro p e s m args below meth c K hret hlk hnm hA
  refine mg_iload_n K md_A_tick_0 rfl ?_
  refine mg_aload_n K md_A_tick_1 rfl ?_
  refine mr_getI (v := ca_iv g 0 0 7) K mf_A_41 md_A_tick_2 (by decide) Nat.zero_lt_one rfl ?_
  refine mg_icmp_lt K 14 md_A_tick_5 rfl (fun h5 => ?_) (fun h5 => ?_)
  · exact absurd h5 ht1
  · refine mg_iload_n K md_A_tick_8 rfl ?_
    refine mg_ldc K md_A_tick_9 mk_A_101 ?_
    refine mg_icmp_le K 24 md_A_tick_11 rfl (fun h11 => ?_) (fun h11 => ?_)
    · refine mg_aload_n K md_A_tick_24 rfl ?_
      refine mr_getS (k2 := 8) (i2 := 1) K mf_A_32 md_A_tick_25 Nat.zero_lt_one rfl ?_
      refine mr_getI (v := Int32.ofNat (ca_ln g 1).length) K mf_A_109 md_A_tick_28 (by decide) (by decide : 1 < 4) rfl ?_
      refine mg_istore_n K md_A_tick_31 (by decide) ?_
      refine mg_aload_n K md_A_tick_32 rfl ?_
      refine mg_iload_n K md_A_tick_33 rfl ?_
      refine mr_putI K mf_A_41 md_A_tick_34 Nat.zero_lt_one ?_
      refine mr_eqr (ma_sI _ _ _ _ _ _ (by decide) (by decide)) ?_
      refine mg_aload_n K md_A_tick_37 rfl ?_
      refine mr_cV K hA (ct_A_retry hty (ca_si g 0 0 7 t) q t1.ok) ms_A_112 (by decide) md_A_tick_38 rfl rfl Nat.zero_lt_one rfl (by decide) ⟨Nat.le_refl _, Nat.le_refl _⟩ ?_
      refine mg_aload_n K md_A_tick_41 rfl ?_
      refine mr_cV K hA (ct_A_longs hty _ q t2.ok) ms_A_115 (by decide) md_A_tick_42 rfl rfl Nat.zero_lt_one rfl (by decide) ⟨Nat.le_refl _, Nat.le_refl _⟩ ?_
      refine mg_aload_n K md_A_tick_45 rfl ?_
      refine mr_getS (k2 := 8) (i2 := 1) K mf_A_32 md_A_tick_46 Nat.zero_lt_one rfl ?_
      refine mr_getI (v := Int32.ofNat (ca_ln (ca_tick g t) 1).length) K mf_A_109 md_A_tick_49 (by decide) (by decide : 1 < 4) rfl ?_
      refine mg_iload_n K md_A_tick_52 rfl ?_
      refine mg_isub K md_A_tick_53 ?_
      exact mg_iret K hret hlk md_A_tick_54 (Nat.le_refl _) (Nat.le_refl _) ⟨rfl, rfl, rfl⟩
    · exact absurd (Int32.not_lt.mp ht2) h11
theorem ct_A_skip (hty : tys.map (·.2) = ma_ty) (g : ca_S) (q : mr_St) {s0 : Nat} (hs : s0 < 4) (hok : ca_ok g) : mr_M l my_A_skip mc_A_skip 4 (some .int) 6 D mn_cl Z mb_B tys ma_sh [va_rf (some (ad 0 0)), .int (Int32.ofNat s0)] ad (ma_R g q) (some (.int (ca_skip g s0).2)) (ma_R (ca_skip g s0).1 q) := by
  have hlb := ca_lg_b g s0
  have t1 := ca_to.si hok 6 s0 (ca_lg g s0) 1 (by omega)
  refine mg_M.of (cc := mc_A_skip) (maxL := 4) (ret := (some .int)) (by decide) rfl (Nat.le_of_ble_eq_true rfl) (mg_caS rfl (mg_caS rfl mg_ca0)) ?_
  intro p e s m args below meth c K hret hlk hnm hA
  refine mg_iload_n K md_A_skip_0 rfl ?_
  refine mr_cP K hA (ct_A_checkSender (Int32.ofNat s0) (mi_vs hs)) ms_A_50 (by decide) md_A_skip_1 rfl (by decide) ⟨Nat.zero_le _, Nat.zero_le _⟩ ?_
  refine mg_aload_n K md_A_skip_4 rfl ?_
  refine mr_getS K mf_A_11 md_A_skip_5 Nat.zero_lt_one rfl ?_
  refine mg_iload_n K md_A_skip_8 rfl ?_
  refine mr_aaldS (k2 := 4) (i2 := s0) K rfl (ma_t hty 0) md_A_skip_9 Nat.zero_lt_one (mi_vn (by omega) (by omega)) (by rw [mi_tn (by omega)]; exact ma_lst hs g q) ?_
  refine mg_astore_n K md_A_skip_10 (by decide) ?_
  refine mg_aload_n K md_A_skip_11 rfl ?_
  refine mr_cV K hA (ct_S_leastGap hty g q hs (hok.1 s0)) ms_A_118 (by decide) md_A_skip_12 rfl rfl hs rfl (by decide) ⟨Nat.le_refl _, Nat.le_refl _⟩ ?_
  refine mg_istore_n K md_A_skip_15 (by decide) ?_
  refine mg_aload_n K md_A_skip_16 rfl ?_
  refine mg_iload_n K md_A_skip_17 rfl ?_
  refine mg_aload_n K md_A_skip_18 rfl ?_
  refine mr_getI (v := ca_iv g 0 0 7) K mf_A_41 md_A_skip_19 (by decide) Nat.zero_lt_one rfl ?_
  refine mg_bipush K (v := 100) md_A_skip_22 (by decide) ?_
  refine mg_isub K md_A_skip_24 ?_
  refine mr_cV K hA (ct_S_cameBehind hty g q (n0 := ca_lg g s0) (b := ca_iv g 0 0 7 - 100) hs hlb.2 (hok.1 s0)) ms_A_122 (by decide) md_A_skip_25 rfl rfl hs rfl (by decide) ⟨Nat.le_refl _, Nat.le_refl _⟩ ?_
  refine mg_if_ne K 33 md_A_skip_28 rfl (fun h28 => ?_) (fun h28 => ?_)
  · have hk : ca_skP g s0 = true := by cases hh : ca_skP g s0 with | true => rfl | false => (unfold ca_skP at hh; rw [hh] at h28; exact absurd rfl h28)
    have hst : ca_skip g s0 = (ca_turns (ca_si g 6 s0 (ca_lg g s0) 1) s0, Int32.ofNat (ca_lg g s0)) := if_pos hk
    rw [hst]
    refine mg_aload_n K md_A_skip_33 rfl ?_
    refine mg_iload_n K md_A_skip_34 rfl ?_
    refine mr_cV K hA (ct_S_close hty g q hs hlb.1 (ca_skP_lt hk)) ms_A_126 (by decide) md_A_skip_35 rfl rfl hs rfl (by decide) ⟨Nat.le_refl _, Nat.le_refl _⟩ ?_
    refine mg_aload_n K md_A_skip_38 rfl ?_
    refine mg_aload_n K md_A_skip_39 rfl ?_
    refine mr_cV K hA (ct_A_give hty (ca_si g 6 s0 (ca_lg g s0) 1) q hs t1.ok) ms_A_129 (by decide) md_A_skip_40 rfl rfl Nat.zero_lt_one rfl (by decide) ⟨Nat.le_refl _, Nat.le_refl _⟩ ?_
    refine mg_iload_n K md_A_skip_43 rfl ?_
    exact mg_iret K hret hlk md_A_skip_44 (Nat.le_refl _) (Nat.le_refl _) ⟨rfl, rfl, rfl⟩
  · have hk : ¬ ca_skP g s0 = true := fun hh => by unfold ca_skP at hh; rw [hh] at h28; exact absurd h28 (by decide)
    have hst : ca_skip g s0 = (g, -1) := if_neg hk
    rw [hst]
    refine mg_iconst K (v := -1) md_A_skip_31 (by decide) ?_
    exact mg_iret K hret hlk md_A_skip_32 (Nat.le_refl _) (Nat.le_refl _) ⟨rfl, rfl, rfl⟩
theorem ct_A_cut (hty : tys.map (·.2) = ma_ty) (g : ca_S) (q : mr_St) {s0 : Nat} (hs : s0 < 4) (hok : ca_ok g) : mr_M l my_A_cut mc_A_cut 2 (some .int) 5 D mn_cl Z mb_B tys ma_sh [va_rf (some (ad 0 0)), .int (Int32.ofNat s0)] ad (ma_R g q) (some (.int (Int32.ofNat (ca_lose s0 1 24 g 0).2))) (ma_R (ca_lose s0 1 24 g 0).1 q) := by
  refine mg_M.of (cc := mc_A_cut) (maxL := 2) (ret := (some .int)) (by decide) rfl (Nat.le_of_ble_eq_true rfl) (mg_caS rfl (mg_caS rfl mg_ca0)) ?_
  intro p e s m args below meth c K hret hlk hnm hA
  refine mg_iload_n K md_A_cut_0 rfl ?_
  refine mr_cP K hA (ct_A_checkSender (Int32.ofNat s0) (mi_vs hs)) ms_A_50 (by decide) md_A_cut_1 rfl (by decide) ⟨Nat.zero_le _, Nat.zero_le _⟩ ?_
  refine mg_aload_n K md_A_cut_4 rfl ?_
  refine mr_getS K mf_A_11 md_A_cut_5 Nat.zero_lt_one rfl ?_
  refine mg_iload_n K md_A_cut_8 rfl ?_
  refine mr_aaldS (k2 := 4) (i2 := s0) K rfl (ma_t hty 0) md_A_cut_9 Nat.zero_lt_one (mi_vn (by omega) (by omega)) (by rw [mi_tn (by omega)]; exact ma_lst hs g q) ?_
  refine mr_cV K hA (ct_S_loseHeld hty g q hs (hok.1 s0)) ms_A_133 (by decide) md_A_cut_10 rfl rfl hs rfl (by decide) ⟨Nat.le_refl _, Nat.le_refl _⟩ ?_
  exact mg_iret K hret hlk md_A_cut_13 (Nat.le_refl _) (Nat.le_refl _) ⟨rfl, rfl, rfl⟩
theorem ca_rep_N {g : ca_S} {s n f a : Nat} (h : ca_tb g s n = none) : ca_rep s n (f + 1) g a = ca_rep s (n + 1) f g a := by
  show (match ca_tb g s n with | none => ca_rep s (n + 1) f g a | some j => if ca_iv g 10 j 4 = 6 ∧ ca_gap g s n = true then ca_rep s (n + 1) f (ca_come g s j) (a + 1) else ca_rep s (n + 1) f g a) = _
  rw [h]
theorem ca_rep_S {g : ca_S} {s n f a j : Nat} (h : ca_tb g s n = some j) : ca_rep s n (f + 1) g a = if ca_iv g 10 j 4 = 6 ∧ ca_gap g s n = true then ca_rep s (n + 1) f (ca_come g s j) (a + 1) else ca_rep s (n + 1) f g a := by
  show (match ca_tb g s n with | none => ca_rep s (n + 1) f g a | some j => if ca_iv g 10 j 4 = 6 ∧ ca_gap g s n = true then ca_rep s (n + 1) f (ca_come g s j) (a + 1) else ca_rep s (n + 1) f g a) = _
  rw [h]
theorem ct_A_replay (hty : tys.map (·.2) = ma_ty) (g : ca_S) (q : mr_St) {s0 : Nat} (hs : s0 < 4) {n : Nat} (h1 : 1 ≤ n) (h24 : n ≤ 24) (hok : ca_ok g) : mr_M l my_A_replay mc_A_replay 7 (some .int) 7 D mn_cl Z mb_B tys ma_sh [va_rf (some (ad 0 0)), .int (Int32.ofNat s0), .int (Int32.ofNat n)] ad (ma_R g q) (some (.int (Int32.ofNat (ca_rep s0 n (25 - n) g 0).2))) (ma_R (ca_rep s0 n (25 - n) g 0).1 q) := by
  refine mg_M.of (cc := mc_A_replay) (maxL := 7) (ret := (some .int)) (by decide) rfl (Nat.le_of_ble_eq_true rfl) (mg_caS rfl (mg_caS rfl (mg_caS rfl mg_ca0))) ?_
  intro p e s m args below meth c K hret hlk hnm hA
  have loop : ∀ (f k : Nat) (g' : ca_S) (a : Nat), k + f = 25 → 1 ≤ k → ca_to g g' → ca_rep s0 k f g' a = (ca_rep s0 n (25 - n) g 0) → mg_G p l e (mg_rm 7 0 0) s m args below meth c D mn_cl Z (mg_A ad (mr_C tys ma_sh ad (ma_R g q)) s.heap.size) s.heap 7 (MQ below (mg_Qc D mn_cl Z ad (mr_C tys ma_sh ad (ma_R g q)) s.heap.size (mg_Po tys ma_sh ad (some (.int (Int32.ofNat (ca_rep s0 n (25 - n) g 0).2))) (ma_R (ca_rep s0 n (25 - n) g 0).1 q))) args s 0 0 (mg_A ad (mr_C tys ma_sh ad (ma_R g q)) s.heap.size)) ad (mr_C tys ma_sh ad (ma_R g' q)) [some (va_rf (some (ad 0 0))), some (.int (Int32.ofNat s0)), some (.int (Int32.ofNat n)), some (va_rf (some (ad 4 s0))), some (.int (Int32.ofNat a)), some (.int (Int32.ofNat k))] 0 0 [] 21 := by
    intro f
    induction f with
    | zero =>
      intro k g' a hk hk1 ht hT
      refine mg_iload K md_A_replay_21 rfl ?_
      refine mg_bipush K (v := 24) md_A_replay_23 (by decide) ?_
      refine mg_icmp_gt K 76 md_A_replay_25 rfl (fun h25 => ?_) (fun h25 => ?_)
      · refine mg_iload K md_A_replay_76 rfl ?_
        exact mg_iret K hret hlk md_A_replay_78 (Nat.le_refl _) (Nat.le_refl _) ⟨by rw [← hT]; rfl, rfl, by rw [← hT]; rfl⟩
      · exact absurd ((mi_lt (a := 24) (b := k) (by omega) (by omega)).mpr (by omega)) h25
    | succ f ih =>
      intro k g' a hk hk1 ht hT
      cases hx : ca_tb g' s0 k with
      | none =>
        rw [ca_rep_N hx] at hT
        refine mg_iload K md_A_replay_21 rfl ?_
        refine mg_bipush K (v := 24) md_A_replay_23 (by decide) ?_
        refine mg_icmp_gt K 76 md_A_replay_25 rfl (fun h25 => ?_) (fun h25 => ?_)
        · exact absurd ((mi_lt (a := 24) (b := k) (by omega) (by omega)).mp h25) (by omega)
        · refine mg_aload_n K md_A_replay_28 rfl ?_
          refine mg_iload K md_A_replay_29 rfl ?_
          refine mr_cV K hA (ct_S_get hty g' q hs hk1 (by omega)) ms_A_82 (by decide) md_A_replay_31 rfl rfl hs rfl (by decide) ⟨Nat.le_refl _, Nat.le_refl _⟩ ?_
          rw [ca_tv_n hx]
          refine mg_astore K md_A_replay_34 (by decide) ?_
          refine mg_aload K md_A_replay_36 rfl ?_
          refine mg_ifnull K 70 md_A_replay_38 rfl (fun h38 => ?_) (fun h38 => ?_)
          · refine mg_iinc K (v := Int32.ofNat (k + 1)) md_A_replay_70 rfl (mi_a1 k) (by decide) ?_
            refine mg_goto K 21 md_A_replay_73 rfl ?_
            refine mg_take 6 ?_
            exact ih (k + 1) g' a (by omega) (by omega) ht hT
          · exact absurd rfl h38
      | some j =>
        have hj := ht.ok.1 s0 k j hx
        have tc := ca_to.come ht.ok s0 hj
        rw [ca_rep_S hx] at hT
        refine mg_iload K md_A_replay_21 rfl ?_
        refine mg_bipush K (v := 24) md_A_replay_23 (by decide) ?_
        refine mg_icmp_gt K 76 md_A_replay_25 rfl (fun h25 => ?_) (fun h25 => ?_)
        · exact absurd ((mi_lt (a := 24) (b := k) (by omega) (by omega)).mp h25) (by omega)
        · refine mg_aload_n K md_A_replay_28 rfl ?_
          refine mg_iload K md_A_replay_29 rfl ?_
          refine mr_cV K hA (ct_S_get hty g' q hs hk1 (by omega)) ms_A_82 (by decide) md_A_replay_31 rfl rfl hs rfl (by decide) ⟨Nat.le_refl _, Nat.le_refl _⟩ ?_
          rw [ca_tv_s hx, mr_as]
          refine mg_astore K md_A_replay_34 (by decide) ?_
          refine mg_aload K md_A_replay_36 rfl ?_
          refine mg_ifnull K 70 md_A_replay_38 rfl (fun h38 => ?_) (fun h38 => ?_)
          · exact absurd h38 (fun z => by cases z)
          · refine mg_aload K md_A_replay_41 rfl ?_
            refine mr_getI (v := ca_iv g' 10 j 4) K mf_A_86 md_A_replay_43 (by decide) hj rfl ?_
            refine mg_bipush K (v := 6) md_A_replay_46 (by decide) ?_
            refine mg_icmp_ne K 70 md_A_replay_48 rfl (fun h48 => ?_) (fun h48 => ?_)
            · rw [if_neg (fun z => h48 z.1)] at hT
              refine mg_iinc K (v := Int32.ofNat (k + 1)) md_A_replay_70 rfl (mi_a1 k) (by decide) ?_
              refine mg_goto K 21 md_A_replay_73 rfl ?_
              refine mg_take 6 ?_
              exact ih (k + 1) g' a (by omega) (by omega) ht hT
            · refine mg_aload_n K md_A_replay_51 rfl ?_
              refine mg_iload K md_A_replay_52 rfl ?_
              refine mr_cV K hA (ct_S_isGap hty g' q hs hk1 (by omega) (fun i hi => ht.ok.1 s0 k i hi)) ms_A_61 (by decide) md_A_replay_54 rfl rfl hs rfl (by decide) ⟨Nat.le_refl _, Nat.le_refl _⟩ ?_
              refine mg_if_eq K 70 md_A_replay_57 rfl (fun h57 => ?_) (fun h57 => ?_)
              · have hg : ca_gap g' s0 k = false := by cases hh : ca_gap g' s0 k with | true => (rw [hh] at h57; exact absurd h57 (by decide)) | false => rfl
                rw [if_neg (fun z => by rw [hg] at z; cases z.2)] at hT
                refine mg_iinc K (v := Int32.ofNat (k + 1)) md_A_replay_70 rfl (mi_a1 k) (by decide) ?_
                refine mg_goto K 21 md_A_replay_73 rfl ?_
                refine mg_take 6 ?_
                exact ih (k + 1) g' a (by omega) (by omega) ht hT
              · have hg : ca_gap g' s0 k = true := by cases hh : ca_gap g' s0 k with | true => rfl | false => (rw [hh] at h57; exact absurd rfl h57)
                rw [if_pos ⟨h48, hg⟩] at hT
                refine mg_aload_n K md_A_replay_60 rfl ?_
                refine mg_aload_n K md_A_replay_61 rfl ?_
                refine mg_aload K md_A_replay_62 rfl ?_
                refine mr_cV K hA (ct_A_come hty g' q hs ht.ok hj) ms_A_74 (by decide) md_A_replay_64 rfl rfl Nat.zero_lt_one rfl (by decide) ⟨Nat.le_refl _, Nat.le_refl _⟩ ?_
                refine mg_iinc K (v := Int32.ofNat (a + 1)) md_A_replay_67 rfl (mi_a1 a) (by decide) ?_
                refine mg_iinc K (v := Int32.ofNat (k + 1)) md_A_replay_70 rfl (mi_a1 k) (by decide) ?_
                refine mg_goto K 21 md_A_replay_73 rfl ?_
                refine mg_take 6 ?_
                exact ih (k + 1) _ (a + 1) (by omega) (by omega) (ht.tr tc) hT
  refine mg_iload_n K md_A_replay_0 rfl ?_
  refine mr_cP K hA (ct_A_checkSender (Int32.ofNat s0) (mi_vs hs)) ms_A_50 (by decide) md_A_replay_1 rfl (by decide) ⟨Nat.zero_le _, Nat.zero_le _⟩ ?_
  refine mg_iload_n K md_A_replay_4 rfl ?_
  refine mr_cP K hA (ct_A_checkNumber (Int32.ofNat n) (mi_vN h1 h24)) ms_A_54 (by decide) md_A_replay_5 rfl (by decide) ⟨Nat.zero_le _, Nat.zero_le _⟩ ?_
  refine mg_aload_n K md_A_replay_8 rfl ?_
  refine mr_getS K mf_A_11 md_A_replay_9 Nat.zero_lt_one rfl ?_
  refine mg_iload_n K md_A_replay_12 rfl ?_
  refine mr_aaldS (k2 := 4) (i2 := s0) K rfl (ma_t hty 0) md_A_replay_13 Nat.zero_lt_one (mi_vn (by omega) (by omega)) (by rw [mi_tn (by omega)]; exact ma_lst hs g q) ?_
  refine mg_astore_n K md_A_replay_14 (by decide) ?_
  refine mg_iconst K (v := 0) md_A_replay_15 (by decide) ?_
  refine mg_istore K md_A_replay_16 (by decide) ?_
  refine mg_iload_n K md_A_replay_18 rfl ?_
  refine mg_istore K md_A_replay_19 (by decide) ?_
  exact loop (25 - n) n g 0 (by omega) h1 (ca_to.rf hok) rfl
theorem ct_A_look (hty : tys.map (·.2) = ma_ty) (g : ca_S) (q : mr_St) {u : Nat} (w : Int32) (hu : u < 16) (hw0 : ¬ w < 0) (hw4 : ¬ 4 ≤ w) (hok : ca_ok g) : mr_M l my_A_look mc_A_look 4 (some .int) 3 D mn_cl Z mb_B tys ma_sh [va_rf (some (ad 0 0)), .int (Int32.ofNat u), .int w] ad (ma_R g q) (some (.int (ca_look g u w))) (ma_R g q) := by
  refine mg_M.of (cc := mc_A_look) (maxL := 4) (ret := (some .int)) (by decide) rfl (Nat.le_of_ble_eq_true rfl) (mg_caS rfl (mg_caS rfl (mg_caS rfl mg_ca0))) ?_
  intro p e s m args below meth c K hret hlk hnm hA
  refine mg_iload_n K md_A_look_0 rfl ?_
  refine mr_cP K hA (ct_A_isSubject (Int32.ofNat u)) ms_A_92 (by decide) md_A_look_1 rfl (by decide) ⟨Nat.zero_le _, Nat.zero_le _⟩ ?_
  rw [if_pos (mi_vu hu)]
  refine mg_if_ne K 17 md_A_look_4 rfl (fun h4 => ?_) (fun h4 => ?_)
  · refine mg_aload_n K md_A_look_17 rfl ?_
    refine mr_getS K mf_A_17 md_A_look_18 Nat.zero_lt_one rfl ?_
    refine mg_iload_n K md_A_look_21 rfl ?_
    refine mr_aaldS (k2 := 7) (i2 := u) K rfl (ma_t hty 1) md_A_look_22 Nat.zero_lt_one (mi_vn (by omega) (by omega)) (by rw [mi_tn (by omega)]; exact ma_sub hu g q) ?_
    refine mg_astore_n K md_A_look_23 (by decide) ?_
    refine mg_iload_n K md_A_look_24 rfl ?_
    by_cases hS25_0 : w = 0
    · refine mg_tabIn (off := 31) K 0 56 md_A_look_25 hS25_0 (by decide) (by decide) (by decide) rfl ?_
      refine mg_aload_n K md_A_look_56 rfl ?_
      refine mr_getI (v := ca_iv g 7 u 0) K mf_A_95 md_A_look_57 (by decide) hu rfl ?_
      exact mg_iret K hret hlk md_A_look_60 (Nat.le_refl _) (Nat.le_refl _) ⟨by unfold ca_look; rw [if_pos hS25_0], rfl, rfl⟩
    by_cases hS25_1 : w = 1
    · refine mg_tabIn (off := 36) K 1 61 md_A_look_25 hS25_1 (by decide) (by decide) (by decide) rfl ?_
      refine mg_aload_n K md_A_look_61 rfl ?_
      refine mr_getI (v := ca_iv g 7 u 1) K mf_A_141 md_A_look_62 (by decide) hu rfl ?_
      exact mg_iret K hret hlk md_A_look_65 (Nat.le_refl _) (Nat.le_refl _) ⟨by unfold ca_look; rw [if_neg hS25_0, if_pos hS25_1], rfl, rfl⟩
    by_cases hS25_2 : w = 2
    · refine mg_tabIn (off := 41) K 2 66 md_A_look_25 hS25_2 (by decide) (by decide) (by decide) rfl ?_
      refine mg_aload_n K md_A_look_66 rfl ?_
      refine mr_getI (v := ca_iv g 7 u 2) K mf_A_144 md_A_look_67 (by decide) hu rfl ?_
      exact mg_iret K hret hlk md_A_look_70 (Nat.le_refl _) (Nat.le_refl _) ⟨by unfold ca_look; rw [if_neg hS25_0, if_neg hS25_1, if_pos hS25_2], rfl, rfl⟩
    by_cases hS25_3 : w = 3
    · refine mg_tabIn (off := 46) K 3 71 md_A_look_25 hS25_3 (by decide) (by decide) (by decide) rfl ?_
      refine mg_aload_n K md_A_look_71 rfl ?_
      refine mr_getS (k2 := 8) (i2 := 2) K mf_A_35 md_A_look_72 Nat.zero_lt_one rfl ?_
      refine mg_aload_n K md_A_look_75 rfl ?_
      refine mr_cV K hA (ct_L_lengthFor hty g q (x := 2) (by decide) hu (hok.2.2.1 2) (fun i hi => ⟨hok.2.1 2 i hi, (hok.2.2.2 i (hok.2.1 2 i hi)).1⟩)) ms_A_146 (by decide) md_A_look_76 rfl rfl (by decide : 2 < 4) rfl (by decide) ⟨Nat.le_refl _, Nat.le_refl _⟩ ?_
      exact mg_iret K hret hlk md_A_look_79 (Nat.le_refl _) (Nat.le_refl _) ⟨by unfold ca_look; rw [if_neg hS25_0, if_neg hS25_1, if_neg hS25_2], rfl, rfl⟩
    exact absurd (mi_4 hw0 hw4 hS25_0 hS25_1 hS25_2 hS25_3) id
  · exact absurd h4 (by decide)
theorem ct_A_act (hty : tys.map (·.2) = ma_ty) (g : ca_S) (q : mr_St) (i : Int32) (hok : ca_ok g) : mr_M l my_A_act mc_A_act 2 (some .int) 3 D mn_cl Z mb_B tys ma_sh [va_rf (some (ad 0 0)), .int i] ad (ma_R g q) (some (.int (ca_nmAt g 0 i))) (ma_R g q) := by
  refine mg_M.of (cc := mc_A_act) (maxL := 2) (ret := (some .int)) (by decide) rfl (Nat.le_of_ble_eq_true rfl) (mg_caS rfl (mg_caS rfl mg_ca0)) ?_
  intro p e s m args below meth c K hret hlk hnm hA
  refine mg_aload_n K md_A_act_0 rfl ?_
  refine mr_getS (k2 := 8) (i2 := 0) K mf_A_28 md_A_act_1 Nat.zero_lt_one rfl ?_
  refine mg_iload_n K md_A_act_4 rfl ?_
  refine mr_cS K hA (ct_A_nameAt hty g q (x := 0) i (by decide) hok) ms_A_152 (by decide) md_A_act_5 rfl (by decide) ⟨Nat.le_refl _, Nat.le_refl _⟩ ?_
  exact mg_iret K hret hlk md_A_act_8 (Nat.le_refl _) (Nat.le_refl _) ⟨rfl, rfl, rfl⟩
theorem ct_A_dead (hty : tys.map (·.2) = ma_ty) (g : ca_S) (q : mr_St) (i : Int32) (hok : ca_ok g) : mr_M l my_A_dead mc_A_dead 2 (some .int) 3 D mn_cl Z mb_B tys ma_sh [va_rf (some (ad 0 0)), .int i] ad (ma_R g q) (some (.int (ca_nmAt g 1 i))) (ma_R g q) := by
  refine mg_M.of (cc := mc_A_dead) (maxL := 2) (ret := (some .int)) (by decide) rfl (Nat.le_of_ble_eq_true rfl) (mg_caS rfl (mg_caS rfl mg_ca0)) ?_
  intro p e s m args below meth c K hret hlk hnm hA
  refine mg_aload_n K md_A_dead_0 rfl ?_
  refine mr_getS (k2 := 8) (i2 := 1) K mf_A_32 md_A_dead_1 Nat.zero_lt_one rfl ?_
  refine mg_iload_n K md_A_dead_4 rfl ?_
  refine mr_cS K hA (ct_A_nameAt hty g q (x := 1) i (by decide) hok) ms_A_152 (by decide) md_A_dead_5 rfl (by decide) ⟨Nat.le_refl _, Nat.le_refl _⟩ ?_
  exact mg_iret K hret hlk md_A_dead_8 (Nat.le_refl _) (Nat.le_refl _) ⟨rfl, rfl, rfl⟩
theorem ct_A_of (hty : tys.map (·.2) = ma_ty) (g : ca_S) (q : mr_St) (x w : Int32) (hok : ca_ok g) : mr_M l my_A_of mc_A_of 4 (some .int) 4 D mn_cl Z mb_B tys ma_sh [va_rf (some (ad 0 0)), .int x, .int w] ad (ma_R g q) (some (.int (ca_of g x w))) (ma_R g q) := by
  refine mg_M.of (cc := mc_A_of) (maxL := 4) (ret := (some .int)) (by decide) rfl (Nat.le_of_ble_eq_true rfl) (mg_caS rfl (mg_caS rfl (mg_caS rfl mg_ca0))) ?_
  intro p e s m args below meth c K hret hlk hnm hA
  by_cases hv : cv_s x
  case neg =>
    refine mg_iload_n K md_A_of_0 rfl ?_
    refine mr_cP K hA (ct_A_isSender x) ms_A_156 (by decide) md_A_of_1 rfl (by decide) ⟨Nat.zero_le _, Nat.zero_le _⟩ ?_
    rw [if_neg hv]
    refine mg_if_ne K 9 md_A_of_4 rfl (fun h4 => ?_) (fun h4 => ?_)
    · exact absurd rfl h4
    · refine mg_iconst K (v := -1) md_A_of_7 (by decide) ?_
      exact mg_iret K hret hlk md_A_of_8 (Nat.le_refl _) (Nat.le_refl _) ⟨by unfold ca_of; rw [if_neg hv], rfl, rfl⟩
  obtain ⟨s0, hs, rfl⟩ := cv_s_ex hv
  have htn : (Int32.ofNat s0).toNatClampNeg = s0 := mi_tn (by omega)
  refine mg_iload_n K md_A_of_0 rfl ?_
  refine mr_cP K hA (ct_A_isSender (Int32.ofNat s0)) ms_A_156 (by decide) md_A_of_1 rfl (by decide) ⟨Nat.zero_le _, Nat.zero_le _⟩ ?_
  rw [if_pos hv]
  refine mg_if_ne K 9 md_A_of_4 rfl (fun h4 => ?_) (fun h4 => ?_)
  · refine mg_aload_n K md_A_of_9 rfl ?_
    refine mr_getS K mf_A_11 md_A_of_10 Nat.zero_lt_one rfl ?_
    refine mg_iload_n K md_A_of_13 rfl ?_
    refine mr_aaldS (k2 := 4) (i2 := s0) K rfl (ma_t hty 0) md_A_of_14 Nat.zero_lt_one (mi_vn (by omega) (by omega)) (by rw [mi_tn (by omega)]; exact ma_lst hs g q) ?_
    refine mg_astore_n K md_A_of_15 (by decide) ?_
    refine mg_iload_n K md_A_of_16 rfl ?_
    by_cases hS17_0 : w = 0
    · refine mg_tabIn (off := 31) K 0 48 md_A_of_17 hS17_0 (by decide) (by decide) (by decide) rfl ?_
      refine mg_aload_n K md_A_of_48 rfl ?_
      refine mr_cV K hA (ct_S_leastGap hty g q hs (hok.1 s0)) ms_A_118 (by decide) md_A_of_49 rfl rfl hs rfl (by decide) ⟨Nat.le_refl _, Nat.le_refl _⟩ ?_
      exact mg_iret K hret hlk md_A_of_52 (Nat.le_refl _) (Nat.le_refl _) ⟨by unfold ca_of; rw [if_pos hv, htn, if_pos hS17_0], rfl, rfl⟩
    by_cases hS17_1 : w = 1
    · refine mg_tabIn (off := 36) K 1 53 md_A_of_17 hS17_1 (by decide) (by decide) (by decide) rfl ?_
      refine mg_aload_n K md_A_of_53 rfl ?_
      refine mg_iconst K (v := 0) md_A_of_54 (by decide) ?_
      refine mr_cV K hA (ct_S_withStatus hty g q (b := 0) hs (hok.1 s0)) ms_A_159 (by decide) md_A_of_55 rfl rfl hs rfl (by decide) ⟨Nat.le_refl _, Nat.le_refl _⟩ ?_
      exact mg_iret K hret hlk md_A_of_58 (Nat.le_refl _) (Nat.le_refl _) ⟨by unfold ca_of; rw [if_pos hv, htn, if_neg hS17_0, if_pos hS17_1], rfl, rfl⟩
    by_cases hS17_2 : w = 2
    · refine mg_tabIn (off := 42) K 2 59 md_A_of_17 hS17_2 (by decide) (by decide) (by decide) rfl ?_
      refine mg_aload_n K md_A_of_59 rfl ?_
      refine mg_bipush K (v := 6) md_A_of_60 (by decide) ?_
      refine mr_cV K hA (ct_S_withStatus hty g q (b := 6) hs (hok.1 s0)) ms_A_159 (by decide) md_A_of_62 rfl rfl hs rfl (by decide) ⟨Nat.le_refl _, Nat.le_refl _⟩ ?_
      exact mg_iret K hret hlk md_A_of_65 (Nat.le_refl _) (Nat.le_refl _) ⟨by unfold ca_of; rw [if_pos hv, htn, if_neg hS17_0, if_neg hS17_1, if_pos hS17_2], rfl, rfl⟩
    by_cases hS17_3 : w = 3
    · refine mg_tabIn (off := 49) K 3 66 md_A_of_17 hS17_3 (by decide) (by decide) (by decide) rfl ?_
      refine mg_aload_n K md_A_of_66 rfl ?_
      refine mr_cV K hA (ct_S_greatest hty g q hs (hok.1 s0)) ms_A_163 (by decide) md_A_of_67 rfl rfl hs rfl (by decide) ⟨Nat.le_refl _, Nat.le_refl _⟩ ?_
      exact mg_iret K hret hlk md_A_of_70 (Nat.le_refl _) (Nat.le_refl _) ⟨by unfold ca_of; rw [if_pos hv, htn, if_neg hS17_0, if_neg hS17_1, if_neg hS17_2, if_pos hS17_3], rfl, rfl⟩
    have ehS17_0 : (w).toInt ≠ 0 := fun z => hS17_0 (Int32.toInt_inj.mp z)
    have ehS17_1 : (w).toInt ≠ 1 := fun z => hS17_1 (Int32.toInt_inj.mp z)
    have ehS17_2 : (w).toInt ≠ 2 := fun z => hS17_2 (Int32.toInt_inj.mp z)
    have ehS17_3 : (w).toInt ≠ 3 := fun z => hS17_3 (Int32.toInt_inj.mp z)
    refine mg_tabOut K 71 md_A_of_17 (by omega) rfl ?_
    refine mg_iconst K (v := -1) md_A_of_71 (by decide) ?_
    exact mg_iret K hret hlk md_A_of_72 (Nat.le_refl _) (Nat.le_refl _) ⟨by unfold ca_of; rw [if_pos hv, htn, if_neg hS17_0, if_neg hS17_1, if_neg hS17_2, if_neg hS17_3], rfl, rfl⟩
  · exact absurd h4 (by decide)
theorem ct_A_count (hty : tys.map (·.2) = ma_ty) (g : ca_S) (q : mr_St) (w : Int32) : mr_M l my_A_count mc_A_count 2 (some .int) 1 D mn_cl Z mb_B tys ma_sh [va_rf (some (ad 0 0)), .int w] ad (ma_R g q) (some (.int (ca_count g w))) (ma_R g q) := by
  refine mg_M.of (cc := mc_A_count) (maxL := 2) (ret := (some .int)) (by decide) rfl (Nat.le_of_ble_eq_true rfl) (mg_caS rfl (mg_caS rfl mg_ca0)) ?_
  intro p e s m args below meth c K hret hlk hnm hA
  refine mg_iload_n K md_A_count_0 rfl ?_
  by_cases hS1_0 : w = 0
  · refine mg_tabIn (off := 39) K 0 40 md_A_count_1 hS1_0 (by decide) (by decide) (by decide) rfl ?_
    refine mg_aload_n K md_A_count_40 rfl ?_
    refine mr_getS (k2 := 8) (i2 := 0) K mf_A_28 md_A_count_41 Nat.zero_lt_one rfl ?_
    refine mr_getI (v := Int32.ofNat (ca_ln g 0).length) K mf_A_109 md_A_count_44 (by decide) (by decide : 0 < 4) rfl ?_
    exact mg_iret K hret hlk md_A_count_47 (Nat.le_refl _) (Nat.le_refl _) ⟨by unfold ca_count; rw [if_pos hS1_0], rfl, rfl⟩
  by_cases hS1_1 : w = 1
  · refine mg_tabIn (off := 47) K 1 48 md_A_count_1 hS1_1 (by decide) (by decide) (by decide) rfl ?_
    refine mg_aload_n K md_A_count_48 rfl ?_
    refine mr_getS (k2 := 8) (i2 := 1) K mf_A_32 md_A_count_49 Nat.zero_lt_one rfl ?_
    refine mr_getI (v := Int32.ofNat (ca_ln g 1).length) K mf_A_109 md_A_count_52 (by decide) (by decide : 1 < 4) rfl ?_
    exact mg_iret K hret hlk md_A_count_55 (Nat.le_refl _) (Nat.le_refl _) ⟨by unfold ca_count; rw [if_neg hS1_0, if_pos hS1_1], rfl, rfl⟩
  by_cases hS1_2 : w = 2
  · refine mg_tabIn (off := 55) K 2 56 md_A_count_1 hS1_2 (by decide) (by decide) (by decide) rfl ?_
    refine mg_aload_n K md_A_count_56 rfl ?_
    refine mr_getI (v := ca_iv g 0 0 7) K mf_A_41 md_A_count_57 (by decide) Nat.zero_lt_one rfl ?_
    exact mg_iret K hret hlk md_A_count_60 (Nat.le_refl _) (Nat.le_refl _) ⟨by unfold ca_count; rw [if_neg hS1_0, if_neg hS1_1, if_pos hS1_2], rfl, rfl⟩
  by_cases hS1_3 : w = 3
  · refine mg_tabIn (off := 60) K 3 61 md_A_count_1 hS1_3 (by decide) (by decide) (by decide) rfl ?_
    refine mg_aload_n K md_A_count_61 rfl ?_
    refine mr_getI (v := ca_iv g 0 0 8) K mf_A_45 md_A_count_62 (by decide) Nat.zero_lt_one rfl ?_
    exact mg_iret K hret hlk md_A_count_65 (Nat.le_refl _) (Nat.le_refl _) ⟨by unfold ca_count; rw [if_neg hS1_0, if_neg hS1_1, if_neg hS1_2, if_pos hS1_3], rfl, rfl⟩
  by_cases hS1_4 : w = 4
  · refine mg_tabIn (off := 65) K 4 66 md_A_count_1 hS1_4 (by decide) (by decide) (by decide) rfl ?_
    refine mg_aload_n K md_A_count_66 rfl ?_
    refine mr_getS (k2 := 8) (i2 := 2) K mf_A_35 md_A_count_67 Nat.zero_lt_one rfl ?_
    refine mr_getI (v := Int32.ofNat (ca_ln g 2).length) K mf_A_109 md_A_count_70 (by decide) (by decide : 2 < 4) rfl ?_
    exact mg_iret K hret hlk md_A_count_73 (Nat.le_refl _) (Nat.le_refl _) ⟨by unfold ca_count; rw [if_neg hS1_0, if_neg hS1_1, if_neg hS1_2, if_neg hS1_3, if_pos hS1_4], rfl, rfl⟩
  by_cases hS1_5 : w = 5
  · refine mg_tabIn (off := 73) K 5 74 md_A_count_1 hS1_5 (by decide) (by decide) (by decide) rfl ?_
    refine mg_aload_n K md_A_count_74 rfl ?_
    refine mr_getS (k2 := 8) (i2 := 3) K mf_A_38 md_A_count_75 Nat.zero_lt_one rfl ?_
    refine mr_getI (v := Int32.ofNat (ca_ln g 3).length) K mf_A_109 md_A_count_78 (by decide) (by decide : 3 < 4) rfl ?_
    exact mg_iret K hret hlk md_A_count_81 (Nat.le_refl _) (Nat.le_refl _) ⟨by unfold ca_count; rw [if_neg hS1_0, if_neg hS1_1, if_neg hS1_2, if_neg hS1_3, if_neg hS1_4, if_pos hS1_5], rfl, rfl⟩
  have ehS1_0 : (w).toInt ≠ 0 := fun z => hS1_0 (Int32.toInt_inj.mp z)
  have ehS1_1 : (w).toInt ≠ 1 := fun z => hS1_1 (Int32.toInt_inj.mp z)
  have ehS1_2 : (w).toInt ≠ 2 := fun z => hS1_2 (Int32.toInt_inj.mp z)
  have ehS1_3 : (w).toInt ≠ 3 := fun z => hS1_3 (Int32.toInt_inj.mp z)
  have ehS1_4 : (w).toInt ≠ 4 := fun z => hS1_4 (Int32.toInt_inj.mp z)
  have ehS1_5 : (w).toInt ≠ 5 := fun z => hS1_5 (Int32.toInt_inj.mp z)
  refine mg_tabOut K 82 md_A_count_1 (by omega) rfl ?_
  refine mg_iconst K (v := -1) md_A_count_82 (by decide) ?_
  exact mg_iret K hret hlk md_A_count_83 (Nat.le_refl _) (Nat.le_refl _) ⟨by unfold ca_count; rw [if_neg hS1_0, if_neg hS1_1, if_neg hS1_2, if_neg hS1_3, if_neg hS1_4, if_neg hS1_5], rfl, rfl⟩
end CP1
