/-! the reference: its public methods without turns -/
theorem mi_div : ∀ m : Fin 96, Int32.ofNat m.val / 24 = Int32.ofNat (m.val / 24) := by decide +kernel
theorem mi_rem : ∀ m : Fin 96, Int32.ofNat m.val - Int32.ofNat m.val / 24 * 24 = Int32.ofNat (m.val % 24) := by decide +kernel
theorem mi_in {x : Int32} {n : Nat} (hn : n < 2147483647) (h : ¬ x < 0 ∧ ¬ Int32.ofNat n < x) : ∃ u : Nat, u ≤ n ∧ x = Int32.ofNat u := by
  obtain ⟨u, hu, rfl⟩ := mi_ex h.1
  exact ⟨u, by have := mt (mi_lt (a := n) (b := u) (by omega) hu).mpr h.2; omega, rfl⟩
theorem rb_many_cg {h h' : rb_S} {w : Int32} (hh : ∀ m, h' 24 m = h 24 m ∧ h' 29 m = h 29 m) : rb_many h' w = rb_many h w := by
  have key : ∀ f m a, rb_manyF h' w m f a = rb_manyF h w m f a := by
    intro f
    induction f with
    | zero => intros; rfl
    | succ f ih =>
      intro m a
      show rb_manyF h' w (m + 1) f (if ¬ h' 24 m = 0 ∧ h' 29 m = w then a + 1 else a) = rb_manyF h w (m + 1) f (if ¬ h 24 m = 0 ∧ h 29 m = w then a + 1 else a)
      rw [(hh m).1, (hh m).2]
      exact ih _ _
  exact key _ _ _
def rb_stat (h : rb_S) (k m : Nat) (d : Int32) : Int32 := if h 24 m = 0 then d else h k m
abbrev rb_ptP (h : rb_S) (u : Int32) : Prop := (¬ u < 0 ∧ ¬ 15 < u) ∧ h 21 u.toNatClampNeg = 1
abbrev rb_flP (h : rb_S) (f b : Int32) : Prop := (¬ f < 0 ∧ ¬ 4 < f) ∧ ¬ h 35 f.toNatClampNeg = b
def rb_pt (h : rb_S) (u : Int32) : rb_S := if rb_ptP h u then mg_u (mg_u h 20 0 0) 21 u.toNatClampNeg 2 else mg_u h 20 0 0
def rb_fl (h : rb_S) (f b : Int32) : rb_S := if rb_flP h f b then mg_u (mg_u h 20 0 0) 35 f.toNatClampNeg b else mg_u h 20 0 0
def rb_cutF : Nat → Nat → rb_S → Nat → rb_S × Nat
  | _, 0, h, a => (h, a)
  | m, f + 1, h, a => if ¬ h 24 m = 0 ∧ h 29 m = 0 then rb_cutF (m + 1) f (mg_u h 29 m 6) (a + 1) else rb_cutF (m + 1) f h a
def rb_lkF (h : rb_S) (u : Int32) : Nat → Nat → Nat → Nat
  | _, 0, a => a
  | m, f + 1, a => rb_lkF h u (m + 1) f (if ¬ h 24 m = 0 ∧ h 29 m = 3 ∧ h 27 m = u then a + 1 else a)
def rb_look (h : rb_S) (u : Nat) (w : Int32) : Int32 := if w = 0 then h 21 u else if w = 1 then h 22 u else if w = 2 then h 23 u else Int32.ofNat (rb_lkF h (Int32.ofNat u) 0 96 0)
def rb_ofF (h : rb_S) (s : Nat) : Nat → Nat → Nat × Nat × Nat → Nat × Nat × Nat
  | _, 0, x => x
  | n, f + 1, x => rb_ofF h s (n + 1) f (if ¬ h 24 (24 * s + n - 1) = 0 ∧ h 29 (24 * s + n - 1) = 0 then x.1 + 1 else x.1, if ¬ h 24 (24 * s + n - 1) = 0 ∧ h 29 (24 * s + n - 1) = 6 then x.2.1 + 1 else x.2.1, if rb_here h (24 * s + n - 1) then n else x.2.2)
def rb_of (h : rb_S) (s : Nat) (w : Int32) : Int32 := if w = 0 then Int32.ofNat (rb_gap h s) else if w = 1 then Int32.ofNat (rb_ofF h s 1 24 (0, 0, 0)).1 else if w = 2 then Int32.ofNat (rb_ofF h s 1 24 (0, 0, 0)).2.1 else Int32.ofNat (rb_ofF h s 1 24 (0, 0, 0)).2.2
theorem rb_gap_cg {h h' : rb_S} {s : Nat} (hh : ∀ m, h' 24 m = h 24 m ∧ h' 29 m = h 29 m ∧ h' 25 m = h 25 m) : rb_gap h' s = rb_gap h s := by
  have key : ∀ f n, rb_gapF h' s n f = rb_gapF h s n f := by
    intro f
    induction f with
    | zero => intros; rfl
    | succ f ih =>
      intro n
      show (if rb_here h' (24 * s + n - 1) = true ∨ ¬ h' 25 (24 * s + n - 1) = 0 then rb_gapF h' s (n + 1) f else n) = if rb_here h (24 * s + n - 1) = true ∨ ¬ h 25 (24 * s + n - 1) = 0 then rb_gapF h s (n + 1) f else n
      have e : rb_here h' (24 * s + n - 1) = rb_here h (24 * s + n - 1) := by unfold rb_here; rw [(hh _).1, (hh _).2.1]
      rw [e, (hh _).2.2, ih]
  exact key _ _
def rb_name (m : Nat) : Int32 := 1000 * Int32.ofNat (m / 24) + Int32.ofNat (m % 24) + 1
def rb_at (h : rb_S) (k na : Nat) (i : Int32) : Int32 := if i < 0 then -1 else if Int32.ofNat na ≤ i then -1 else rb_name (h k i.toNatClampNeg).toNatClampNeg
def rb_count (h : rb_S) (w : Int32) : Int32 := if w = 0 then h 20 18 else if w = 1 then h 20 20 else if w = 2 then h 20 1 else if w = 3 then h 20 22 else if w = 4 then Int32.ofNat (rb_many h 3) else if w = 5 then Int32.ofNat (rb_many h 4) else -1
section RB3
variable {l : Launch} {D : va_G} {Z : Nat × Cell} {tys : List (ClassId × FieldType)} {ad : mg_Ad}
theorem ct_B_isMessage (hty : tys.map (·.2) = ma_ty) (g : ca_S) (h : rb_S) (o : Int64) (x y : Int32) : mr_M l my_B_isMessage mc_B_isMessage 3 (some .boolean) 2 D mn_cl Z mb_B tys ma_sh [va_rf (some (ad 20 0)), .int x, .int y] ad (ma_R g (rb_R h o)) (some (.int (if (¬ x < 0 ∧ ¬ 4 ≤ x) ∧ (¬ y < 1 ∧ ¬ 24 < y) then 1 else 0))) (ma_R g (rb_R (mg_u h 20 0 (if (¬ x < 0 ∧ ¬ 4 ≤ x) ∧ (¬ y < 1 ∧ ¬ 24 < y) then 0 else 1)) o)) := by
  by_cases hx : ¬ x < 0 ∧ ¬ 4 ≤ x
  · by_cases hy : ¬ y < 1 ∧ ¬ 24 < y
    · rw [if_pos ⟨hx, hy⟩, if_pos ⟨hx, hy⟩]
      refine mg_M.of (cc := mc_B_isMessage) (maxL := 3) (ret := (some .boolean)) (by decide) rfl (Nat.le_of_ble_eq_true rfl) (mg_caS rfl (mg_caS rfl (mg_caS rfl mg_ca0))) ?_
      intro p e s m args below meth c K hret hlk hnm hA
      refine mg_aload_n K md_B_isMessage_0 rfl ?_
      refine mg_iload_n K md_B_isMessage_1 rfl ?_
      refine mr_cP K hA (ct_B_isSender x) ms_B_118 (by decide) md_B_isMessage_2 rfl (Nat.le_of_ble_eq_true rfl) ⟨Nat.zero_le _, Nat.zero_le _⟩ ?_
      rw [if_pos hx]
      refine mg_if_eq K 19 md_B_isMessage_5 rfl (fun h5 => ?_) (fun h5 => ?_)
      · exact absurd h5 (by decide)
      · refine mg_iload_n K md_B_isMessage_8 rfl ?_
        refine mr_cP K hA (ct_B_isNumber y) ms_B_121 (by decide) md_B_isMessage_9 rfl (Nat.le_of_ble_eq_true rfl) ⟨Nat.zero_le _, Nat.zero_le _⟩ ?_
        rw [if_pos hy]
        refine mg_if_eq K 19 md_B_isMessage_12 rfl (fun h12 => ?_) (fun h12 => ?_)
        · exact absurd h12 (by decide)
        · refine mg_iconst K (v := 0) md_B_isMessage_15 (by decide) ?_
          refine mg_goto K 20 md_B_isMessage_16 rfl ?_
          refine mr_putI K mf_B_62 md_B_isMessage_20 Nat.zero_lt_one ?_
          refine mr_eqr (rb_sI _ _ _ _ _ _ (by decide)) ?_
          refine mg_aload_n K md_B_isMessage_23 rfl ?_
          refine mr_getI (v := 0) K mf_B_62 md_B_isMessage_24 (by decide) Nat.zero_lt_one rfl ?_
          refine mg_if_ne K 34 md_B_isMessage_27 rfl (fun h27 => ?_) (fun h27 => ?_)
          · exact absurd rfl h27
          · refine mg_iconst K (v := 1) md_B_isMessage_30 (by decide) ?_
            refine mg_goto K 35 md_B_isMessage_31 rfl ?_
            exact mg_zret K hret hlk md_B_isMessage_35 (by decide) (Nat.le_refl _) (Nat.le_refl _) ⟨rfl, rfl, rfl⟩
    · rw [if_neg (fun z => hy z.2), if_neg (fun z => hy z.2)]
      refine mg_M.of (cc := mc_B_isMessage) (maxL := 3) (ret := (some .boolean)) (by decide) rfl (Nat.le_of_ble_eq_true rfl) (mg_caS rfl (mg_caS rfl (mg_caS rfl mg_ca0))) ?_
      intro p e s m args below meth c K hret hlk hnm hA
      refine mg_aload_n K md_B_isMessage_0 rfl ?_
      refine mg_iload_n K md_B_isMessage_1 rfl ?_
      refine mr_cP K hA (ct_B_isSender x) ms_B_118 (by decide) md_B_isMessage_2 rfl (Nat.le_of_ble_eq_true rfl) ⟨Nat.zero_le _, Nat.zero_le _⟩ ?_
      rw [if_pos hx]
      refine mg_if_eq K 19 md_B_isMessage_5 rfl (fun h5 => ?_) (fun h5 => ?_)
      · exact absurd h5 (by decide)
      · refine mg_iload_n K md_B_isMessage_8 rfl ?_
        refine mr_cP K hA (ct_B_isNumber y) ms_B_121 (by decide) md_B_isMessage_9 rfl (Nat.le_of_ble_eq_true rfl) ⟨Nat.zero_le _, Nat.zero_le _⟩ ?_
        rw [if_neg hy]
        refine mg_if_eq K 19 md_B_isMessage_12 rfl (fun h12 => ?_) (fun h12 => ?_)
        · refine mg_iconst K (v := 1) md_B_isMessage_19 (by decide) ?_
          refine mr_putI K mf_B_62 md_B_isMessage_20 Nat.zero_lt_one ?_
          refine mr_eqr (rb_sI _ _ _ _ _ _ (by decide)) ?_
          refine mg_aload_n K md_B_isMessage_23 rfl ?_
          refine mr_getI (v := 1) K mf_B_62 md_B_isMessage_24 (by decide) Nat.zero_lt_one rfl ?_
          refine mg_if_ne K 34 md_B_isMessage_27 rfl (fun h27 => ?_) (fun h27 => ?_)
          · refine mg_iconst K (v := 0) md_B_isMessage_34 (by decide) ?_
            exact mg_zret K hret hlk md_B_isMessage_35 (by decide) (Nat.le_refl _) (Nat.le_refl _) ⟨rfl, rfl, rfl⟩
          · exact absurd h27 (by decide)
        · exact absurd rfl h12
  · rw [if_neg (fun z => hx z.1), if_neg (fun z => hx z.1)]
    refine mg_M.of (cc := mc_B_isMessage) (maxL := 3) (ret := (some .boolean)) (by decide) rfl (Nat.le_of_ble_eq_true rfl) (mg_caS rfl (mg_caS rfl (mg_caS rfl mg_ca0))) ?_
    intro p e s m args below meth c K hret hlk hnm hA
    refine mg_aload_n K md_B_isMessage_0 rfl ?_
    refine mg_iload_n K md_B_isMessage_1 rfl ?_
    refine mr_cP K hA (ct_B_isSender x) ms_B_118 (by decide) md_B_isMessage_2 rfl (Nat.le_of_ble_eq_true rfl) ⟨Nat.zero_le _, Nat.zero_le _⟩ ?_
    rw [if_neg hx]
    refine mg_if_eq K 19 md_B_isMessage_5 rfl (fun h5 => ?_) (fun h5 => ?_)
    · refine mg_iconst K (v := 1) md_B_isMessage_19 (by decide) ?_
      refine mr_putI K mf_B_62 md_B_isMessage_20 Nat.zero_lt_one ?_
      refine mr_eqr (rb_sI _ _ _ _ _ _ (by decide)) ?_
      refine mg_aload_n K md_B_isMessage_23 rfl ?_
      refine mr_getI (v := 1) K mf_B_62 md_B_isMessage_24 (by decide) Nat.zero_lt_one rfl ?_
      refine mg_if_ne K 34 md_B_isMessage_27 rfl (fun h27 => ?_) (fun h27 => ?_)
      · refine mg_iconst K (v := 0) md_B_isMessage_34 (by decide) ?_
        exact mg_zret K hret hlk md_B_isMessage_35 (by decide) (Nat.le_refl _) (Nat.le_refl _) ⟨rfl, rfl, rfl⟩
      · exact absurd h27 (by decide)
    · exact absurd rfl h5
theorem mi_sn {s0 n : Nat} (hs : s0 < 4) (h1 : 1 ≤ n) (h24 : n ≤ 24) : (¬ Int32.ofNat s0 < 0 ∧ ¬ 4 ≤ Int32.ofNat s0) ∧ (¬ Int32.ofNat n < 1 ∧ ¬ 24 < Int32.ofNat n) := ⟨mi_vs hs, mi_vN h1 h24⟩
theorem ct_B_status (hty : tys.map (·.2) = ma_ty) (g : ca_S) (h : rb_S) (o : Int64) {s0 n : Nat} (hs : s0 < 4) (h1 : 1 ≤ n) (h24 : n ≤ 24) : mr_M l my_B_status mc_B_status 4 (some .int) 3 D mn_cl Z mb_B tys ma_sh [va_rf (some (ad 20 0)), .int (Int32.ofNat s0), .int (Int32.ofNat n)] ad (ma_R g (rb_R h o)) (some (.int (rb_stat h 29 (24 * s0 + n - 1) (-1)))) (ma_R g (rb_R (mg_u h 20 0 0) o)) := by
  refine mg_M.of (cc := mc_B_status) (maxL := 4) (ret := (some .int)) (by decide) rfl (Nat.le_of_ble_eq_true rfl) (mg_caS rfl (mg_caS rfl (mg_caS rfl mg_ca0))) ?_
  intro p e s m args below meth c K hret hlk hnm hA
  refine mg_aload_n K md_B_status_0 rfl ?_
  refine mg_iload_n K md_B_status_1 rfl ?_
  refine mg_iload_n K md_B_status_2 rfl ?_
  refine mr_cV K hA (ct_B_isMessage hty g h o (Int32.ofNat s0) (Int32.ofNat n)) ms_B_133 (by decide) md_B_status_3 rfl rfl Nat.zero_lt_one rfl (Nat.le_of_ble_eq_true rfl) ⟨Nat.zero_le _, Nat.zero_le _⟩ ?_
  rw [if_pos (mi_sn hs h1 h24), if_pos (mi_sn hs h1 h24)]
  refine mg_if_ne K 11 md_B_status_6 rfl (fun h6 => ?_) (fun h6 => ?_)
  · refine mg_bipush K (v := 24) md_B_status_11 (by decide) ?_
    refine mg_iload_n K md_B_status_13 rfl ?_
    refine mg_imul K md_B_status_14 ?_
    refine mg_iload_n K md_B_status_15 rfl ?_
    refine mg_iadd K md_B_status_16 ?_
    refine mg_iconst K (v := 1) md_B_status_17 (by decide) ?_
    refine mg_isub K md_B_status_18 ?_
    rw [mi_ix h1]
    refine mg_istore_n K md_B_status_19 (by decide) ?_
    refine mg_aload_n K md_B_status_20 rfl ?_
    refine mr_getS (k2 := 24) (i2 := 0) K mf_B_19 md_B_status_21 Nat.zero_lt_one rfl ?_
    refine mg_iload_n K md_B_status_24 rfl ?_
    refine mr_zald (v := h 24 (24 * s0 + n - 1)) K rfl (ma_t hty 2) md_B_status_25 Nat.zero_lt_one (mi_vn (by omega) (by omega)) (by rw [mi_tn (by omega)]; rfl) ?_
    refine mg_if_eq K 38 md_B_status_26 rfl (fun h26 => ?_) (fun h26 => ?_)
    · refine mg_iconst K (v := -1) md_B_status_38 (by decide) ?_
      exact mg_iret K hret hlk md_B_status_39 (Nat.le_refl _) (Nat.le_refl _) ⟨by unfold rb_stat; rw [if_pos h26], rfl, rfl⟩
    · refine mg_aload_n K md_B_status_29 rfl ?_
      refine mr_getS (k2 := 29) (i2 := 0) K mf_B_35 md_B_status_30 Nat.zero_lt_one rfl ?_
      refine mg_iload_n K md_B_status_33 rfl ?_
      refine mr_iald (v := h 29 (24 * s0 + n - 1)) K rfl (ma_t hty 4) md_B_status_34 Nat.zero_lt_one (mi_vn (by omega) (by omega)) (by rw [mi_tn (by omega)]; rfl) ?_
      refine mg_goto K 39 md_B_status_35 rfl ?_
      exact mg_iret K hret hlk md_B_status_39 (Nat.le_refl _) (Nat.le_refl _) ⟨by unfold rb_stat; rw [if_neg h26], rfl, rfl⟩
  · exact absurd h6 (by decide)
theorem cx_B_status (hty : tys.map (·.2) = ma_ty) (g : ca_S) (h : rb_S) (o : Int64) (x y : Int32) (hn : ¬ ((¬ x < 0 ∧ ¬ 4 ≤ x) ∧ (¬ y < 1 ∧ ¬ 24 < y))) : mr_M l my_B_status mc_B_status 4 (some .int) 3 D mn_cl Z mb_B tys ma_sh [va_rf (some (ad 20 0)), .int x, .int y] ad (ma_R g (rb_R h o)) (some (.int 0)) (ma_R g (rb_R (mg_u h 20 0 1) o)) := by
  refine mg_M.of (cc := mc_B_status) (maxL := 4) (ret := (some .int)) (by decide) rfl (Nat.le_of_ble_eq_true rfl) (mg_caS rfl (mg_caS rfl (mg_caS rfl mg_ca0))) ?_
  intro p e s m args below meth c K hret hlk hnm hA
  refine mg_aload_n K md_B_status_0 rfl ?_
  refine mg_iload_n K md_B_status_1 rfl ?_
  refine mg_iload_n K md_B_status_2 rfl ?_
  refine mr_cV K hA (ct_B_isMessage hty g h o x y) ms_B_133 (by decide) md_B_status_3 rfl rfl Nat.zero_lt_one rfl (Nat.le_of_ble_eq_true rfl) ⟨Nat.zero_le _, Nat.zero_le _⟩ ?_
  rw [if_neg hn, if_neg hn]
  refine mg_if_ne K 11 md_B_status_6 rfl (fun h6 => ?_) (fun h6 => ?_)
  · exact absurd rfl h6
  · refine mg_iconst K (v := 0) md_B_status_9 (by decide) ?_
    exact mg_iret K hret hlk md_B_status_10 (Nat.le_refl _) (Nat.le_refl _) ⟨rfl, rfl, rfl⟩
theorem ct_B_answer (hty : tys.map (·.2) = ma_ty) (g : ca_S) (h : rb_S) (o : Int64) {s0 n : Nat} (hs : s0 < 4) (h1 : 1 ≤ n) (h24 : n ≤ 24) : mr_M l my_B_answer mc_B_answer 4 (some .int) 3 D mn_cl Z mb_B tys ma_sh [va_rf (some (ad 20 0)), .int (Int32.ofNat s0), .int (Int32.ofNat n)] ad (ma_R g (rb_R h o)) (some (.int (rb_stat h 30 (24 * s0 + n - 1) (0)))) (ma_R g (rb_R (mg_u h 20 0 0) o)) := by
  refine mg_M.of (cc := mc_B_answer) (maxL := 4) (ret := (some .int)) (by decide) rfl (Nat.le_of_ble_eq_true rfl) (mg_caS rfl (mg_caS rfl (mg_caS rfl mg_ca0))) ?_
  intro p e s m args below meth c K hret hlk hnm hA
  refine mg_aload_n K md_B_answer_0 rfl ?_
  refine mg_iload_n K md_B_answer_1 rfl ?_
  refine mg_iload_n K md_B_answer_2 rfl ?_
  refine mr_cV K hA (ct_B_isMessage hty g h o (Int32.ofNat s0) (Int32.ofNat n)) ms_B_133 (by decide) md_B_answer_3 rfl rfl Nat.zero_lt_one rfl (Nat.le_of_ble_eq_true rfl) ⟨Nat.zero_le _, Nat.zero_le _⟩ ?_
  rw [if_pos (mi_sn hs h1 h24), if_pos (mi_sn hs h1 h24)]
  refine mg_if_ne K 11 md_B_answer_6 rfl (fun h6 => ?_) (fun h6 => ?_)
  · refine mg_bipush K (v := 24) md_B_answer_11 (by decide) ?_
    refine mg_iload_n K md_B_answer_13 rfl ?_
    refine mg_imul K md_B_answer_14 ?_
    refine mg_iload_n K md_B_answer_15 rfl ?_
    refine mg_iadd K md_B_answer_16 ?_
    refine mg_iconst K (v := 1) md_B_answer_17 (by decide) ?_
    refine mg_isub K md_B_answer_18 ?_
    rw [mi_ix h1]
    refine mg_istore_n K md_B_answer_19 (by decide) ?_
    refine mg_aload_n K md_B_answer_20 rfl ?_
    refine mr_getS (k2 := 24) (i2 := 0) K mf_B_19 md_B_answer_21 Nat.zero_lt_one rfl ?_
    refine mg_iload_n K md_B_answer_24 rfl ?_
    refine mr_zald (v := h 24 (24 * s0 + n - 1)) K rfl (ma_t hty 2) md_B_answer_25 Nat.zero_lt_one (mi_vn (by omega) (by omega)) (by rw [mi_tn (by omega)]; rfl) ?_
    refine mg_if_eq K 38 md_B_answer_26 rfl (fun h26 => ?_) (fun h26 => ?_)
    · refine mg_iconst K (v := 0) md_B_answer_38 (by decide) ?_
      exact mg_iret K hret hlk md_B_answer_39 (Nat.le_refl _) (Nat.le_refl _) ⟨by unfold rb_stat; rw [if_pos h26], rfl, rfl⟩
    · refine mg_aload_n K md_B_answer_29 rfl ?_
      refine mr_getS (k2 := 30) (i2 := 0) K mf_B_38 md_B_answer_30 Nat.zero_lt_one rfl ?_
      refine mg_iload_n K md_B_answer_33 rfl ?_
      refine mr_iald (v := h 30 (24 * s0 + n - 1)) K rfl (ma_t hty 4) md_B_answer_34 Nat.zero_lt_one (mi_vn (by omega) (by omega)) (by rw [mi_tn (by omega)]; rfl) ?_
      refine mg_goto K 39 md_B_answer_35 rfl ?_
      exact mg_iret K hret hlk md_B_answer_39 (Nat.le_refl _) (Nat.le_refl _) ⟨by unfold rb_stat; rw [if_neg h26], rfl, rfl⟩
  · exact absurd h6 (by decide)
theorem cx_B_answer (hty : tys.map (·.2) = ma_ty) (g : ca_S) (h : rb_S) (o : Int64) (x y : Int32) (hn : ¬ ((¬ x < 0 ∧ ¬ 4 ≤ x) ∧ (¬ y < 1 ∧ ¬ 24 < y))) : mr_M l my_B_answer mc_B_answer 4 (some .int) 3 D mn_cl Z mb_B tys ma_sh [va_rf (some (ad 20 0)), .int x, .int y] ad (ma_R g (rb_R h o)) (some (.int 0)) (ma_R g (rb_R (mg_u h 20 0 1) o)) := by
  refine mg_M.of (cc := mc_B_answer) (maxL := 4) (ret := (some .int)) (by decide) rfl (Nat.le_of_ble_eq_true rfl) (mg_caS rfl (mg_caS rfl (mg_caS rfl mg_ca0))) ?_
  intro p e s m args below meth c K hret hlk hnm hA
  refine mg_aload_n K md_B_answer_0 rfl ?_
  refine mg_iload_n K md_B_answer_1 rfl ?_
  refine mg_iload_n K md_B_answer_2 rfl ?_
  refine mr_cV K hA (ct_B_isMessage hty g h o x y) ms_B_133 (by decide) md_B_answer_3 rfl rfl Nat.zero_lt_one rfl (Nat.le_of_ble_eq_true rfl) ⟨Nat.zero_le _, Nat.zero_le _⟩ ?_
  rw [if_neg hn, if_neg hn]
  refine mg_if_ne K 11 md_B_answer_6 rfl (fun h6 => ?_) (fun h6 => ?_)
  · exact absurd rfl h6
  · refine mg_iconst K (v := 0) md_B_answer_9 (by decide) ?_
    exact mg_iret K hret hlk md_B_answer_10 (Nat.le_refl _) (Nat.le_refl _) ⟨rfl, rfl, rfl⟩
theorem ct_B_point (hty : tys.map (·.2) = ma_ty) (g : ca_S) (h : rb_S) (o : Int64) (x : Int32) : mr_M l my_B_point mc_B_point 2 (some .boolean) 2 D mn_cl Z mb_B tys ma_sh [va_rf (some (ad 20 0)), .int x] ad (ma_R g (rb_R h o)) (some (.int (if rb_ptP h x then 1 else 0))) (ma_R g (rb_R (rb_pt h x) o)) := by
  refine mg_M.of (cc := mc_B_point) (maxL := 2) (ret := (some .boolean)) (by decide) rfl (Nat.le_of_ble_eq_true rfl) (mg_caS rfl (mg_caS rfl mg_ca0)) ?_
  intro p e s m args below meth c K hret hlk hnm hA
  by_cases hv : ¬ x < 0 ∧ ¬ 15 < x
  case neg =>
    have hnp : ¬ rb_ptP h x := fun z => hv z.1
    have hst : rb_pt h x = mg_u h 20 0 0 := if_neg hnp
    rw [if_neg hnp, hst]
    refine mg_aload_n K md_B_point_0 rfl ?_
    refine mg_iconst K (v := 0) md_B_point_1 (by decide) ?_
    refine mr_putI K mf_B_62 md_B_point_2 Nat.zero_lt_one ?_
    refine mr_eqr (rb_sI _ _ _ _ _ _ (by decide)) ?_
    refine mg_iload_n K md_B_point_5 rfl ?_
    refine mg_iconst K (v := 0) md_B_point_6 (by decide) ?_
    refine mg_bipush K (v := 15) md_B_point_7 (by decide) ?_
    refine mr_cP K hA (ct_B_in x 0 15) ms_B_76 (by decide) md_B_point_9 rfl (Nat.le_of_ble_eq_true rfl) ⟨Nat.zero_le _, Nat.zero_le _⟩ ?_
    rw [if_neg hv]
    refine mg_if_eq K 25 md_B_point_12 rfl (fun h12 => ?_) (fun h12 => ?_)
    · refine mg_iconst K (v := 0) md_B_point_25 (by decide) ?_
      exact mg_zret K hret hlk md_B_point_26 (by decide) (Nat.le_refl _) (Nat.le_refl _) ⟨rfl, rfl, rfl⟩
    · exact absurd rfl h12
  obtain ⟨u, hu, rfl⟩ := mi_in (n := 15) (by decide) hv
  refine mg_aload_n K md_B_point_0 rfl ?_
  refine mg_iconst K (v := 0) md_B_point_1 (by decide) ?_
  refine mr_putI K mf_B_62 md_B_point_2 Nat.zero_lt_one ?_
  refine mr_eqr (rb_sI _ _ _ _ _ _ (by decide)) ?_
  refine mg_iload_n K md_B_point_5 rfl ?_
  refine mg_iconst K (v := 0) md_B_point_6 (by decide) ?_
  refine mg_bipush K (v := 15) md_B_point_7 (by decide) ?_
  refine mr_cP K hA (ct_B_in (Int32.ofNat u) 0 15) ms_B_76 (by decide) md_B_point_9 rfl (Nat.le_of_ble_eq_true rfl) ⟨Nat.zero_le _, Nat.zero_le _⟩ ?_
  rw [if_pos hv]
  refine mg_if_eq K 25 md_B_point_12 rfl (fun h12 => ?_) (fun h12 => ?_)
  · exact absurd h12 (by decide)
  · refine mg_aload_n K md_B_point_15 rfl ?_
    refine mr_getS (k2 := 21) (i2 := 0) K mf_B_7 md_B_point_16 Nat.zero_lt_one rfl ?_
    refine mg_iload_n K md_B_point_19 rfl ?_
    refine mr_iald (v := h 21 u) K rfl (ma_t hty 4) md_B_point_20 Nat.zero_lt_one (mi_vn (by omega) (by omega)) (by rw [mi_tn (by omega)]; rfl) ?_
    refine mg_iconst K (v := 1) md_B_point_21 (by decide) ?_
    refine mg_icmp_eq K 27 md_B_point_22 rfl (fun h22 => ?_) (fun h22 => ?_)
    · have hp : rb_ptP h (Int32.ofNat u) := ⟨hv, by rw [mi_tn (by omega)]; exact h22⟩
      have hst : rb_pt h (Int32.ofNat u) = mg_u (mg_u h 20 0 0) 21 u 2 := by unfold rb_pt; rw [if_pos hp, mi_tn (by omega)]
      rw [if_pos hp, hst]
      refine mg_aload_n K md_B_point_27 rfl ?_
      refine mr_getS (k2 := 21) (i2 := 0) K mf_B_7 md_B_point_28 Nat.zero_lt_one rfl ?_
      refine mg_iload_n K md_B_point_31 rfl ?_
      refine mg_iconst K (v := 2) md_B_point_32 (by decide) ?_
      refine mr_iast K rfl (ma_t hty 4) md_B_point_33 Nat.zero_lt_one (mi_vn (by omega) (by omega)) ?_
      rw [mi_tn (by omega)]
      refine mr_eqr (rb_sI _ _ _ _ _ _ (by decide)) ?_
      refine mg_iconst K (v := 1) md_B_point_34 (by decide) ?_
      exact mg_zret K hret hlk md_B_point_35 (by decide) (Nat.le_refl _) (Nat.le_refl _) ⟨rfl, rfl, rfl⟩
    · have hp : ¬ rb_ptP h (Int32.ofNat u) := fun z => h22 (by have := z.2; rw [mi_tn (by omega)] at this; exact this)
      have hst : rb_pt h (Int32.ofNat u) = mg_u h 20 0 0 := if_neg hp
      rw [if_neg hp, hst]
      refine mg_iconst K (v := 0) md_B_point_25 (by decide) ?_
      exact mg_zret K hret hlk md_B_point_26 (by decide) (Nat.le_refl _) (Nat.le_refl _) ⟨rfl, rfl, rfl⟩
theorem ct_B_fails (hty : tys.map (·.2) = ma_ty) (g : ca_S) (h : rb_S) (o : Int64) (x b : Int32) (hb : b = 0 ∨ b = 1) : mr_M l my_B_fails mc_B_fails 3 (some .boolean) 2 D mn_cl Z mb_B tys ma_sh [va_rf (some (ad 20 0)), .int x, .int b] ad (ma_R g (rb_R h o)) (some (.int (if rb_flP h x b then 1 else 0))) (ma_R g (rb_R (rb_fl h x b) o)) := by
  have hnb : vp_nar .boolean b = b := by rcases hb with rfl | rfl <;> decide
  refine mg_M.of (cc := mc_B_fails) (maxL := 3) (ret := (some .boolean)) (by decide) rfl (Nat.le_of_ble_eq_true rfl) (mg_caS rfl (mg_caS rfl (mg_caS rfl mg_ca0))) ?_
  intro p e s m args below meth c K hret hlk hnm hA
  by_cases hv : ¬ x < 0 ∧ ¬ 4 < x
  case neg =>
    have hnp : ¬ rb_flP h x b := fun z => hv z.1
    have hst : rb_fl h x b = mg_u h 20 0 0 := if_neg hnp
    rw [if_neg hnp, hst]
    refine mg_aload_n K md_B_fails_0 rfl ?_
    refine mg_iconst K (v := 0) md_B_fails_1 (by decide) ?_
    refine mr_putI K mf_B_62 md_B_fails_2 Nat.zero_lt_one ?_
    refine mr_eqr (rb_sI _ _ _ _ _ _ (by decide)) ?_
    refine mg_iload_n K md_B_fails_5 rfl ?_
    refine mg_iconst K (v := 0) md_B_fails_6 (by decide) ?_
    refine mg_iconst K (v := 4) md_B_fails_7 (by decide) ?_
    refine mr_cP K hA (ct_B_in x 0 4) ms_B_76 (by decide) md_B_fails_8 rfl (Nat.le_of_ble_eq_true rfl) ⟨Nat.zero_le _, Nat.zero_le _⟩ ?_
    rw [if_neg hv]
    refine mg_if_eq K 24 md_B_fails_11 rfl (fun h11 => ?_) (fun h11 => ?_)
    · refine mg_iconst K (v := 0) md_B_fails_24 (by decide) ?_
      exact mg_zret K hret hlk md_B_fails_25 (by decide) (Nat.le_refl _) (Nat.le_refl _) ⟨rfl, rfl, rfl⟩
    · exact absurd rfl h11
  obtain ⟨u, hu, rfl⟩ := mi_in (n := 4) (by decide) hv
  refine mg_aload_n K md_B_fails_0 rfl ?_
  refine mg_iconst K (v := 0) md_B_fails_1 (by decide) ?_
  refine mr_putI K mf_B_62 md_B_fails_2 Nat.zero_lt_one ?_
  refine mr_eqr (rb_sI _ _ _ _ _ _ (by decide)) ?_
  refine mg_iload_n K md_B_fails_5 rfl ?_
  refine mg_iconst K (v := 0) md_B_fails_6 (by decide) ?_
  refine mg_iconst K (v := 4) md_B_fails_7 (by decide) ?_
  refine mr_cP K hA (ct_B_in (Int32.ofNat u) 0 4) ms_B_76 (by decide) md_B_fails_8 rfl (Nat.le_of_ble_eq_true rfl) ⟨Nat.zero_le _, Nat.zero_le _⟩ ?_
  rw [if_pos hv]
  refine mg_if_eq K 24 md_B_fails_11 rfl (fun h11 => ?_) (fun h11 => ?_)
  · exact absurd h11 (by decide)
  · refine mg_aload_n K md_B_fails_14 rfl ?_
    refine mr_getS (k2 := 35) (i2 := 0) K mf_B_53 md_B_fails_15 Nat.zero_lt_one rfl ?_
    refine mg_iload_n K md_B_fails_18 rfl ?_
    refine mr_zald (v := h 35 u) K rfl (ma_t hty 2) md_B_fails_19 Nat.zero_lt_one (mi_vn (by omega) (by omega)) (by rw [mi_tn (by omega)]; rfl) ?_
    refine mg_iload_n K md_B_fails_20 rfl ?_
    refine mg_icmp_ne K 26 md_B_fails_21 rfl (fun h21 => ?_) (fun h21 => ?_)
    · have hp : rb_flP h (Int32.ofNat u) b := ⟨hv, by rw [mi_tn (by omega)]; exact h21⟩
      have hst : rb_fl h (Int32.ofNat u) b = mg_u (mg_u h 20 0 0) 35 u b := by unfold rb_fl; rw [if_pos hp, mi_tn (by omega)]
      rw [if_pos hp, hst]
      refine mg_aload_n K md_B_fails_26 rfl ?_
      refine mr_getS (k2 := 35) (i2 := 0) K mf_B_53 md_B_fails_27 Nat.zero_lt_one rfl ?_
      refine mg_iload_n K md_B_fails_30 rfl ?_
      refine mg_iload_n K md_B_fails_31 rfl ?_
      refine mr_zast (v := b) K rfl (ma_t hty 2) md_B_fails_32 Nat.zero_lt_one (mi_vn (by omega) (by omega)) hnb ?_
      rw [mi_tn (by omega)]
      refine mr_eqr (rb_sI _ _ _ _ _ _ (by decide)) ?_
      refine mg_iconst K (v := 1) md_B_fails_33 (by decide) ?_
      exact mg_zret K hret hlk md_B_fails_34 (by decide) (Nat.le_refl _) (Nat.le_refl _) ⟨rfl, rfl, rfl⟩
    · have hp : ¬ rb_flP h (Int32.ofNat u) b := fun z => z.2 (by rw [mi_tn (by omega)]; exact h21)
      have hst : rb_fl h (Int32.ofNat u) b = mg_u h 20 0 0 := if_neg hp
      rw [if_neg hp, hst]
      refine mg_iconst K (v := 0) md_B_fails_24 (by decide) ?_
      exact mg_zret K hret hlk md_B_fails_25 (by decide) (Nat.le_refl _) (Nat.le_refl _) ⟨rfl, rfl, rfl⟩
theorem cx_B_cut (hty : tys.map (·.2) = ma_ty) (g : ca_S) (h : rb_S) (o : Int64) (x : Int32) (hn : ¬ (¬ x < 0 ∧ ¬ 4 ≤ x)) : mr_M l my_B_cut mc_B_cut 4 (some .int) 3 D mn_cl Z mb_B tys ma_sh [va_rf (some (ad 20 0)), .int x] ad (ma_R g (rb_R h o)) (some (.int 0)) (ma_R g (rb_R (mg_u h 20 0 1) o)) := by
  refine mg_M.of (cc := mc_B_cut) (maxL := 4) (ret := (some .int)) (by decide) rfl (Nat.le_of_ble_eq_true rfl) (mg_caS rfl (mg_caS rfl mg_ca0)) ?_
  intro p e s m args below meth c K hret hlk hnm hA
  refine mg_iload_n K md_B_cut_0 rfl ?_
  refine mr_cP K hA (ct_B_isSender x) ms_B_118 (by decide) md_B_cut_1 rfl (Nat.le_of_ble_eq_true rfl) ⟨Nat.zero_le _, Nat.zero_le _⟩ ?_
  rw [if_neg hn]
  refine mg_if_ne K 13 md_B_cut_4 rfl (fun h4 => ?_) (fun h4 => ?_)
  · exact absurd rfl h4
  · refine mg_aload_n K md_B_cut_7 rfl ?_
    refine mg_iconst K (v := 1) md_B_cut_8 (by decide) ?_
    refine mr_cV K hA (ct_B_refuse hty g h o 1) ms_B_124 (by decide) md_B_cut_9 rfl rfl Nat.zero_lt_one rfl (Nat.le_of_ble_eq_true rfl) ⟨Nat.zero_le _, Nat.zero_le _⟩ ?_
    exact mg_iret K hret hlk md_B_cut_12 (Nat.le_refl _) (Nat.le_refl _) ⟨rfl, rfl, rfl⟩
theorem ct_B_cut (hty : tys.map (·.2) = ma_ty) (g : ca_S) (h : rb_S) (o : Int64) {s0 : Nat} (hs : s0 < 4) : mr_M l my_B_cut mc_B_cut 4 (some .int) 3 D mn_cl Z mb_B tys ma_sh [va_rf (some (ad 20 0)), .int (Int32.ofNat s0)] ad (ma_R g (rb_R h o)) (some (.int (Int32.ofNat (rb_cutF (24 * s0) 24 (mg_u h 20 0 0) 0).2))) (ma_R g (rb_R (rb_cutF (24 * s0) 24 (mg_u h 20 0 0) 0).1 o)) := by
  refine mg_M.of (cc := mc_B_cut) (maxL := 4) (ret := (some .int)) (by decide) rfl (Nat.le_of_ble_eq_true rfl) (mg_caS rfl (mg_caS rfl mg_ca0)) ?_
  intro p e s m args below meth c K hret hlk hnm hA
  have loop : ∀ (f m1 : Nat) (h' : rb_S) (a : Nat), m1 + f = 24 * s0 + 24 → rb_cutF m1 f h' a = (rb_cutF (24 * s0) 24 (mg_u h 20 0 0) 0) → mg_G p l e (mg_rm 3 0 0) s m args below meth c D mn_cl Z (mg_A ad (mr_C tys ma_sh ad (ma_R g (rb_R h o))) s.heap.size) s.heap 4 (MQ below (mg_Qc D mn_cl Z ad (mr_C tys ma_sh ad (ma_R g (rb_R h o))) s.heap.size (mg_Po tys ma_sh ad (some (.int (Int32.ofNat (rb_cutF (24 * s0) 24 (mg_u h 20 0 0) 0).2))) (ma_R g (rb_R (rb_cutF (24 * s0) 24 (mg_u h 20 0 0) 0).1 o)))) args s 0 0 (mg_A ad (mr_C tys ma_sh ad (ma_R g (rb_R h o))) s.heap.size)) ad (mr_C tys ma_sh ad (ma_R g (rb_R h' o))) [some (va_rf (some (ad 20 0))), some (.int (Int32.ofNat s0)), some (.int (Int32.ofNat a)), some (.int (Int32.ofNat m1))] 0 0 [] 25 := by
    intro f
    induction f with
    | zero =>
      intro m1 h' a hk hT
      refine mg_iload_n K md_B_cut_25 rfl ?_
      refine mg_bipush K (v := 24) md_B_cut_26 (by decide) ?_
      refine mg_iload_n K md_B_cut_28 rfl ?_
      refine mg_imul K md_B_cut_29 ?_
      rw [show (24 : Int32) * Int32.ofNat s0 = Int32.ofNat (24 * s0) from mi_mul 24 s0]
      refine mg_bipush K (v := 24) md_B_cut_30 (by decide) ?_
      refine mg_iadd K md_B_cut_32 ?_
      rw [show Int32.ofNat (24 * s0) + 24 = Int32.ofNat (24 * s0 + 24) from (Int32.ofNat_add (24 * s0) 24).symm]
      refine mg_icmp_ge K 71 md_B_cut_33 rfl (fun h33 => ?_) (fun h33 => ?_)
      · refine mg_iload_n K md_B_cut_71 rfl ?_
        exact mg_iret K hret hlk md_B_cut_72 (Nat.le_refl _) (Nat.le_refl _) ⟨by rw [← hT]; rfl, rfl, by rw [← hT]; rfl⟩
      · exact absurd ((mi_le (by omega) (by omega)).mpr (by omega)) h33
    | succ f ih =>
      intro m1 h' a hk hT
      have hS : (if ¬ h' 24 m1 = 0 ∧ h' 29 m1 = 0 then rb_cutF (m1 + 1) f (mg_u h' 29 m1 6) (a + 1) else rb_cutF (m1 + 1) f h' a) = (rb_cutF (24 * s0) 24 (mg_u h 20 0 0) 0) := hT
      refine mg_iload_n K md_B_cut_25 rfl ?_
      refine mg_bipush K (v := 24) md_B_cut_26 (by decide) ?_
      refine mg_iload_n K md_B_cut_28 rfl ?_
      refine mg_imul K md_B_cut_29 ?_
      rw [show (24 : Int32) * Int32.ofNat s0 = Int32.ofNat (24 * s0) from mi_mul 24 s0]
      refine mg_bipush K (v := 24) md_B_cut_30 (by decide) ?_
      refine mg_iadd K md_B_cut_32 ?_
      rw [show Int32.ofNat (24 * s0) + 24 = Int32.ofNat (24 * s0 + 24) from (Int32.ofNat_add (24 * s0) 24).symm]
      refine mg_icmp_ge K 71 md_B_cut_33 rfl (fun h33 => ?_) (fun h33 => ?_)
      · exact absurd ((mi_le (by omega) (by omega)).mp h33) (by omega)
      · refine mg_aload_n K md_B_cut_36 rfl ?_
        refine mr_getS (k2 := 24) (i2 := 0) K mf_B_19 md_B_cut_37 Nat.zero_lt_one rfl ?_
        refine mg_iload_n K md_B_cut_40 rfl ?_
        refine mr_zald (v := h' 24 m1) K rfl (ma_t hty 2) md_B_cut_41 Nat.zero_lt_one (mi_vn (by omega) (by omega)) (by rw [mi_tn (by omega)]; rfl) ?_
        refine mg_if_eq K 65 md_B_cut_42 rfl (fun h42 => ?_) (fun h42 => ?_)
        · rw [if_neg (fun z => z.1 h42)] at hS
          refine mg_iinc K (v := Int32.ofNat (m1 + 1)) md_B_cut_65 rfl (mi_a1 m1) (by decide) ?_
          refine mg_goto K 25 md_B_cut_68 rfl ?_
          exact ih (m1 + 1) h' a (by omega) hS
        · refine mg_aload_n K md_B_cut_45 rfl ?_
          refine mr_getS (k2 := 29) (i2 := 0) K mf_B_35 md_B_cut_46 Nat.zero_lt_one rfl ?_
          refine mg_iload_n K md_B_cut_49 rfl ?_
          refine mr_iald (v := h' 29 m1) K rfl (ma_t hty 4) md_B_cut_50 Nat.zero_lt_one (mi_vn (by omega) (by omega)) (by rw [mi_tn (by omega)]; rfl) ?_
          refine mg_if_ne K 65 md_B_cut_51 rfl (fun h51 => ?_) (fun h51 => ?_)
          · rw [if_neg (fun z => h51 z.2)] at hS
            refine mg_iinc K (v := Int32.ofNat (m1 + 1)) md_B_cut_65 rfl (mi_a1 m1) (by decide) ?_
            refine mg_goto K 25 md_B_cut_68 rfl ?_
            exact ih (m1 + 1) h' a (by omega) hS
          · rw [if_pos ⟨h42, h51⟩] at hS
            refine mg_aload_n K md_B_cut_54 rfl ?_
            refine mr_getS (k2 := 29) (i2 := 0) K mf_B_35 md_B_cut_55 Nat.zero_lt_one rfl ?_
            refine mg_iload_n K md_B_cut_58 rfl ?_
            refine mg_bipush K (v := 6) md_B_cut_59 (by decide) ?_
            refine mr_iast K rfl (ma_t hty 4) md_B_cut_61 Nat.zero_lt_one (mi_vn (by omega) (by omega)) ?_
            rw [mi_tn (by omega)]
            refine mr_eqr (rb_sI _ _ _ _ _ _ (by decide)) ?_
            refine mg_iinc K (v := Int32.ofNat (a + 1)) md_B_cut_62 rfl (mi_a1 a) (by decide) ?_
            refine mg_iinc K (v := Int32.ofNat (m1 + 1)) md_B_cut_65 rfl (mi_a1 m1) (by decide) ?_
            refine mg_goto K 25 md_B_cut_68 rfl ?_
            exact ih (m1 + 1) _ (a + 1) (by omega) hS
  refine mg_iload_n K md_B_cut_0 rfl ?_
  refine mr_cP K hA (ct_B_isSender (Int32.ofNat s0)) ms_B_118 (by decide) md_B_cut_1 rfl (Nat.le_of_ble_eq_true rfl) ⟨Nat.zero_le _, Nat.zero_le _⟩ ?_
  rw [if_pos (mi_vs hs)]
  refine mg_if_ne K 13 md_B_cut_4 rfl (fun h4 => ?_) (fun h4 => ?_)
  · refine mg_aload_n K md_B_cut_13 rfl ?_
    refine mg_iconst K (v := 0) md_B_cut_14 (by decide) ?_
    refine mr_putI K mf_B_62 md_B_cut_15 Nat.zero_lt_one ?_
    refine mr_eqr (rb_sI _ _ _ _ _ _ (by decide)) ?_
    refine mg_iconst K (v := 0) md_B_cut_18 (by decide) ?_
    refine mg_istore_n K md_B_cut_19 (by decide) ?_
    refine mg_bipush K (v := 24) md_B_cut_20 (by decide) ?_
    refine mg_iload_n K md_B_cut_22 rfl ?_
    refine mg_imul K md_B_cut_23 ?_
    rw [show (24 : Int32) * Int32.ofNat s0 = Int32.ofNat (24 * s0) from mi_mul 24 s0]
    refine mg_istore_n K md_B_cut_24 (by decide) ?_
    exact loop 24 (24 * s0) (mg_u h 20 0 0) 0 (by omega) rfl
  · exact absurd h4 (by decide)
theorem cx_B_look (hty : tys.map (·.2) = ma_ty) (g : ca_S) (h : rb_S) (o : Int64) (x w : Int32) (hn : ¬ ((¬ x < 0 ∧ ¬ 15 < x) ∧ (¬ w < 0 ∧ ¬ 3 < w))) : mr_M l my_B_look mc_B_look 5 (some .int) 3 D mn_cl Z mb_B tys ma_sh [va_rf (some (ad 20 0)), .int x, .int w] ad (ma_R g (rb_R h o)) (some (.int 0)) (ma_R g (rb_R (mg_u h 20 0 1) o)) := by
  refine mg_M.of (cc := mc_B_look) (maxL := 5) (ret := (some .int)) (by decide) rfl (Nat.le_of_ble_eq_true rfl) (mg_caS rfl (mg_caS rfl (mg_caS rfl mg_ca0))) ?_
  intro p e s m args below meth c K hret hlk hnm hA
  by_cases hx : ¬ x < 0 ∧ ¬ 15 < x
  · refine mg_iload_n K md_B_look_0 rfl ?_
    refine mg_iconst K (v := 0) md_B_look_1 (by decide) ?_
    refine mg_bipush K (v := 15) md_B_look_2 (by decide) ?_
    refine mr_cP K hA (ct_B_in x 0 15) ms_B_76 (by decide) md_B_look_4 rfl (Nat.le_of_ble_eq_true rfl) ⟨Nat.zero_le _, Nat.zero_le _⟩ ?_
    rw [if_pos hx]
    refine mg_if_eq K 19 md_B_look_7 rfl (fun h7 => ?_) (fun h7 => ?_)
    · exact absurd h7 (by decide)
    · refine mg_iload_n K md_B_look_10 rfl ?_
      refine mg_iconst K (v := 0) md_B_look_11 (by decide) ?_
      refine mg_iconst K (v := 3) md_B_look_12 (by decide) ?_
      refine mr_cP K hA (ct_B_in w 0 3) ms_B_76 (by decide) md_B_look_13 rfl (Nat.le_of_ble_eq_true rfl) ⟨Nat.zero_le _, Nat.zero_le _⟩ ?_
      rw [if_neg (fun z => hn ⟨hx, z⟩)]
      refine mg_if_ne K 25 md_B_look_16 rfl (fun h16 => ?_) (fun h16 => ?_)
      · exact absurd rfl h16
      · refine mg_aload_n K md_B_look_19 rfl ?_
        refine mg_iconst K (v := 1) md_B_look_20 (by decide) ?_
        refine mr_cV K hA (ct_B_refuse hty g h o 1) ms_B_124 (by decide) md_B_look_21 rfl rfl Nat.zero_lt_one rfl (Nat.le_of_ble_eq_true rfl) ⟨Nat.zero_le _, Nat.zero_le _⟩ ?_
        exact mg_iret K hret hlk md_B_look_24 (Nat.le_refl _) (Nat.le_refl _) ⟨rfl, rfl, rfl⟩
  · refine mg_iload_n K md_B_look_0 rfl ?_
    refine mg_iconst K (v := 0) md_B_look_1 (by decide) ?_
    refine mg_bipush K (v := 15) md_B_look_2 (by decide) ?_
    refine mr_cP K hA (ct_B_in x 0 15) ms_B_76 (by decide) md_B_look_4 rfl (Nat.le_of_ble_eq_true rfl) ⟨Nat.zero_le _, Nat.zero_le _⟩ ?_
    rw [if_neg hx]
    refine mg_if_eq K 19 md_B_look_7 rfl (fun h7 => ?_) (fun h7 => ?_)
    · refine mg_aload_n K md_B_look_19 rfl ?_
      refine mg_iconst K (v := 1) md_B_look_20 (by decide) ?_
      refine mr_cV K hA (ct_B_refuse hty g h o 1) ms_B_124 (by decide) md_B_look_21 rfl rfl Nat.zero_lt_one rfl (Nat.le_of_ble_eq_true rfl) ⟨Nat.zero_le _, Nat.zero_le _⟩ ?_
      exact mg_iret K hret hlk md_B_look_24 (Nat.le_refl _) (Nat.le_refl _) ⟨rfl, rfl, rfl⟩
    · exact absurd rfl h7
theorem ct_B_look (hty : tys.map (·.2) = ma_ty) (g : ca_S) (h : rb_S) (o : Int64) {u : Nat} (w : Int32) (hu : u < 16) (hw : ¬ w < 0 ∧ ¬ 3 < w) : mr_M l my_B_look mc_B_look 5 (some .int) 3 D mn_cl Z mb_B tys ma_sh [va_rf (some (ad 20 0)), .int (Int32.ofNat u), .int w] ad (ma_R g (rb_R h o)) (some (.int (rb_look h u w))) (ma_R g (rb_R (mg_u h 20 0 0) o)) := by
  have hux : ¬ Int32.ofNat u < 0 ∧ ¬ 15 < Int32.ofNat u := ⟨mi_nn (by omega), fun z => by have := (mi_lt (a := 15) (b := u) (by omega) (by omega)).mp z; omega⟩
  refine mg_M.of (cc := mc_B_look) (maxL := 5) (ret := (some .int)) (by decide) rfl (Nat.le_of_ble_eq_true rfl) (mg_caS rfl (mg_caS rfl (mg_caS rfl mg_ca0))) ?_
  intro p e s m args below meth c K hret hlk hnm hA
  have loop : ∀ (f k a : Nat), k + f = 96 → rb_lkF h (Int32.ofNat u) k f a = rb_lkF h (Int32.ofNat u) 0 96 0 → mg_G p l e (mg_rm 3 0 0) s m args below meth c D mn_cl Z (mg_A ad (mr_C tys ma_sh ad (ma_R g (rb_R h o))) s.heap.size) s.heap 5 (MQ below (mg_Qc D mn_cl Z ad (mr_C tys ma_sh ad (ma_R g (rb_R h o))) s.heap.size (mg_Po tys ma_sh ad (some (.int (rb_look h u w))) (ma_R g (rb_R (mg_u h 20 0 0) o)))) args s 0 0 (mg_A ad (mr_C tys ma_sh ad (ma_R g (rb_R h o))) s.heap.size)) ad (mr_C tys ma_sh ad (ma_R g (rb_R (mg_u h 20 0 0) o))) [some (va_rf (some (ad 20 0))), some (.int (Int32.ofNat u)), some (.int w), some (.int (Int32.ofNat a)), some (.int (Int32.ofNat k))] 0 0 [] 35 := by
    intro f
    induction f with
    | zero =>
      intro k a hk hT
      refine mg_iload K md_B_look_35 rfl ?_
      refine mg_bipush K (v := 96) md_B_look_37 (by decide) ?_
      refine mg_icmp_ge K 88 md_B_look_39 rfl (fun h39 => ?_) (fun h39 => ?_)
      · refine mg_iload_n K md_B_look_88 rfl ?_
        refine mg_if_ne K 101 md_B_look_89 rfl (fun h89 => ?_) (fun h89 => ?_)
        · refine mg_iload_n K md_B_look_101 rfl ?_
          refine mg_iconst K (v := 1) md_B_look_102 (by decide) ?_
          refine mg_icmp_ne K 115 md_B_look_103 rfl (fun h103 => ?_) (fun h103 => ?_)
          · refine mg_iload_n K md_B_look_115 rfl ?_
            refine mg_iconst K (v := 2) md_B_look_116 (by decide) ?_
            refine mg_icmp_ne K 129 md_B_look_117 rfl (fun h117 => ?_) (fun h117 => ?_)
            · refine mg_iload_n K md_B_look_129 rfl ?_
              exact mg_iret K hret hlk md_B_look_130 (Nat.le_refl _) (Nat.le_refl _) ⟨by unfold rb_look; rw [if_neg h89, if_neg h103, if_neg h117, ← hT]; rfl, rfl, rfl⟩
            · refine mg_aload_n K md_B_look_120 rfl ?_
              refine mr_getS (k2 := 23) (i2 := 0) K mf_B_16 md_B_look_121 Nat.zero_lt_one rfl ?_
              refine mg_iload_n K md_B_look_124 rfl ?_
              refine mr_iald (v := h 23 u) K rfl (ma_t hty 4) md_B_look_125 Nat.zero_lt_one (mi_vn (by omega) (by omega)) (by rw [mi_tn (by omega)]; rfl) ?_
              refine mg_goto K 130 md_B_look_126 rfl ?_
              exact mg_iret K hret hlk md_B_look_130 (Nat.le_refl _) (Nat.le_refl _) ⟨by unfold rb_look; rw [if_neg h89, if_neg h103, if_pos h117], rfl, rfl⟩
          · refine mg_aload_n K md_B_look_106 rfl ?_
            refine mr_getS (k2 := 22) (i2 := 0) K mf_B_13 md_B_look_107 Nat.zero_lt_one rfl ?_
            refine mg_iload_n K md_B_look_110 rfl ?_
            refine mr_iald (v := h 22 u) K rfl (ma_t hty 4) md_B_look_111 Nat.zero_lt_one (mi_vn (by omega) (by omega)) (by rw [mi_tn (by omega)]; rfl) ?_
            refine mg_goto K 130 md_B_look_112 rfl ?_
            exact mg_iret K hret hlk md_B_look_130 (Nat.le_refl _) (Nat.le_refl _) ⟨by unfold rb_look; rw [if_neg h89, if_pos h103], rfl, rfl⟩
        · refine mg_aload_n K md_B_look_92 rfl ?_
          refine mr_getS (k2 := 21) (i2 := 0) K mf_B_7 md_B_look_93 Nat.zero_lt_one rfl ?_
          refine mg_iload_n K md_B_look_96 rfl ?_
          refine mr_iald (v := h 21 u) K rfl (ma_t hty 4) md_B_look_97 Nat.zero_lt_one (mi_vn (by omega) (by omega)) (by rw [mi_tn (by omega)]; rfl) ?_
          refine mg_goto K 130 md_B_look_98 rfl ?_
          exact mg_iret K hret hlk md_B_look_130 (Nat.le_refl _) (Nat.le_refl _) ⟨by unfold rb_look; rw [if_pos h89], rfl, rfl⟩
      · exact absurd ((mi_le (a := 96) (b := k) (by omega) (by omega)).mpr (by omega)) h39
    | succ f ih =>
      intro k a hk hT
      have hS : rb_lkF h (Int32.ofNat u) (k + 1) f (if ¬ h 24 k = 0 ∧ h 29 k = 3 ∧ h 27 k = Int32.ofNat u then a + 1 else a) = rb_lkF h (Int32.ofNat u) 0 96 0 := hT
      refine mg_iload K md_B_look_35 rfl ?_
      refine mg_bipush K (v := 96) md_B_look_37 (by decide) ?_
      refine mg_icmp_ge K 88 md_B_look_39 rfl (fun h39 => ?_) (fun h39 => ?_)
      · exact absurd ((mi_le (a := 96) (b := k) (by omega) (by omega)).mp h39) (by omega)
      · refine mg_iload_n K md_B_look_42 rfl ?_
        refine mg_aload_n K md_B_look_43 rfl ?_
        refine mr_getS (k2 := 24) (i2 := 0) K mf_B_19 md_B_look_44 Nat.zero_lt_one rfl ?_
        refine mg_iload K md_B_look_47 rfl ?_
        refine mr_zald (v := h 24 k) K rfl (ma_t hty 2) md_B_look_49 Nat.zero_lt_one (mi_vn (by omega) (by omega)) (by rw [mi_tn (by omega)]; rfl) ?_
        refine mg_if_eq K 79 md_B_look_50 rfl (fun h50 => ?_) (fun h50 => ?_)
        · rw [if_neg (fun z => z.1 h50)] at hS
          refine mg_iconst K (v := 0) md_B_look_79 (by decide) ?_
          refine mg_iadd K md_B_look_80 ?_
          rw [show Int32.ofNat a + 0 = Int32.ofNat a from Int32.add_zero _]
          refine mg_istore_n K md_B_look_81 (by decide) ?_
          refine mg_iinc K (v := Int32.ofNat (k + 1)) md_B_look_82 rfl (mi_a1 k) (by decide) ?_
          refine mg_goto K 35 md_B_look_85 rfl ?_
          exact ih (k + 1) _ (by omega) hS
        · refine mg_aload_n K md_B_look_53 rfl ?_
          refine mr_getS (k2 := 29) (i2 := 0) K mf_B_35 md_B_look_54 Nat.zero_lt_one rfl ?_
          refine mg_iload K md_B_look_57 rfl ?_
          refine mr_iald (v := h 29 k) K rfl (ma_t hty 4) md_B_look_59 Nat.zero_lt_one (mi_vn (by omega) (by omega)) (by rw [mi_tn (by omega)]; rfl) ?_
          refine mg_iconst K (v := 3) md_B_look_60 (by decide) ?_
          refine mg_icmp_ne K 79 md_B_look_61 rfl (fun h61 => ?_) (fun h61 => ?_)
          · rw [if_neg (fun z => h61 z.2.1)] at hS
            refine mg_iconst K (v := 0) md_B_look_79 (by decide) ?_
            refine mg_iadd K md_B_look_80 ?_
            rw [show Int32.ofNat a + 0 = Int32.ofNat a from Int32.add_zero _]
            refine mg_istore_n K md_B_look_81 (by decide) ?_
            refine mg_iinc K (v := Int32.ofNat (k + 1)) md_B_look_82 rfl (mi_a1 k) (by decide) ?_
            refine mg_goto K 35 md_B_look_85 rfl ?_
            exact ih (k + 1) _ (by omega) hS
          · refine mg_aload_n K md_B_look_64 rfl ?_
            refine mr_getS (k2 := 27) (i2 := 0) K mf_B_29 md_B_look_65 Nat.zero_lt_one rfl ?_
            refine mg_iload K md_B_look_68 rfl ?_
            refine mr_iald (v := h 27 k) K rfl (ma_t hty 4) md_B_look_70 Nat.zero_lt_one (mi_vn (by omega) (by omega)) (by rw [mi_tn (by omega)]; rfl) ?_
            refine mg_iload_n K md_B_look_71 rfl ?_
            refine mg_icmp_ne K 79 md_B_look_72 rfl (fun h72 => ?_) (fun h72 => ?_)
            · rw [if_neg (fun z => h72 z.2.2)] at hS
              refine mg_iconst K (v := 0) md_B_look_79 (by decide) ?_
              refine mg_iadd K md_B_look_80 ?_
              rw [show Int32.ofNat a + 0 = Int32.ofNat a from Int32.add_zero _]
              refine mg_istore_n K md_B_look_81 (by decide) ?_
              refine mg_iinc K (v := Int32.ofNat (k + 1)) md_B_look_82 rfl (mi_a1 k) (by decide) ?_
              refine mg_goto K 35 md_B_look_85 rfl ?_
              exact ih (k + 1) _ (by omega) hS
            · rw [if_pos ⟨h50, h61, h72⟩] at hS
              refine mg_iconst K (v := 1) md_B_look_75 (by decide) ?_
              refine mg_goto K 80 md_B_look_76 rfl ?_
              refine mg_iadd K md_B_look_80 ?_
              rw [mi_a1]
              refine mg_istore_n K md_B_look_81 (by decide) ?_
              refine mg_iinc K (v := Int32.ofNat (k + 1)) md_B_look_82 rfl (mi_a1 k) (by decide) ?_
              refine mg_goto K 35 md_B_look_85 rfl ?_
              exact ih (k + 1) _ (by omega) hS
  refine mg_iload_n K md_B_look_0 rfl ?_
  refine mg_iconst K (v := 0) md_B_look_1 (by decide) ?_
  refine mg_bipush K (v := 15) md_B_look_2 (by decide) ?_
  refine mr_cP K hA (ct_B_in (Int32.ofNat u) 0 15) ms_B_76 (by decide) md_B_look_4 rfl (Nat.le_of_ble_eq_true rfl) ⟨Nat.zero_le _, Nat.zero_le _⟩ ?_
  rw [if_pos hux]
  refine mg_if_eq K 19 md_B_look_7 rfl (fun h7 => ?_) (fun h7 => ?_)
  · exact absurd h7 (by decide)
  · refine mg_iload_n K md_B_look_10 rfl ?_
    refine mg_iconst K (v := 0) md_B_look_11 (by decide) ?_
    refine mg_iconst K (v := 3) md_B_look_12 (by decide) ?_
    refine mr_cP K hA (ct_B_in w 0 3) ms_B_76 (by decide) md_B_look_13 rfl (Nat.le_of_ble_eq_true rfl) ⟨Nat.zero_le _, Nat.zero_le _⟩ ?_
    rw [if_pos hw]
    refine mg_if_ne K 25 md_B_look_16 rfl (fun h16 => ?_) (fun h16 => ?_)
    · refine mg_aload_n K md_B_look_25 rfl ?_
      refine mg_iconst K (v := 0) md_B_look_26 (by decide) ?_
      refine mr_putI K mf_B_62 md_B_look_27 Nat.zero_lt_one ?_
      refine mr_eqr (rb_sI _ _ _ _ _ _ (by decide)) ?_
      refine mg_iconst K (v := 0) md_B_look_30 (by decide) ?_
      refine mg_istore_n K md_B_look_31 (by decide) ?_
      refine mg_iconst K (v := 0) md_B_look_32 (by decide) ?_
      refine mg_istore K md_B_look_33 (by decide) ?_
      exact loop 96 0 0 (by omega) rfl
    · exact absurd h16 (by decide)
theorem ct_B_name {m0 : Nat} (hm : m0 < 96) : mr_MS l my_B_name mc_B_name 1 (some .int) 1 D mn_cl Z mb_B tys [.int (Int32.ofNat m0)] (some (.int (rb_name m0))) := by
  intro ad C
  refine mg_M.of (cc := mc_B_name) (maxL := 1) (ret := (some .int)) (by decide) rfl (Nat.le_of_ble_eq_true rfl) (mg_caS rfl mg_ca0) ?_
  intro p e s m args below meth c K hret hlk hnm hA
  refine mg_sipush K (v := 1000) md_B_name_0 (by decide) ?_
  refine mg_iload_n K md_B_name_3 rfl ?_
  refine mg_bipush K (v := 24) md_B_name_4 (by decide) ?_
  refine mg_idiv K md_B_name_6 (by decide) ?_
  rw [mi_div ⟨m0, hm⟩]
  refine mg_imul K md_B_name_7 ?_
  refine mg_iload_n K md_B_name_8 rfl ?_
  refine mg_bipush K (v := 24) md_B_name_9 (by decide) ?_
  refine mg_irem K md_B_name_11 (by decide) ?_
  rw [mi_rem ⟨m0, hm⟩]
  refine mg_iadd K md_B_name_12 ?_
  refine mg_iconst K (v := 1) md_B_name_13 (by decide) ?_
  refine mg_iadd K md_B_name_14 ?_
  exact mg_iret K hret hlk md_B_name_15 (Nat.le_refl _) (Nat.le_refl _) ⟨rfl, rfl, rfl⟩
theorem ct_B_act (hty : tys.map (·.2) = ma_ty) (g : ca_S) (h : rb_S) (o : Int64) (i : Int32) {na : Nat} (hna : h 20 18 = Int32.ofNat na) (hn96 : na ≤ 96) (hl : ∀ x, x < na → ∃ y, y < 96 ∧ h 36 x = Int32.ofNat y) : mr_M l my_B_act mc_B_act 2 (some .int) 2 D mn_cl Z mb_B tys ma_sh [va_rf (some (ad 20 0)), .int i] ad (ma_R g (rb_R h o)) (some (.int (rb_at h 36 na i))) (ma_R g (rb_R (mg_u h 20 0 0) o)) := by
  refine mg_M.of (cc := mc_B_act) (maxL := 2) (ret := (some .int)) (by decide) rfl (Nat.le_of_ble_eq_true rfl) (mg_caS rfl (mg_caS rfl mg_ca0)) ?_
  intro p e s m args below meth c K hret hlk hnm hA
  refine mg_aload_n K md_B_act_0 rfl ?_
  refine mg_iconst K (v := 0) md_B_act_1 (by decide) ?_
  refine mr_putI K mf_B_62 md_B_act_2 Nat.zero_lt_one ?_
  refine mr_eqr (rb_sI _ _ _ _ _ _ (by decide)) ?_
  refine mg_iload_n K md_B_act_5 rfl ?_
  refine mg_if_lt K 29 md_B_act_6 rfl (fun h6 => ?_) (fun h6 => ?_)
  · refine mg_iconst K (v := -1) md_B_act_29 (by decide) ?_
    exact mg_iret K hret hlk md_B_act_30 (Nat.le_refl _) (Nat.le_refl _) ⟨by unfold rb_at; rw [if_pos h6], rfl, rfl⟩
  · obtain ⟨n, hn, rfl⟩ := mi_ex h6
    refine mg_iload_n K md_B_act_9 rfl ?_
    refine mg_aload_n K md_B_act_10 rfl ?_
    refine mr_getI (v := Int32.ofNat na) K mf_B_80 md_B_act_11 (by decide) Nat.zero_lt_one hna ?_
    refine mg_icmp_ge K 29 md_B_act_14 rfl (fun h14 => ?_) (fun h14 => ?_)
    · refine mg_iconst K (v := -1) md_B_act_29 (by decide) ?_
      exact mg_iret K hret hlk md_B_act_30 (Nat.le_refl _) (Nat.le_refl _) ⟨by unfold rb_at; rw [if_neg h6, if_pos h14], rfl, rfl⟩
    · have hlt : n < na := by have := mt (mi_le (a := na) (b := n) (by omega) hn).mpr h14; omega
      refine mg_aload_n K md_B_act_17 rfl ?_
      refine mr_getS (k2 := 36) (i2 := 0) K mf_B_56 md_B_act_18 Nat.zero_lt_one rfl ?_
      refine mg_iload_n K md_B_act_21 rfl ?_
      obtain ⟨y, hy, hxy⟩ := hl n hlt
      refine mr_iald (v := Int32.ofNat y) K rfl (ma_t hty 4) md_B_act_22 Nat.zero_lt_one (mi_vn hn (by omega)) (by rw [mi_tn hn]; exact hxy) ?_
      refine mr_cP K hA (ct_B_name hy) ms_B_138 (by decide) md_B_act_23 rfl (Nat.le_of_ble_eq_true rfl) ⟨Nat.zero_le _, Nat.zero_le _⟩ ?_
      refine mg_goto K 30 md_B_act_26 rfl ?_
      exact mg_iret K hret hlk md_B_act_30 (Nat.le_refl _) (Nat.le_refl _) ⟨by unfold rb_at; rw [if_neg h6, if_neg h14, mi_tn hn, hxy, mi_tn (by omega)], rfl, rfl⟩
theorem ct_B_dead (hty : tys.map (·.2) = ma_ty) (g : ca_S) (h : rb_S) (o : Int64) (i : Int32) {na : Nat} (hna : h 20 20 = Int32.ofNat na) (hn96 : na ≤ 96) (hl : ∀ x, x < na → ∃ y, y < 96 ∧ h 37 x = Int32.ofNat y) : mr_M l my_B_dead mc_B_dead 2 (some .int) 2 D mn_cl Z mb_B tys ma_sh [va_rf (some (ad 20 0)), .int i] ad (ma_R g (rb_R h o)) (some (.int (rb_at h 37 na i))) (ma_R g (rb_R (mg_u h 20 0 0) o)) := by
  refine mg_M.of (cc := mc_B_dead) (maxL := 2) (ret := (some .int)) (by decide) rfl (Nat.le_of_ble_eq_true rfl) (mg_caS rfl (mg_caS rfl mg_ca0)) ?_
  intro p e s m args below meth c K hret hlk hnm hA
  refine mg_aload_n K md_B_dead_0 rfl ?_
  refine mg_iconst K (v := 0) md_B_dead_1 (by decide) ?_
  refine mr_putI K mf_B_62 md_B_dead_2 Nat.zero_lt_one ?_
  refine mr_eqr (rb_sI _ _ _ _ _ _ (by decide)) ?_
  refine mg_iload_n K md_B_dead_5 rfl ?_
  refine mg_if_lt K 29 md_B_dead_6 rfl (fun h6 => ?_) (fun h6 => ?_)
  · refine mg_iconst K (v := -1) md_B_dead_29 (by decide) ?_
    exact mg_iret K hret hlk md_B_dead_30 (Nat.le_refl _) (Nat.le_refl _) ⟨by unfold rb_at; rw [if_pos h6], rfl, rfl⟩
  · obtain ⟨n, hn, rfl⟩ := mi_ex h6
    refine mg_iload_n K md_B_dead_9 rfl ?_
    refine mg_aload_n K md_B_dead_10 rfl ?_
    refine mr_getI (v := Int32.ofNat na) K mf_B_96 md_B_dead_11 (by decide) Nat.zero_lt_one hna ?_
    refine mg_icmp_ge K 29 md_B_dead_14 rfl (fun h14 => ?_) (fun h14 => ?_)
    · refine mg_iconst K (v := -1) md_B_dead_29 (by decide) ?_
      exact mg_iret K hret hlk md_B_dead_30 (Nat.le_refl _) (Nat.le_refl _) ⟨by unfold rb_at; rw [if_neg h6, if_pos h14], rfl, rfl⟩
    · have hlt : n < na := by have := mt (mi_le (a := na) (b := n) (by omega) hn).mpr h14; omega
      refine mg_aload_n K md_B_dead_17 rfl ?_
      refine mr_getS (k2 := 37) (i2 := 0) K mf_B_59 md_B_dead_18 Nat.zero_lt_one rfl ?_
      refine mg_iload_n K md_B_dead_21 rfl ?_
      obtain ⟨y, hy, hxy⟩ := hl n hlt
      refine mr_iald (v := Int32.ofNat y) K rfl (ma_t hty 4) md_B_dead_22 Nat.zero_lt_one (mi_vn hn (by omega)) (by rw [mi_tn hn]; exact hxy) ?_
      refine mr_cP K hA (ct_B_name hy) ms_B_138 (by decide) md_B_dead_23 rfl (Nat.le_of_ble_eq_true rfl) ⟨Nat.zero_le _, Nat.zero_le _⟩ ?_
      refine mg_goto K 30 md_B_dead_26 rfl ?_
      exact mg_iret K hret hlk md_B_dead_30 (Nat.le_refl _) (Nat.le_refl _) ⟨by unfold rb_at; rw [if_neg h6, if_neg h14, mi_tn hn, hxy, mi_tn (by omega)], rfl, rfl⟩
theorem ct_B_count (hty : tys.map (·.2) = ma_ty) (g : ca_S) (h : rb_S) (o : Int64) (w : Int32) : mr_M l my_B_count mc_B_count 2 (some .int) 2 D mn_cl Z mb_B tys ma_sh [va_rf (some (ad 20 0)), .int w] ad (ma_R g (rb_R h o)) (some (.int (rb_count h w))) (ma_R g (rb_R (mg_u h 20 0 0) o)) := by
  refine mg_M.of (cc := mc_B_count) (maxL := 2) (ret := (some .int)) (by decide) rfl (Nat.le_of_ble_eq_true rfl) (mg_caS rfl (mg_caS rfl mg_ca0)) ?_
  intro p e s m args below meth c K hret hlk hnm hA
  refine mg_aload_n K md_B_count_0 rfl ?_
  refine mg_iconst K (v := 0) md_B_count_1 (by decide) ?_
  refine mr_putI K mf_B_62 md_B_count_2 Nat.zero_lt_one ?_
  refine mr_eqr (rb_sI _ _ _ _ _ _ (by decide)) ?_
  refine mg_iload_n K md_B_count_5 rfl ?_
  by_cases hS6_0 : w = 0
  · refine mg_tabIn (off := 38) K 0 44 md_B_count_6 hS6_0 (by decide) (by decide) (by decide) rfl ?_
    refine mg_aload_n K md_B_count_44 rfl ?_
    refine mr_getI (v := h 20 18) K mf_B_80 md_B_count_45 (by decide) Nat.zero_lt_one rfl ?_
    exact mg_iret K hret hlk md_B_count_48 (Nat.le_refl _) (Nat.le_refl _) ⟨by unfold rb_count; rw [if_pos hS6_0], rfl, rfl⟩
  by_cases hS6_1 : w = 1
  · refine mg_tabIn (off := 43) K 1 49 md_B_count_6 hS6_1 (by decide) (by decide) (by decide) rfl ?_
    refine mg_aload_n K md_B_count_49 rfl ?_
    refine mr_getI (v := h 20 20) K mf_B_96 md_B_count_50 (by decide) Nat.zero_lt_one rfl ?_
    exact mg_iret K hret hlk md_B_count_53 (Nat.le_refl _) (Nat.le_refl _) ⟨by unfold rb_count; rw [if_neg hS6_0, if_pos hS6_1], rfl, rfl⟩
  by_cases hS6_2 : w = 2
  · refine mg_tabIn (off := 48) K 2 54 md_B_count_6 hS6_2 (by decide) (by decide) (by decide) rfl ?_
    refine mg_aload_n K md_B_count_54 rfl ?_
    refine mr_getI (v := h 20 1) K mf_B_90 md_B_count_55 (by decide) Nat.zero_lt_one rfl ?_
    exact mg_iret K hret hlk md_B_count_58 (Nat.le_refl _) (Nat.le_refl _) ⟨by unfold rb_count; rw [if_neg hS6_0, if_neg hS6_1, if_pos hS6_2], rfl, rfl⟩
  by_cases hS6_3 : w = 3
  · refine mg_tabIn (off := 53) K 3 59 md_B_count_6 hS6_3 (by decide) (by decide) (by decide) rfl ?_
    refine mg_aload_n K md_B_count_59 rfl ?_
    refine mr_getI (v := h 20 22) K mf_B_127 md_B_count_60 (by decide) Nat.zero_lt_one rfl ?_
    exact mg_iret K hret hlk md_B_count_63 (Nat.le_refl _) (Nat.le_refl _) ⟨by unfold rb_count; rw [if_neg hS6_0, if_neg hS6_1, if_neg hS6_2, if_pos hS6_3], rfl, rfl⟩
  by_cases hS6_4 : w = 4
  · refine mg_tabIn (off := 58) K 4 64 md_B_count_6 hS6_4 (by decide) (by decide) (by decide) rfl ?_
    refine mg_aload_n K md_B_count_64 rfl ?_
    refine mg_iconst K (v := 3) md_B_count_65 (by decide) ?_
    refine mr_cV K hA (ct_B_many hty g (mg_u h 20 0 0) o 3) ms_B_70 (by decide) md_B_count_66 rfl rfl Nat.zero_lt_one rfl (Nat.le_of_ble_eq_true rfl) ⟨Nat.zero_le _, Nat.zero_le _⟩ ?_
    exact mg_iret K hret hlk md_B_count_69 (Nat.le_refl _) (Nat.le_refl _) ⟨by unfold rb_count; rw [if_neg hS6_0, if_neg hS6_1, if_neg hS6_2, if_neg hS6_3, if_pos hS6_4, rb_many_cg (h := h) (h' := mg_u h 20 0 0) (fun m => ⟨rfl, rfl⟩)], rfl, rfl⟩
  by_cases hS6_5 : w = 5
  · refine mg_tabIn (off := 64) K 5 70 md_B_count_6 hS6_5 (by decide) (by decide) (by decide) rfl ?_
    refine mg_aload_n K md_B_count_70 rfl ?_
    refine mg_iconst K (v := 4) md_B_count_71 (by decide) ?_
    refine mr_cV K hA (ct_B_many hty g (mg_u h 20 0 0) o 4) ms_B_70 (by decide) md_B_count_72 rfl rfl Nat.zero_lt_one rfl (Nat.le_of_ble_eq_true rfl) ⟨Nat.zero_le _, Nat.zero_le _⟩ ?_
    exact mg_iret K hret hlk md_B_count_75 (Nat.le_refl _) (Nat.le_refl _) ⟨by unfold rb_count; rw [if_neg hS6_0, if_neg hS6_1, if_neg hS6_2, if_neg hS6_3, if_neg hS6_4, if_pos hS6_5, rb_many_cg (h := h) (h' := mg_u h 20 0 0) (fun m => ⟨rfl, rfl⟩)], rfl, rfl⟩
  have ehS6_0 : (w).toInt ≠ 0 := fun z => hS6_0 (Int32.toInt_inj.mp z)
  have ehS6_1 : (w).toInt ≠ 1 := fun z => hS6_1 (Int32.toInt_inj.mp z)
  have ehS6_2 : (w).toInt ≠ 2 := fun z => hS6_2 (Int32.toInt_inj.mp z)
  have ehS6_3 : (w).toInt ≠ 3 := fun z => hS6_3 (Int32.toInt_inj.mp z)
  have ehS6_4 : (w).toInt ≠ 4 := fun z => hS6_4 (Int32.toInt_inj.mp z)
  have ehS6_5 : (w).toInt ≠ 5 := fun z => hS6_5 (Int32.toInt_inj.mp z)
  refine mg_tabOut K 76 md_B_count_6 (by omega) rfl ?_
  refine mg_iconst K (v := -1) md_B_count_76 (by decide) ?_
  exact mg_iret K hret hlk md_B_count_77 (Nat.le_refl _) (Nat.le_refl _) ⟨by unfold rb_count; rw [if_neg hS6_0, if_neg hS6_1, if_neg hS6_2, if_neg hS6_3, if_neg hS6_4, if_neg hS6_5], rfl, rfl⟩
theorem cx_B_of (hty : tys.map (·.2) = ma_ty) (g : ca_S) (h : rb_S) (o : Int64) (x w : Int32) (hn : ¬ ((¬ x < 0 ∧ ¬ 4 ≤ x) ∧ (¬ w < 0 ∧ ¬ 3 < w))) : mr_M l my_B_of mc_B_of 8 (some .int) 3 D mn_cl Z mb_B tys ma_sh [va_rf (some (ad 20 0)), .int x, .int w] ad (ma_R g (rb_R h o)) (some (.int (-1))) (ma_R g (rb_R (mg_u h 20 0 0) o)) := by
  refine mg_M.of (cc := mc_B_of) (maxL := 8) (ret := (some .int)) (by decide) rfl (Nat.le_of_ble_eq_true rfl) (mg_caS rfl (mg_caS rfl (mg_caS rfl mg_ca0))) ?_
  intro p e s m args below meth c K hret hlk hnm hA
  by_cases hx : ¬ x < 0 ∧ ¬ 4 ≤ x
  · refine mg_aload_n K md_B_of_0 rfl ?_
    refine mg_iconst K (v := 0) md_B_of_1 (by decide) ?_
    refine mr_putI K mf_B_62 md_B_of_2 Nat.zero_lt_one ?_
    refine mr_eqr (rb_sI _ _ _ _ _ _ (by decide)) ?_
    refine mg_iload_n K md_B_of_5 rfl ?_
    refine mr_cP K hA (ct_B_isSender x) ms_B_118 (by decide) md_B_of_6 rfl (Nat.le_of_ble_eq_true rfl) ⟨Nat.zero_le _, Nat.zero_le _⟩ ?_
    rw [if_pos hx]
    refine mg_if_eq K 21 md_B_of_9 rfl (fun h9 => ?_) (fun h9 => ?_)
    · exact absurd h9 (by decide)
    · refine mg_iload_n K md_B_of_12 rfl ?_
      refine mg_iconst K (v := 0) md_B_of_13 (by decide) ?_
      refine mg_iconst K (v := 3) md_B_of_14 (by decide) ?_
      refine mr_cP K hA (ct_B_in w 0 3) ms_B_76 (by decide) md_B_of_15 rfl (Nat.le_of_ble_eq_true rfl) ⟨Nat.zero_le _, Nat.zero_le _⟩ ?_
      rw [if_neg (fun z => hn ⟨hx, z⟩)]
      refine mg_if_ne K 23 md_B_of_18 rfl (fun h18 => ?_) (fun h18 => ?_)
      · exact absurd rfl h18
      · refine mg_iconst K (v := -1) md_B_of_21 (by decide) ?_
        exact mg_iret K hret hlk md_B_of_22 (Nat.le_refl _) (Nat.le_refl _) ⟨rfl, rfl, rfl⟩
  · refine mg_aload_n K md_B_of_0 rfl ?_
    refine mg_iconst K (v := 0) md_B_of_1 (by decide) ?_
    refine mr_putI K mf_B_62 md_B_of_2 Nat.zero_lt_one ?_
    refine mr_eqr (rb_sI _ _ _ _ _ _ (by decide)) ?_
    refine mg_iload_n K md_B_of_5 rfl ?_
    refine mr_cP K hA (ct_B_isSender x) ms_B_118 (by decide) md_B_of_6 rfl (Nat.le_of_ble_eq_true rfl) ⟨Nat.zero_le _, Nat.zero_le _⟩ ?_
    rw [if_neg hx]
    refine mg_if_eq K 21 md_B_of_9 rfl (fun h9 => ?_) (fun h9 => ?_)
    · refine mg_iconst K (v := -1) md_B_of_21 (by decide) ?_
      exact mg_iret K hret hlk md_B_of_22 (Nat.le_refl _) (Nat.le_refl _) ⟨rfl, rfl, rfl⟩
    · exact absurd rfl h9
theorem ct_B_of (hty : tys.map (·.2) = ma_ty) (g : ca_S) (h : rb_S) (o : Int64) {s0 : Nat} (w : Int32) (hs : s0 < 4) (hw : ¬ w < 0 ∧ ¬ 3 < w) : mr_M l my_B_of mc_B_of 8 (some .int) 3 D mn_cl Z mb_B tys ma_sh [va_rf (some (ad 20 0)), .int (Int32.ofNat s0), .int w] ad (ma_R g (rb_R h o)) (some (.int (rb_of h s0 w))) (ma_R g (rb_R (mg_u h 20 0 0) o)) := by
  refine mg_M.of (cc := mc_B_of) (maxL := 8) (ret := (some .int)) (by decide) rfl (Nat.le_of_ble_eq_true rfl) (mg_caS rfl (mg_caS rfl (mg_caS rfl mg_ca0))) ?_
  intro p e s m args below meth c K hret hlk hnm hA
  have loop : ∀ (f n a b c1 : Nat), n + f = 25 → 1 ≤ n → rb_ofF h s0 n f (a, b, c1) = (rb_ofF h s0 1 24 (0, 0, 0)) → mg_G p l e (mg_rm 3 0 0) s m args below meth c D mn_cl Z (mg_A ad (mr_C tys ma_sh ad (ma_R g (rb_R h o))) s.heap.size) s.heap 8 (MQ below (mg_Qc D mn_cl Z ad (mr_C tys ma_sh ad (ma_R g (rb_R h o))) s.heap.size (mg_Po tys ma_sh ad (some (.int (rb_of h s0 w))) (ma_R g (rb_R (mg_u h 20 0 0) o)))) args s 0 0 (mg_A ad (mr_C tys ma_sh ad (ma_R g (rb_R h o))) s.heap.size)) ad (mr_C tys ma_sh ad (ma_R g (rb_R (mg_u h 20 0 0) o))) [some (va_rf (some (ad 20 0))), some (.int (Int32.ofNat s0)), some (.int w), some (.int (Int32.ofNat a)), some (.int (Int32.ofNat b)), some (.int (Int32.ofNat c1)), some (.int (Int32.ofNat n))] 0 0 [] 34 := by
    intro f
    induction f with
    | zero =>
      intro n a b c1 hn h1 hT
      refine mg_iload K md_B_of_34 rfl ?_
      refine mg_bipush K (v := 24) md_B_of_36 (by decide) ?_
      refine mg_icmp_gt K 136 md_B_of_38 rfl (fun h38 => ?_) (fun h38 => ?_)
      · refine mg_iload_n K md_B_of_136 rfl ?_
        refine mg_if_ne K 148 md_B_of_137 rfl (fun h137 => ?_) (fun h137 => ?_)
        · refine mg_iload_n K md_B_of_148 rfl ?_
          refine mg_iconst K (v := 1) md_B_of_149 (by decide) ?_
          refine mg_icmp_ne K 157 md_B_of_150 rfl (fun h150 => ?_) (fun h150 => ?_)
          · refine mg_iload_n K md_B_of_157 rfl ?_
            refine mg_iconst K (v := 2) md_B_of_158 (by decide) ?_
            refine mg_icmp_ne K 167 md_B_of_159 rfl (fun h159 => ?_) (fun h159 => ?_)
            · refine mg_iload K md_B_of_167 rfl ?_
              exact mg_iret K hret hlk md_B_of_169 (Nat.le_refl _) (Nat.le_refl _) ⟨by unfold rb_of; rw [if_neg h137, if_neg h150, if_neg h159, ← hT]; rfl, rfl, rfl⟩
            · refine mg_iload K md_B_of_162 rfl ?_
              refine mg_goto K 169 md_B_of_164 rfl ?_
              exact mg_iret K hret hlk md_B_of_169 (Nat.le_refl _) (Nat.le_refl _) ⟨by unfold rb_of; rw [if_neg h137, if_neg h150, if_pos h159, ← hT]; rfl, rfl, rfl⟩
          · refine mg_iload_n K md_B_of_153 rfl ?_
            refine mg_goto K 169 md_B_of_154 rfl ?_
            exact mg_iret K hret hlk md_B_of_169 (Nat.le_refl _) (Nat.le_refl _) ⟨by unfold rb_of; rw [if_neg h137, if_pos h150, ← hT]; rfl, rfl, rfl⟩
        · refine mg_aload_n K md_B_of_140 rfl ?_
          refine mg_iload_n K md_B_of_141 rfl ?_
          refine mr_cV K hA (ct_B_gap hty g (mg_u h 20 0 0) o hs) ms_B_109 (by decide) md_B_of_142 rfl rfl Nat.zero_lt_one rfl (Nat.le_of_ble_eq_true rfl) ⟨Nat.zero_le _, Nat.zero_le _⟩ ?_
          refine mg_goto K 169 md_B_of_145 rfl ?_
          exact mg_iret K hret hlk md_B_of_169 (Nat.le_refl _) (Nat.le_refl _) ⟨by unfold rb_of; rw [if_pos h137, rb_gap_cg (h := h) (h' := mg_u h 20 0 0) (fun m => ⟨rfl, rfl, rfl⟩)], rfl, rfl⟩
      · exact absurd ((mi_lt (a := 24) (b := n) (by omega) (by omega)).mpr (by omega)) h38
    | succ f ih =>
      intro n a b c1 hn h1 hT
      have hS : rb_ofF h s0 (n + 1) f (if ¬ h 24 (24 * s0 + n - 1) = 0 ∧ h 29 (24 * s0 + n - 1) = 0 then a + 1 else a, if ¬ h 24 (24 * s0 + n - 1) = 0 ∧ h 29 (24 * s0 + n - 1) = 6 then b + 1 else b, if rb_here h (24 * s0 + n - 1) then n else c1) = (rb_ofF h s0 1 24 (0, 0, 0)) := hT
      have j3 : ∀ x, x = (if rb_here h (24 * s0 + n - 1) then n else c1) → mg_G p l e (mg_rm 3 0 0) s m args below meth c D mn_cl Z (mg_A ad (mr_C tys ma_sh ad (ma_R g (rb_R h o))) s.heap.size) s.heap 8 (MQ below (mg_Qc D mn_cl Z ad (mr_C tys ma_sh ad (ma_R g (rb_R h o))) s.heap.size (mg_Po tys ma_sh ad (some (.int (rb_of h s0 w))) (ma_R g (rb_R (mg_u h 20 0 0) o)))) args s 0 0 (mg_A ad (mr_C tys ma_sh ad (ma_R g (rb_R h o))) s.heap.size)) ad (mr_C tys ma_sh ad (ma_R g (rb_R (mg_u h 20 0 0) o))) [some (va_rf (some (ad 20 0))), some (.int (Int32.ofNat s0)), some (.int w), some (.int (Int32.ofNat (if ¬ h 24 (24 * s0 + n - 1) = 0 ∧ h 29 (24 * s0 + n - 1) = 0 then a + 1 else a))), some (.int (Int32.ofNat (if ¬ h 24 (24 * s0 + n - 1) = 0 ∧ h 29 (24 * s0 + n - 1) = 6 then b + 1 else b))), some (.int (Int32.ofNat c1)), some (.int (Int32.ofNat n)), some (.int (Int32.ofNat (24 * s0 + n - 1)))] 0 0 [.int (Int32.ofNat x)] 128 := by
        rintro x rfl
        refine mg_istore K md_B_of_128 (by decide) ?_
        refine mg_iinc K (v := Int32.ofNat (n + 1)) md_B_of_130 rfl (mi_a1 n) (by decide) ?_
        refine mg_goto K 34 md_B_of_133 rfl ?_
        refine mg_take 7 ?_
        exact ih (n + 1) _ _ _ (by omega) (by omega) hS
      have j2 : ∀ x, x = (if ¬ h 24 (24 * s0 + n - 1) = 0 ∧ h 29 (24 * s0 + n - 1) = 6 then b + 1 else b) → mg_G p l e (mg_rm 3 0 0) s m args below meth c D mn_cl Z (mg_A ad (mr_C tys ma_sh ad (ma_R g (rb_R h o))) s.heap.size) s.heap 8 (MQ below (mg_Qc D mn_cl Z ad (mr_C tys ma_sh ad (ma_R g (rb_R h o))) s.heap.size (mg_Po tys ma_sh ad (some (.int (rb_of h s0 w))) (ma_R g (rb_R (mg_u h 20 0 0) o)))) args s 0 0 (mg_A ad (mr_C tys ma_sh ad (ma_R g (rb_R h o))) s.heap.size)) ad (mr_C tys ma_sh ad (ma_R g (rb_R (mg_u h 20 0 0) o))) [some (va_rf (some (ad 20 0))), some (.int (Int32.ofNat s0)), some (.int w), some (.int (Int32.ofNat (if ¬ h 24 (24 * s0 + n - 1) = 0 ∧ h 29 (24 * s0 + n - 1) = 0 then a + 1 else a))), some (.int (Int32.ofNat b)), some (.int (Int32.ofNat c1)), some (.int (Int32.ofNat n)), some (.int (Int32.ofNat (24 * s0 + n - 1)))] 0 0 [.int (Int32.ofNat x)] 110 := by
        rintro x rfl
        refine mg_istore K md_B_of_110 (by decide) ?_
        refine mg_aload_n K md_B_of_112 rfl ?_
        refine mg_iload K md_B_of_113 rfl ?_
        refine mr_cV K hA (ct_B_isHere hty g (mg_u h 20 0 0) o (m0 := (24 * s0 + n - 1)) (by omega)) ms_B_66 (by decide) md_B_of_115 rfl rfl Nat.zero_lt_one rfl (Nat.le_of_ble_eq_true rfl) ⟨Nat.zero_le _, Nat.zero_le _⟩ ?_
        refine mg_if_eq K 126 md_B_of_118 rfl (fun h118 => ?_) (fun h118 => ?_)
        · refine mg_iload K md_B_of_126 rfl ?_
          exact j3 _ (by have hh : rb_here h (24 * s0 + n - 1) = false := (by cases hq : rb_here h (24 * s0 + n - 1) with | true => (exact absurd h118 (by rw [show rb_here (mg_u h 20 0 0) (24 * s0 + n - 1) = rb_here h (24 * s0 + n - 1) from rfl, hq]; decide)) | false => rfl); rw [hh]; rfl)
        · refine mg_iload K md_B_of_121 rfl ?_
          refine mg_goto K 128 md_B_of_123 rfl ?_
          exact j3 _ (by have hh : rb_here h (24 * s0 + n - 1) = true := (by cases hq : rb_here h (24 * s0 + n - 1) with | true => rfl | false => (exact absurd (by rw [show rb_here (mg_u h 20 0 0) (24 * s0 + n - 1) = rb_here h (24 * s0 + n - 1) from rfl, hq]; rfl) h118)); rw [hh]; rfl)
      have j1 : ∀ x, x = (if ¬ h 24 (24 * s0 + n - 1) = 0 ∧ h 29 (24 * s0 + n - 1) = 0 then a + 1 else a) → mg_G p l e (mg_rm 3 0 0) s m args below meth c D mn_cl Z (mg_A ad (mr_C tys ma_sh ad (ma_R g (rb_R h o))) s.heap.size) s.heap 8 (MQ below (mg_Qc D mn_cl Z ad (mr_C tys ma_sh ad (ma_R g (rb_R h o))) s.heap.size (mg_Po tys ma_sh ad (some (.int (rb_of h s0 w))) (ma_R g (rb_R (mg_u h 20 0 0) o)))) args s 0 0 (mg_A ad (mr_C tys ma_sh ad (ma_R g (rb_R h o))) s.heap.size)) ad (mr_C tys ma_sh ad (ma_R g (rb_R (mg_u h 20 0 0) o))) [some (va_rf (some (ad 20 0))), some (.int (Int32.ofNat s0)), some (.int w), some (.int (Int32.ofNat a)), some (.int (Int32.ofNat b)), some (.int (Int32.ofNat c1)), some (.int (Int32.ofNat n)), some (.int (Int32.ofNat (24 * s0 + n - 1)))] 0 0 [.int (Int32.ofNat x)] 79 := by
        rintro x rfl
        refine mg_istore_n K md_B_of_79 (by decide) ?_
        refine mg_iload K md_B_of_80 rfl ?_
        refine mg_aload_n K md_B_of_82 rfl ?_
        refine mr_getS (k2 := 24) (i2 := 0) K mf_B_19 md_B_of_83 Nat.zero_lt_one rfl ?_
        refine mg_iload K md_B_of_86 rfl ?_
        refine mr_zald (v := h 24 (24 * s0 + n - 1)) K rfl (ma_t hty 2) md_B_of_88 Nat.zero_lt_one (mi_vn (by omega) (by omega)) (by rw [mi_tn (by omega)]; rfl) ?_
        refine mg_if_eq K 108 md_B_of_89 rfl (fun h89 => ?_) (fun h89 => ?_)
        · refine mg_iconst K (v := 0) md_B_of_108 (by decide) ?_
          refine mg_iadd K md_B_of_109 ?_
          rw [show Int32.ofNat b + 0 = Int32.ofNat b from Int32.add_zero _]
          exact j2 _ (by rw [if_neg (fun z => z.1 h89)])
        · refine mg_aload_n K md_B_of_92 rfl ?_
          refine mr_getS (k2 := 29) (i2 := 0) K mf_B_35 md_B_of_93 Nat.zero_lt_one rfl ?_
          refine mg_iload K md_B_of_96 rfl ?_
          refine mr_iald (v := h 29 (24 * s0 + n - 1)) K rfl (ma_t hty 4) md_B_of_98 Nat.zero_lt_one (mi_vn (by omega) (by omega)) (by rw [mi_tn (by omega)]; rfl) ?_
          refine mg_bipush K (v := 6) md_B_of_99 (by decide) ?_
          refine mg_icmp_ne K 108 md_B_of_101 rfl (fun h101 => ?_) (fun h101 => ?_)
          · refine mg_iconst K (v := 0) md_B_of_108 (by decide) ?_
            refine mg_iadd K md_B_of_109 ?_
            rw [show Int32.ofNat b + 0 = Int32.ofNat b from Int32.add_zero _]
            exact j2 _ (by rw [if_neg (fun z => h101 z.2)])
          · refine mg_iconst K (v := 1) md_B_of_104 (by decide) ?_
            refine mg_goto K 109 md_B_of_105 rfl ?_
            refine mg_iadd K md_B_of_109 ?_
            rw [mi_a1]
            exact j2 _ (by rw [if_pos ⟨h89, h101⟩])
      refine mg_iload K md_B_of_34 rfl ?_
      refine mg_bipush K (v := 24) md_B_of_36 (by decide) ?_
      refine mg_icmp_gt K 136 md_B_of_38 rfl (fun h38 => ?_) (fun h38 => ?_)
      · exact absurd ((mi_lt (a := 24) (b := n) (by omega) (by omega)).mp h38) (by omega)
      · refine mg_bipush K (v := 24) md_B_of_41 (by decide) ?_
        refine mg_iload_n K md_B_of_43 rfl ?_
        refine mg_imul K md_B_of_44 ?_
        refine mg_iload K md_B_of_45 rfl ?_
        refine mg_iadd K md_B_of_47 ?_
        refine mg_iconst K (v := 1) md_B_of_48 (by decide) ?_
        refine mg_isub K md_B_of_49 ?_
        rw [mi_ix h1]
        refine mg_istore K md_B_of_50 (by decide) ?_
        refine mg_iload_n K md_B_of_52 rfl ?_
        refine mg_aload_n K md_B_of_53 rfl ?_
        refine mr_getS (k2 := 24) (i2 := 0) K mf_B_19 md_B_of_54 Nat.zero_lt_one rfl ?_
        refine mg_iload K md_B_of_57 rfl ?_
        refine mr_zald (v := h 24 (24 * s0 + n - 1)) K rfl (ma_t hty 2) md_B_of_59 Nat.zero_lt_one (mi_vn (by omega) (by omega)) (by rw [mi_tn (by omega)]; rfl) ?_
        refine mg_if_eq K 77 md_B_of_60 rfl (fun h60 => ?_) (fun h60 => ?_)
        · refine mg_iconst K (v := 0) md_B_of_77 (by decide) ?_
          refine mg_iadd K md_B_of_78 ?_
          rw [show Int32.ofNat a + 0 = Int32.ofNat a from Int32.add_zero _]
          exact j1 _ (by rw [if_neg (fun z => z.1 h60)])
        · refine mg_aload_n K md_B_of_63 rfl ?_
          refine mr_getS (k2 := 29) (i2 := 0) K mf_B_35 md_B_of_64 Nat.zero_lt_one rfl ?_
          refine mg_iload K md_B_of_67 rfl ?_
          refine mr_iald (v := h 29 (24 * s0 + n - 1)) K rfl (ma_t hty 4) md_B_of_69 Nat.zero_lt_one (mi_vn (by omega) (by omega)) (by rw [mi_tn (by omega)]; rfl) ?_
          refine mg_if_ne K 77 md_B_of_70 rfl (fun h70 => ?_) (fun h70 => ?_)
          · refine mg_iconst K (v := 0) md_B_of_77 (by decide) ?_
            refine mg_iadd K md_B_of_78 ?_
            rw [show Int32.ofNat a + 0 = Int32.ofNat a from Int32.add_zero _]
            exact j1 _ (by rw [if_neg (fun z => h70 z.2)])
          · refine mg_iconst K (v := 1) md_B_of_73 (by decide) ?_
            refine mg_goto K 78 md_B_of_74 rfl ?_
            refine mg_iadd K md_B_of_78 ?_
            rw [mi_a1]
            exact j1 _ (by rw [if_pos ⟨h60, h70⟩])
  refine mg_aload_n K md_B_of_0 rfl ?_
  refine mg_iconst K (v := 0) md_B_of_1 (by decide) ?_
  refine mr_putI K mf_B_62 md_B_of_2 Nat.zero_lt_one ?_
  refine mr_eqr (rb_sI _ _ _ _ _ _ (by decide)) ?_
  refine mg_iload_n K md_B_of_5 rfl ?_
  refine mr_cP K hA (ct_B_isSender (Int32.ofNat s0)) ms_B_118 (by decide) md_B_of_6 rfl (Nat.le_of_ble_eq_true rfl) ⟨Nat.zero_le _, Nat.zero_le _⟩ ?_
  rw [if_pos (mi_vs hs)]
  refine mg_if_eq K 21 md_B_of_9 rfl (fun h9 => ?_) (fun h9 => ?_)
  · exact absurd h9 (by decide)
  · refine mg_iload_n K md_B_of_12 rfl ?_
    refine mg_iconst K (v := 0) md_B_of_13 (by decide) ?_
    refine mg_iconst K (v := 3) md_B_of_14 (by decide) ?_
    refine mr_cP K hA (ct_B_in w 0 3) ms_B_76 (by decide) md_B_of_15 rfl (Nat.le_of_ble_eq_true rfl) ⟨Nat.zero_le _, Nat.zero_le _⟩ ?_
    rw [if_pos hw]
    refine mg_if_ne K 23 md_B_of_18 rfl (fun h18 => ?_) (fun h18 => ?_)
    · refine mg_iconst K (v := 0) md_B_of_23 (by decide) ?_
      refine mg_istore_n K md_B_of_24 (by decide) ?_
      refine mg_iconst K (v := 0) md_B_of_25 (by decide) ?_
      refine mg_istore K md_B_of_26 (by decide) ?_
      refine mg_iconst K (v := 0) md_B_of_28 (by decide) ?_
      refine mg_istore K md_B_of_29 (by decide) ?_
      refine mg_iconst K (v := 1) md_B_of_31 (by decide) ?_
      refine mg_istore K md_B_of_32 (by decide) ?_
      exact loop 24 1 0 0 0 (by omega) (by omega) rfl
    · exact absurd h18 (by decide)
end RB3
