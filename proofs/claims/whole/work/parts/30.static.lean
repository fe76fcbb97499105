/-! the class's small static methods -/
theorem mg_ca0 : ∀ w ∈ ([] : List Value), w.category = 1 := fun _ h => absurd h List.not_mem_nil
theorem mg_caS {a : Value} {l : List Value} (h : a.category = 1) (hl : ∀ w ∈ l, w.category = 1) : ∀ w ∈ a :: l, w.category = 1 := List.forall_mem_cons.mpr ⟨h, hl⟩
theorem mg_car (r : Option Nat) : (va_rf r).category = 1 := by cases r <;> rfl
def mi_b (b : Bool) : Int32 := if b then 1 else 0
theorem ma_t {tys : List (ClassId × FieldType)} (h : tys.map (·.2) = ma_ty) (i : Nat) : (tys[i]?).map (·.2) = ma_ty[i]? := by rw [← h, List.getElem?_map]
section CS1
variable {l : Launch} {D : va_G} {Z : Nat × Cell} {tys : List (ClassId × FieldType)}
theorem ct_A_isSender (x : Int32) : mr_MS l my_A_isSender mc_A_isSender 1 (some .boolean) 1 D mn_cl Z mb_B tys [.int x] (some (.int (if ¬ x < 0 ∧ ¬ 4 ≤ x then 1 else 0))) := by
  intro ad C
  refine mg_M.of (cc := mc_A_isSender) (maxL := 1) (ret := (some .boolean)) (by decide) rfl (Nat.le_of_ble_eq_true rfl) (mg_caS rfl mg_ca0) ?_
  intro p e s m args below meth c K hret hlk hnm hA
  refine mg_iload_n K md_A_isSender_0 rfl ?_
  refine mg_if_lt K 13 md_A_isSender_1 rfl (fun h1 => ?_) (fun h1 => ?_)
  · refine mg_iconst K (v := 0) md_A_isSender_13 (by decide) ?_
    exact mg_zret K hret hlk md_A_isSender_14 (by decide) (Nat.le_refl _) (Nat.le_refl _) ⟨by rw [if_neg (fun z => z.1 h1)], rfl, rfl⟩
  · refine mg_iload_n K md_A_isSender_4 rfl ?_
    refine mg_iconst K (v := 4) md_A_isSender_5 (by decide) ?_
    refine mg_icmp_ge K 13 md_A_isSender_6 rfl (fun h6 => ?_) (fun h6 => ?_)
    · refine mg_iconst K (v := 0) md_A_isSender_13 (by decide) ?_
      exact mg_zret K hret hlk md_A_isSender_14 (by decide) (Nat.le_refl _) (Nat.le_refl _) ⟨by rw [if_neg (fun z => z.2 h6)], rfl, rfl⟩
    · refine mg_iconst K (v := 1) md_A_isSender_9 (by decide) ?_
      refine mg_goto K 14 md_A_isSender_10 rfl ?_
      exact mg_zret K hret hlk md_A_isSender_14 (by decide) (Nat.le_refl _) (Nat.le_refl _) ⟨by rw [if_pos ⟨h1, h6⟩], rfl, rfl⟩
theorem ct_A_isSubject (x : Int32) : mr_MS l my_A_isSubject mc_A_isSubject 1 (some .boolean) 1 D mn_cl Z mb_B tys [.int x] (some (.int (if ¬ x < 0 ∧ ¬ 16 ≤ x then 1 else 0))) := by
  intro ad C
  refine mg_M.of (cc := mc_A_isSubject) (maxL := 1) (ret := (some .boolean)) (by decide) rfl (Nat.le_of_ble_eq_true rfl) (mg_caS rfl mg_ca0) ?_
  intro p e s m args below meth c K hret hlk hnm hA
  refine mg_iload_n K md_A_isSubject_0 rfl ?_
  refine mg_if_lt K 14 md_A_isSubject_1 rfl (fun h1 => ?_) (fun h1 => ?_)
  · refine mg_iconst K (v := 0) md_A_isSubject_14 (by decide) ?_
    exact mg_zret K hret hlk md_A_isSubject_15 (by decide) (Nat.le_refl _) (Nat.le_refl _) ⟨by rw [if_neg (fun z => z.1 h1)], rfl, rfl⟩
  · refine mg_iload_n K md_A_isSubject_4 rfl ?_
    refine mg_bipush K (v := 16) md_A_isSubject_5 (by decide) ?_
    refine mg_icmp_ge K 14 md_A_isSubject_7 rfl (fun h7 => ?_) (fun h7 => ?_)
    · refine mg_iconst K (v := 0) md_A_isSubject_14 (by decide) ?_
      exact mg_zret K hret hlk md_A_isSubject_15 (by decide) (Nat.le_refl _) (Nat.le_refl _) ⟨by rw [if_neg (fun z => z.2 h7)], rfl, rfl⟩
    · refine mg_iconst K (v := 1) md_A_isSubject_10 (by decide) ?_
      refine mg_goto K 15 md_A_isSubject_11 rfl ?_
      exact mg_zret K hret hlk md_A_isSubject_15 (by decide) (Nat.le_refl _) (Nat.le_refl _) ⟨by rw [if_pos ⟨h1, h7⟩], rfl, rfl⟩
theorem ct_A_isFunction (x : Int32) : mr_MS l my_A_isFunction mc_A_isFunction 1 (some .boolean) 1 D mn_cl Z mb_B tys [.int x] (some (.int (if ¬ x < 0 ∧ ¬ 5 ≤ x then 1 else 0))) := by
  intro ad C
  refine mg_M.of (cc := mc_A_isFunction) (maxL := 1) (ret := (some .boolean)) (by decide) rfl (Nat.le_of_ble_eq_true rfl) (mg_caS rfl mg_ca0) ?_
  intro p e s m args below meth c K hret hlk hnm hA
  refine mg_iload_n K md_A_isFunction_0 rfl ?_
  refine mg_if_lt K 13 md_A_isFunction_1 rfl (fun h1 => ?_) (fun h1 => ?_)
  · refine mg_iconst K (v := 0) md_A_isFunction_13 (by decide) ?_
    exact mg_zret K hret hlk md_A_isFunction_14 (by decide) (Nat.le_refl _) (Nat.le_refl _) ⟨by rw [if_neg (fun z => z.1 h1)], rfl, rfl⟩
  · refine mg_iload_n K md_A_isFunction_4 rfl ?_
    refine mg_iconst K (v := 5) md_A_isFunction_5 (by decide) ?_
    refine mg_icmp_ge K 13 md_A_isFunction_6 rfl (fun h6 => ?_) (fun h6 => ?_)
    · refine mg_iconst K (v := 0) md_A_isFunction_13 (by decide) ?_
      exact mg_zret K hret hlk md_A_isFunction_14 (by decide) (Nat.le_refl _) (Nat.le_refl _) ⟨by rw [if_neg (fun z => z.2 h6)], rfl, rfl⟩
    · refine mg_iconst K (v := 1) md_A_isFunction_9 (by decide) ?_
      refine mg_goto K 14 md_A_isFunction_10 rfl ?_
      exact mg_zret K hret hlk md_A_isFunction_14 (by decide) (Nat.le_refl _) (Nat.le_refl _) ⟨by rw [if_pos ⟨h1, h6⟩], rfl, rfl⟩
theorem ct_A_isNumber (x : Int32) : mr_MS l my_A_isNumber mc_A_isNumber 1 (some .boolean) 1 D mn_cl Z mb_B tys [.int x] (some (.int (if ¬ x < 1 ∧ ¬ 24 < x then 1 else 0))) := by
  intro ad C
  refine mg_M.of (cc := mc_A_isNumber) (maxL := 1) (ret := (some .boolean)) (by decide) rfl (Nat.le_of_ble_eq_true rfl) (mg_caS rfl mg_ca0) ?_
  intro p e s m args below meth c K hret hlk hnm hA
  refine mg_iload_n K md_A_isNumber_0 rfl ?_
  refine mg_iconst K (v := 1) md_A_isNumber_1 (by decide) ?_
  refine mg_icmp_lt K 15 md_A_isNumber_2 rfl (fun h2 => ?_) (fun h2 => ?_)
  · refine mg_iconst K (v := 0) md_A_isNumber_15 (by decide) ?_
    exact mg_zret K hret hlk md_A_isNumber_16 (by decide) (Nat.le_refl _) (Nat.le_refl _) ⟨by rw [if_neg (fun z => z.1 h2)], rfl, rfl⟩
  · refine mg_iload_n K md_A_isNumber_5 rfl ?_
    refine mg_bipush K (v := 24) md_A_isNumber_6 (by decide) ?_
    refine mg_icmp_gt K 15 md_A_isNumber_8 rfl (fun h8 => ?_) (fun h8 => ?_)
    · refine mg_iconst K (v := 0) md_A_isNumber_15 (by decide) ?_
      exact mg_zret K hret hlk md_A_isNumber_16 (by decide) (Nat.le_refl _) (Nat.le_refl _) ⟨by rw [if_neg (fun z => z.2 h8)], rfl, rfl⟩
    · refine mg_iconst K (v := 1) md_A_isNumber_11 (by decide) ?_
      refine mg_goto K 16 md_A_isNumber_12 rfl ?_
      exact mg_zret K hret hlk md_A_isNumber_16 (by decide) (Nat.le_refl _) (Nat.le_refl _) ⟨by rw [if_pos ⟨h2, h8⟩], rfl, rfl⟩
theorem ct_A_isWithin (x y : Int32) : mr_MS l my_A_isWithin mc_A_isWithin 2 (some .boolean) 1 D mn_cl Z mb_B tys [.int x, .int y] (some (.int (if ¬ x < -y ∧ ¬ y < x then 1 else 0))) := by
  intro ad C
  refine mg_M.of (cc := mc_A_isWithin) (maxL := 2) (ret := (some .boolean)) (by decide) rfl (Nat.le_of_ble_eq_true rfl) (mg_caS rfl (mg_caS rfl mg_ca0)) ?_
  intro p e s m args below meth c K hret hlk hnm hA
  refine mg_iload_n K md_A_isWithin_0 rfl ?_
  refine mg_iload_n K md_A_isWithin_1 rfl ?_
  refine mg_ineg K md_A_isWithin_2 ?_
  refine mg_icmp_lt K 15 md_A_isWithin_3 rfl (fun h3 => ?_) (fun h3 => ?_)
  · refine mg_iconst K (v := 0) md_A_isWithin_15 (by decide) ?_
    exact mg_zret K hret hlk md_A_isWithin_16 (by decide) (Nat.le_refl _) (Nat.le_refl _) ⟨by rw [if_neg (fun z => z.1 h3)], rfl, rfl⟩
  · refine mg_iload_n K md_A_isWithin_6 rfl ?_
    refine mg_iload_n K md_A_isWithin_7 rfl ?_
    refine mg_icmp_gt K 15 md_A_isWithin_8 rfl (fun h8 => ?_) (fun h8 => ?_)
    · refine mg_iconst K (v := 0) md_A_isWithin_15 (by decide) ?_
      exact mg_zret K hret hlk md_A_isWithin_16 (by decide) (Nat.le_refl _) (Nat.le_refl _) ⟨by rw [if_neg (fun z => z.2 h8)], rfl, rfl⟩
    · refine mg_iconst K (v := 1) md_A_isWithin_11 (by decide) ?_
      refine mg_goto K 16 md_A_isWithin_12 rfl ?_
      exact mg_zret K hret hlk md_A_isWithin_16 (by decide) (Nat.le_refl _) (Nat.le_refl _) ⟨by rw [if_pos ⟨h3, h8⟩], rfl, rfl⟩
end CS1
