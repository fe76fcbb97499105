/-! the class beside the reference: what a turn comes to -/
def vdR (F st : Int32) (c m12 : Bool) : Int32 := if F = 0 ∨ F = 3 then (if F = 0 ∧ (st = 1 ∨ st = 2) then 1 else 0) else if ¬ st = 1 then (if st = 2 then 2 else if st = 3 then 3 else if m12 = true then 5 else 0) else if F = 2 ∧ c = true then 4 else 0
def vdO (st : Int32) (l12 : Bool) : Int32 := if st = 0 then (if l12 = true then -1 else 5) else if st = 2 then 2 else if st = 3 then 3 else 0
def vdV (F st : Int32) (i l12 : Bool) : Int32 := if F = 0 then (if st = 0 ∨ st = 3 then 0 else 1) else if F = 2 then (if st = 1 ∧ i = false then 4 else vdO st l12) else if F = 1 ∨ F = 4 then vdO st l12 else 0
theorem vd_main {F st : Int32} (hF : F = 0 ∨ F = 1 ∨ F = 2 ∨ F = 3 ∨ F = 4) (hs : st = 0 ∨ st = 1 ∨ st = 2 ∨ st = 3) (c m12 l12 : Bool) (hl : st = 0 → l12 = !m12) : (¬ vdR F st c m12 ≤ 0 → vdV F st (!c) l12 = vdR F st c m12) ∧ (vdR F st c m12 ≤ 0 → (¬ F = 0 ∧ ¬ F = 3 ∧ st = 0) → vdV F st (!c) l12 = -1 ∧ l12 = true) ∧ (vdR F st c m12 ≤ 0 → ¬ (¬ F = 0 ∧ ¬ F = 3 ∧ st = 0) → vdV F st (!c) l12 = 0) := by
  rcases hs with rfl | rfl | rfl | rfl
  · have := hl rfl
    subst this
    rcases hF with rfl | rfl | rfl | rfl | rfl <;> revert c m12 <;> decide
  · clear hl
    rcases hF with rfl | rfl | rfl | rfl | rfl <;> revert c m12 l12 <;> decide
  · clear hl
    rcases hF with rfl | rfl | rfl | rfl | rfl <;> revert c m12 l12 <;> decide
  · clear hl
    rcases hF with rfl | rfl | rfl | rfl | rfl <;> revert c m12 l12 <;> decide
theorem sm_F5 {n : Nat} (h : n < 5) : Int32.ofNat n = 0 ∨ Int32.ofNat n = 1 ∨ Int32.ofNat n = 2 ∨ Int32.ofNat n = 3 ∨ Int32.ofNat n = 4 := by
  match n, h with
  | 0, _ => exact Or.inl rfl
  | 1, _ => exact Or.inr (Or.inl rfl)
  | 2, _ => exact Or.inr (Or.inr (Or.inl rfl))
  | 3, _ => exact Or.inr (Or.inr (Or.inr (Or.inl rfl)))
  | 4, _ => exact Or.inr (Or.inr (Or.inr (Or.inr rfl)))
  | _ + 5, h => exact absurd h (by omega)
theorem rb_rule_vd (h : rb_S) (m : Nat) : rb_rule h m = vdR (Int32.ofNat (rb_fn h m)) (h 21 (rb_sub h m)) (decide (¬ (¬ h 22 (rb_sub h m) + h 28 m < -1000000 ∧ ¬ 1000000 < h 22 (rb_sub h m) + h 28 m))) (decide (Int32.ofNat (rb_many h 3) = 12)) := by
  unfold rb_rule vdR
  simp only [decide_eq_true_eq]
theorem ca_vd_vd (g : ca_S) (j : Nat) : ca_vd g j = vdV (ca_iv g 10 j 1) (ca_iv g 7 (ca_ms g j) 0) (ca_in (ca_iv g 7 (ca_ms g j) 1 + ca_iv g 10 j 3) 1000000) (decide ((ca_ln g 2).length < 12)) := by
  unfold ca_vd vdV ca_vo vdO
  simp only [decide_eq_true_eq]
/-- the two verdicts -/
theorem sm_vd {g : ca_S} {h : rb_S} {A D W F : List Nat} {m j : Nat} (S : sm_S g h A D W F (some m)) (hm : m < 96) (ht : sm_tb g m = some j) (hst : sm_may h m) :
    (¬ rb_rule h m ≤ 0 → ca_vd g j = rb_rule h m) ∧ (rb_rule h m ≤ 0 → (¬ Int32.ofNat (rb_fn h m) = 0 ∧ ¬ Int32.ofNat (rb_fn h m) = 3 ∧ h 21 (rb_sub h m) = 0) → ca_vd g j = -1 ∧ W.length < 12) ∧ (rb_rule h m ≤ 0 → ¬ (¬ Int32.ofNat (rb_fn h m) = 0 ∧ ¬ Int32.ofNat (rb_fn h m) = 3 ∧ h 21 (rb_sub h m) = 0) → ca_vd g j = 0) := by
  obtain ⟨I, ⟨L0, L1, L2, L3⟩, LA, LD, LW, LF, Ls, Ll⟩ := S
  obtain ⟨v24, v26, v27, v28, -, -, -⟩ := sm_val I.1 hm ht
  have hms := (sm_ms I hm ht).1
  have ho := I.2.2.2.2.2.2.1
  have J := I.2.2.2.2.2.2.2
  have hr := ho.1 m hm
  obtain ⟨s0, s1, -, -⟩ := sm_sv I.1 (u := rb_sub h m) (by omega)
  have hlen : (ca_ln g 2).length = W.length := by rw [L2, List.length_map]
  have hIn : ca_in (h 22 (rb_sub h m) + h 28 m) 1000000 = !decide (¬ (¬ h 22 (rb_sub h m) + h 28 m < -1000000 ∧ ¬ 1000000 < h 22 (rb_sub h m) + h 28 m)) := by
    unfold ca_in
    generalize h 22 (rb_sub h m) + h 28 m = z
    have e1 : (-1000000 ≤ z) = ¬ z < -1000000 := propext Int32.not_lt.symm
    have e2 : (z ≤ 1000000) = ¬ 1000000 < z := propext Int32.not_lt.symm
    simp only [e1, e2]
    by_cases a : z < -1000000 <;> by_cases b : 1000000 < z <;> simp [a, b]
  have eV : ca_vd g j = vdV (Int32.ofNat (rb_fn h m)) (h 21 (rb_sub h m)) (!decide (¬ (¬ h 22 (rb_sub h m) + h 28 m < -1000000 ∧ ¬ 1000000 < h 22 (rb_sub h m) + h 28 m))) (decide (W.length < 12)) := by
    rw [ca_vd_vd, hms, s0, s1, ← v26, ← v28, hlen, hIn, ← hr.2.1]
  have key := vd_main (sm_F5 hr.2.2) (J.1 (rb_sub h m) hr.1.2) (decide (¬ (¬ h 22 (rb_sub h m) + h 28 m < -1000000 ∧ ¬ 1000000 < h 22 (rb_sub h m) + h 28 m))) (decide (Int32.ofNat (rb_many h 3) = 12)) (decide (W.length < 12)) (fun hz => by
    have h3 : ¬ h 29 m = 3 := fun q => by
      rcases hst with z | ⟨-, z⟩ | z
      · rw [q] at z; exact absurd z (by decide)
      · exact z hz
      · rw [q] at z; exact absurd z (by decide)
    have hcnt : W.length = rb_many h 3 := by
      have := LW.2.2
      rw [show sm_xc h 3 (some m) = 0 from if_neg h3, Nat.add_zero] at this
      rw [this, rb_many_cp]
    rw [← hcnt]
    by_cases hL : W.length < 12
    · rw [decide_eq_true hL, decide_eq_false (fun z => by have := mi_inj (a := W.length) (b := 12) (by omega) (by omega) z; omega)]
      rfl
    · rw [decide_eq_false hL, decide_eq_true (show Int32.ofNat W.length = 12 by rw [show W.length = 12 by omega]; rfl)]
      rfl)
  rw [← rb_rule_vd, ← eV] at key
  exact ⟨key.1, fun a b => ⟨(key.2.1 a b).1, of_decide_eq_true (key.2.1 a b).2⟩, key.2.2⟩
theorem ca_app_lt {g : ca_S} {x j : Nat} (h : (ca_ln g x).length < 96) : ca_app g x j = ca_sn g x (ca_ln g x ++ [j]) := if_pos h
theorem sm_settle {g : ca_S} {h : rb_S} {A D W F : List Nat} {m j : Nat} (S : sm_S g h A D W F (some m)) (hm : m < 96) (ht : sm_tb g m = some j) (hst : sm_may h m) :
    sm_S (ca_settle g j (decide (¬ h 33 m = 0))) (rb_dec h m).1 (if rb_ns h m = 1 then A ++ [m] else A) (if rb_ns h m = 5 then D ++ [m] else D) (if rb_ns h m = 3 then W ++ [m] else W) (if rb_ns h m = 4 then F ++ [m] else F) none := by
  have S0 := S
  obtain ⟨⟨I1, I2, I3, I4, I5, I6, I7, I8⟩, ⟨L0, L1, L2, L3⟩, LA, LD, LW, LF, Ls, Ll⟩ := S
  obtain ⟨v24, v26, v27, v28, v29, v30, v31⟩ := sm_val I1 hm ht
  obtain ⟨hms, hj⟩ := sm_ms S0.1 hm ht
  have hr := I7.1 m hm
  obtain ⟨vd1, vd2, vd3⟩ := sm_vd S0 hm ht hst
  have hc : ¬ h 24 m = 0 := by rw [v24]; decide
  have hs1 : ¬ h 29 m = 1 := by rcases hst with q | ⟨q, -⟩ | q <;> rw [q] <;> decide
  have hs2 : ¬ h 29 m = 2 := by rcases hst with q | ⟨q, -⟩ | q <;> rw [q] <;> decide
  have hs5 : ¬ h 29 m = 5 := by rcases hst with q | ⟨q, -⟩ | q <;> rw [q] <;> decide
  obtain ⟨c1, c5⟩ := I7.cnt hm hs1 hs5
  have hto := ca_to.settle I6 (decide (¬ h 33 m = 0)) hj
  have h30 : h 30 m = 0 := I8.2.2.2.1 m hm hs1 hs2
  have lenA : (ca_ln g 0).length < 96 := by rw [L0, List.length_map, LA.1]; exact c1
  have lenD : (ca_ln g 1).length < 96 := by rw [L1, List.length_map, LD.1]; exact c5
  have lenW : (ca_ln g 2).length < 96 := by rw [L2, List.length_map]; omega
  have lenF : h 33 m = 0 → (ca_ln g 3).length < 96 := fun h33 => by
    rw [L3, List.length_map]
    have h4 : ¬ h 29 m = 4 := fun z => (I8.2.1 m hm hc z).1 h33
    have := LF.2.2
    rw [show sm_xc h 4 (some m) = 0 from if_neg h4, Nat.add_zero] at this
    rw [this]
    exact cp_l96 hm (decide_eq_false (fun z => h4 z.2))
  have fnE : (ca_iv g 10 j 1).toNatClampNeg = rb_fn h m := by rw [← v26]; rfl
  have f5 := hr.2.2
  have eFl : ca_iv g 3 0 (rb_fn h m) = h 35 (rb_fn h m) := (sm_sv I1 (u := rb_fn h m) (by omega)).2.2.2
  by_cases h1 : ¬ rb_rule h m ≤ 0
  · -- refused
    have e : rb_dec h m = (mg_u (mg_u h 29 m 2) 30 m (-rb_rule h m), -rb_rule h m) := if_pos h1
    have n : rb_ns h m = 2 := if_pos h1
    have ev := vd1 h1
    have eS : ca_settle g j (decide (¬ h 33 m = 0)) = ca_si (ca_si g 10 j 4 2) 10 j 5 (-rb_rule h m) := by
      unfold ca_settle
      rw [ev, if_neg (fun z => h1 (by rw [z]; decide)), if_pos (fun z => h1 (by rw [z]; decide))]
    rw [eS] at hto ⊢
    refine sm_tr S0 hm ht hst hto ?_ ?_ ?_ ?_ ?_ ?_ ?_ (fun j2 => ?_) ?_
    · rw [e]; exact (I1.m I4 hm ht 4 2 (Or.inl rfl)).m (g := ca_si g 10 j 4 2) I4 hm ht 5 _ (Or.inr (Or.inl rfl))
    · rw [ca_iv_n _ _ _ _ _ (by omega), ca_iv_n _ _ _ _ _ (by omega)]
    · rw [ca_iv_n _ _ _ _ _ (by omega), ca_iv_n _ _ _ _ _ (by omega)]
    · rw [n, if_neg (by decide)]; rfl
    · rw [n, if_neg (by decide)]; rfl
    · rw [n, if_neg (by decide)]; rfl
    · rw [n, if_neg (by decide)]; rfl
    · rw [n, if_neg (fun z => absurd z.2 (by decide)), ca_iv_n _ _ _ _ _ (by omega), ca_iv_n _ _ _ _ _ (by omega)]
    · rw [n]; intro z; exact absurd z (by decide)
  have h1' : rb_rule h m ≤ 0 := Classical.byContradiction h1
  by_cases h2 : ¬ Int32.ofNat (rb_fn h m) = 0 ∧ ¬ Int32.ofNat (rb_fn h m) = 3 ∧ h 21 (rb_sub h m) = 0
  · -- waits
    have e : rb_dec h m = (mg_u (mg_u (mg_u (mg_u h 29 m 3) 32 m (h 20 1)) 34 m (h 20 16)) 20 16 (h 20 16 + 1), 4) := (if_neg h1).trans (if_pos h2)
    have n : rb_ns h m = 3 := (if_neg h1).trans (if_pos h2)
    obtain ⟨ev, el⟩ := vd2 h1' h2
    have eS : ca_settle g j (decide (¬ h 33 m = 0)) = ca_sn (ca_si (ca_si g 10 j 4 3) 10 j 7 (ca_iv g 0 0 7)) 2 (ca_ln g 2 ++ [j]) := by
      unfold ca_settle
      rw [ev, if_pos rfl]
      exact ca_app_lt (g := ca_si (ca_si g 10 j 4 3) 10 j 7 (ca_iv g 0 0 7)) (x := 2) lenW
    rw [eS] at hto ⊢
    refine sm_tr S0 hm ht hst hto ?_ ?_ ?_ ?_ ?_ ?_ ?_ (fun j2 => ?_) (fun _ => el)
    · rw [e]
      exact ((((I1.m I4 hm ht 4 3 (Or.inl rfl)).w j (ca_iv g 0 0 7)).s 32 m (h 20 1) (by omega)).s 34 m (h 20 16) (by omega)).s 20 16 (h 20 16 + 1) (by omega)
    · show ca_iv (ca_si (ca_si g 10 j 4 3) 10 j 7 (ca_iv g 0 0 7)) 0 0 7 = _
      rw [ca_iv_n _ _ _ _ _ (by omega), ca_iv_n _ _ _ _ _ (by omega)]
    · show ca_iv (ca_si (ca_si g 10 j 4 3) 10 j 7 (ca_iv g 0 0 7)) 0 0 8 = _
      rw [ca_iv_n _ _ _ _ _ (by omega), ca_iv_n _ _ _ _ _ (by omega)]
    · rw [n, if_neg (by decide), ca_ln_n _ _ _ (by decide)]; rfl
    · rw [n, if_neg (by decide), ca_ln_n _ _ _ (by decide)]; rfl
    · rw [n, if_pos rfl, ca_ln_s]
    · rw [n, if_neg (by decide), ca_ln_n _ _ _ (by decide)]; rfl
    · show ca_iv (ca_si (ca_si g 10 j 4 3) 10 j 7 (ca_iv g 0 0 7)) 10 j2 7 = _
      by_cases hq : j2 = j
      · subst hq
        rw [ca_iv_s, if_pos ⟨rfl, n⟩]
      · rw [if_neg (fun z => hq z.1), ca_iv_n _ _ _ _ _ (by omega), ca_iv_n _ _ _ _ _ (by omega)]
  have ev := vd3 h1' h2
  have eB : ca_settle g j (decide (¬ h 33 m = 0)) = if ¬ h 35 (rb_fn h m) = 0 then ca_fail (ca_si g 3 0 (rb_fn h m) 0) j (decide (¬ h 33 m = 0)) else ca_perf g j := by
    unfold ca_settle
    rw [ev, if_neg (by decide), if_neg (fun z => z rfl), fnE, eFl]
  by_cases h3 : ¬ h 35 (rb_fn h m) = 0
  · by_cases h4 : h 33 m = 0
    · -- fails
      have e : rb_dec h m = (mg_u (mg_u (mg_u (mg_u (mg_u h 35 (rb_fn h m) 0) 29 m 4) 33 m 1) 34 m (h 20 16)) 20 16 (h 20 16 + 1), 5) := (if_neg h1).trans ((if_neg h2).trans ((if_pos h3).trans (by unfold rb_fails; rw [if_pos h4])))
      have n : rb_ns h m = 4 := (if_neg h1).trans ((if_neg h2).trans ((if_pos h3).trans (if_pos h4)))
      have eS : ca_settle g j (decide (¬ h 33 m = 0)) = ca_sn (ca_si (ca_si g 3 0 (rb_fn h m) 0) 10 j 4 4) 3 (ca_ln g 3 ++ [j]) := by
        rw [eB, if_pos h3, decide_eq_false (fun z => z h4)]
        unfold ca_fail
        exact ca_app_lt (g := ca_si (ca_si g 3 0 (rb_fn h m) 0) 10 j 4 4) (x := 3) (lenF h4)
      rw [eS] at hto ⊢
      refine sm_tr S0 hm ht hst hto ?_ ?_ ?_ ?_ ?_ ?_ ?_ (fun j2 => ?_) ?_
      · rw [e]
        exact ((((I1.F (rb_fn h m) 0).m (g := ca_si g 3 0 (rb_fn h m) 0) I4 hm ht 4 4 (Or.inl rfl)).s 33 m 1 (by omega)).s 34 m (h 20 16) (by omega)).s 20 16 (h 20 16 + 1) (by omega)
      · show ca_iv (ca_si (ca_si g 3 0 (rb_fn h m) 0) 10 j 4 4) 0 0 7 = _
        rw [ca_iv_n _ _ _ _ _ (by omega), ca_iv_n _ _ _ _ _ (by omega)]
      · show ca_iv (ca_si (ca_si g 3 0 (rb_fn h m) 0) 10 j 4 4) 0 0 8 = _
        rw [ca_iv_n _ _ _ _ _ (by omega), ca_iv_n _ _ _ _ _ (by omega)]
      · rw [n, if_neg (by decide), ca_ln_n _ _ _ (by decide)]; rfl
      · rw [n, if_neg (by decide), ca_ln_n _ _ _ (by decide)]; rfl
      · rw [n, if_neg (by decide), ca_ln_n _ _ _ (by decide)]; rfl
      · rw [n, if_pos rfl, ca_ln_s]
      · show ca_iv (ca_si (ca_si g 3 0 (rb_fn h m) 0) 10 j 4 4) 10 j2 7 = _
        rw [n, if_neg (fun z => absurd z.2 (by decide)), ca_iv_n _ _ _ _ _ (by omega), ca_iv_n _ _ _ _ _ (by omega)]
      · rw [n]; intro z; exact absurd z (by decide)
    · -- fails again
      have e : rb_dec h m = (mg_u (mg_u (mg_u (mg_u (mg_u (mg_u (mg_u h 35 (rb_fn h m) 0) 29 m 5) 37 (h 20 20).toNatClampNeg (Int32.ofNat m)) 20 20 (h 20 20 + 1)) 33 m 1) 34 m (h 20 16)) 20 16 (h 20 16 + 1), 5) := (if_neg h1).trans ((if_neg h2).trans ((if_pos h3).trans (by unfold rb_fails; rw [if_neg h4])))
      have n : rb_ns h m = 5 := (if_neg h1).trans ((if_neg h2).trans ((if_pos h3).trans (if_neg h4)))
      have eS : ca_settle g j (decide (¬ h 33 m = 0)) = ca_sn (ca_si (ca_si g 3 0 (rb_fn h m) 0) 10 j 4 5) 1 (ca_ln g 1 ++ [j]) := by
        rw [eB, if_pos h3, decide_eq_true h4]
        unfold ca_fail
        exact ca_app_lt (g := ca_si (ca_si g 3 0 (rb_fn h m) 0) 10 j 4 5) (x := 1) lenD
      rw [eS] at hto ⊢
      refine sm_tr S0 hm ht hst hto ?_ ?_ ?_ ?_ ?_ ?_ ?_ (fun j2 => ?_) ?_
      · rw [e]
        exact ((((((I1.F (rb_fn h m) 0).m (g := ca_si g 3 0 (rb_fn h m) 0) I4 hm ht 4 5 (Or.inl rfl)).s 37 _ _ (by omega)).s 20 20 _ (by omega)).s 33 m 1 (by omega)).s 34 m (h 20 16) (by omega)).s 20 16 (h 20 16 + 1) (by omega)
      · show ca_iv (ca_si (ca_si g 3 0 (rb_fn h m) 0) 10 j 4 5) 0 0 7 = _
        rw [ca_iv_n _ _ _ _ _ (by omega), ca_iv_n _ _ _ _ _ (by omega)]
      · show ca_iv (ca_si (ca_si g 3 0 (rb_fn h m) 0) 10 j 4 5) 0 0 8 = _
        rw [ca_iv_n _ _ _ _ _ (by omega), ca_iv_n _ _ _ _ _ (by omega)]
      · rw [n, if_neg (by decide), ca_ln_n _ _ _ (by decide)]; rfl
      · rw [n, if_pos rfl, ca_ln_s]
      · rw [n, if_neg (by decide), ca_ln_n _ _ _ (by decide)]; rfl
      · rw [n, if_neg (by decide), ca_ln_n _ _ _ (by decide)]; rfl
      · show ca_iv (ca_si (ca_si g 3 0 (rb_fn h m) 0) 10 j 4 5) 10 j2 7 = _
        rw [n, if_neg (fun z => absurd z.2 (by decide)), ca_iv_n _ _ _ _ _ (by omega), ca_iv_n _ _ _ _ _ (by omega)]
      · rw [n]; intro z; exact absurd z (by decide)
  · -- acts
    have e : rb_dec h m = (rb_acts h m, 1) := (if_neg h1).trans ((if_neg h2).trans (if_neg h3))
    have n : rb_ns h m = 1 := (if_neg h1).trans ((if_neg h2).trans (if_neg h3))
    have hu96 : rb_sub h m < 96 := by have := hr.1.2; omega
    obtain ⟨s0, s1, s2, -⟩ := sm_sv I1 hu96
    -- the class's own act
    have hA : sm_ag (sm_ab (ca_act g j)) (mg_u (mg_u (mg_u h 30 m (rb_x1 h m)) 22 (rb_sub h m) (rb_x2 h m)) 21 (rb_sub h m) (rb_x3 h m)) ∧ (∀ x, ca_ln (ca_act g j) x = ca_ln g x) ∧ sm_tb (ca_act g j) = sm_tb g ∧ (∀ f, ca_iv (ca_act g j) 0 0 f = ca_iv g 0 0 f) ∧ (∀ j2, ca_iv (ca_act g j) 10 j2 7 = ca_iv g 10 j2 7) ∧ ca_iv (ca_act g j) 7 (rb_sub h m) 2 = h 23 (rb_sub h m) := by
      unfold ca_act
      rw [hms, ← v26, hr.2.1, ← v28, s0, s1]
      unfold rb_x1 rb_x2 rb_x3
      rcases sm_F5 f5 with q | q | q | q | q
      · rw [q, if_pos rfl, if_neg (by decide), if_pos (Or.inl rfl), if_pos rfl]
        refine ⟨?_, fun _ => rfl, rfl, fun f => ?_, fun j2 => ?_, ?_⟩
        · rw [mg_u_cm _ _ _ _ _ (by decide)]
          exact (((I1.i (i := 30) (j := m) (v := 0) h30).S (rb_sub h m) 0 1 (by decide))).S (rb_sub h m) 1 (h 28 m) (by decide)
        · rw [ca_iv_n _ _ _ _ _ (by omega), ca_iv_n _ _ _ _ _ (by omega)]
        · rw [ca_iv_n _ _ _ _ _ (by omega), ca_iv_n _ _ _ _ _ (by omega)]
        · rw [ca_iv_n _ _ _ _ _ (by omega), ca_iv_n _ _ _ _ _ (by omega)]; exact s2
      · rw [q, if_neg (by decide), if_pos rfl, if_neg (by decide), if_pos (Or.inr rfl), if_neg (by decide), if_neg (by decide)]
        refine ⟨?_, fun _ => rfl, rfl, fun f => ?_, fun j2 => ?_, ?_⟩
        · exact ((I1.i (i := 30) (j := m) (v := 0) h30).S (rb_sub h m) 1 (h 28 m) (by decide)).i rfl
        · rw [ca_iv_n _ _ _ _ _ (by omega)]
        · rw [ca_iv_n _ _ _ _ _ (by omega)]
        · rw [ca_iv_n _ _ _ _ _ (by omega)]; exact s2
      · rw [q, if_neg (by decide), if_neg (by decide), if_pos rfl, if_neg (by decide), if_neg (by decide), if_pos rfl, if_neg (by decide), if_neg (by decide)]
        refine ⟨?_, fun _ => rfl, rfl, fun f => ?_, fun j2 => ?_, ?_⟩
        · exact ((I1.i (i := 30) (j := m) (v := 0) h30).S (rb_sub h m) 1 (h 22 (rb_sub h m) + h 28 m) (by decide)).i rfl
        · rw [ca_iv_n _ _ _ _ _ (by omega)]
        · rw [ca_iv_n _ _ _ _ _ (by omega)]
        · rw [ca_iv_n _ _ _ _ _ (by omega)]; exact s2
      · rw [q, if_neg (by decide), if_neg (by decide), if_neg (by decide), if_neg (by decide), if_pos rfl, if_neg (by decide), if_neg (by decide), if_neg (by decide), if_neg (by decide)]
        refine ⟨?_, fun _ => rfl, rfl, fun f => ?_, fun j2 => ?_, ?_⟩
        · exact ((I1.m I4 hm ht 5 (10 * h 22 (rb_sub h m) + h 21 (rb_sub h m)) (Or.inr (Or.inl rfl))).i rfl).i rfl
        · rw [ca_iv_n _ _ _ _ _ (by omega)]
        · rw [ca_iv_n _ _ _ _ _ (by omega)]
        · rw [ca_iv_n _ _ _ _ _ (by omega)]; exact s2
      · rw [q, if_neg (by decide), if_neg (by decide), if_neg (by decide), if_pos rfl, if_neg (by decide), if_neg (by decide), if_neg (by decide), if_neg (by decide), if_pos rfl]
        refine ⟨?_, fun _ => rfl, rfl, fun f => ?_, fun j2 => ?_, ?_⟩
        · exact ((I1.i (i := 30) (j := m) (v := 0) h30).i rfl).S (rb_sub h m) 0 3 (by decide)
        · rw [ca_iv_n _ _ _ _ _ (by omega)]
        · rw [ca_iv_n _ _ _ _ _ (by omega)]
        · rw [ca_iv_n _ _ _ _ _ (by omega)]; exact s2
    obtain ⟨a1, a2, a3, a4, a5, a6⟩ := hA
    have eS : ca_settle g j (decide (¬ h 33 m = 0)) = ca_sn (ca_si (ca_si (ca_act g j) 7 (rb_sub h m) 2 (h 23 (rb_sub h m) + 1)) 10 j 4 1) 0 (ca_ln g 0 ++ [j]) := by
      rw [eB, if_neg h3]
      unfold ca_perf
      simp only
      rw [hms, a6]
      have hl : ca_ln (ca_si (ca_si (ca_act g j) 7 (rb_sub h m) 2 (h 23 (rb_sub h m) + 1)) 10 j 4 1) 0 = ca_ln g 0 := a2 0
      rw [ca_app_lt (by rw [hl]; exact lenA), hl]
    rw [eS] at hto ⊢
    have i2 : sm_inj (ca_si (ca_act g j) 7 (rb_sub h m) 2 (h 23 (rb_sub h m) + 1)) := fun a b c ha hb => by
      show sm_tb (ca_act g j) a = some c → sm_tb (ca_act g j) b = some c → a = b
      rw [a3]
      exact I4 a b c ha hb
    have t2 : sm_tb (ca_si (ca_act g j) 7 (rb_sub h m) 2 (h 23 (rb_sub h m) + 1)) m = some j := by
      show sm_tb (ca_act g j) m = some j
      rw [a3]; exact ht
    refine sm_tr S0 hm ht hst hto ?_ ?_ ?_ ?_ ?_ ?_ ?_ (fun j2 => ?_) ?_
    · rw [e]
      exact (((a1.S (rb_sub h m) 2 (h 23 (rb_sub h m) + 1) (by decide)).m i2 hm t2 4 1 (Or.inl rfl)).s 36 _ _ (by omega)).s 20 18 _ (by omega)
    · show ca_iv (ca_si (ca_si (ca_act g j) 7 (rb_sub h m) 2 (h 23 (rb_sub h m) + 1)) 10 j 4 1) 0 0 7 = _
      rw [ca_iv_n _ _ _ _ _ (by omega), ca_iv_n _ _ _ _ _ (by omega), a4]
    · show ca_iv (ca_si (ca_si (ca_act g j) 7 (rb_sub h m) 2 (h 23 (rb_sub h m) + 1)) 10 j 4 1) 0 0 8 = _
      rw [ca_iv_n _ _ _ _ _ (by omega), ca_iv_n _ _ _ _ _ (by omega), a4]
    · rw [n, if_pos rfl, ca_ln_s]
    · rw [n, if_neg (by decide), ca_ln_n _ _ _ (by decide)]; exact a2 1
    · rw [n, if_neg (by decide), ca_ln_n _ _ _ (by decide)]; exact a2 2
    · rw [n, if_neg (by decide), ca_ln_n _ _ _ (by decide)]; exact a2 3
    · show ca_iv (ca_si (ca_si (ca_act g j) 7 (rb_sub h m) 2 (h 23 (rb_sub h m) + 1)) 10 j 4 1) 10 j2 7 = _
      rw [n, if_neg (fun z => absurd z.2 (by decide)), ca_iv_n _ _ _ _ _ (by omega), ca_iv_n _ _ _ _ _ (by omega), a5]
    · rw [n]; intro z; exact absurd z (by decide)
