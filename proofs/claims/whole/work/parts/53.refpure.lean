/-! the reference: counting, what a turn keeps -/
theorem cp_upd {p p' : Nat → Bool} {m : Nat} (hh : ∀ x, x ≠ m → p' x = p x) : ∀ (f k : Nat), k ≤ m → m < k + f → (List.range' k f).countP p' + (if p m then 1 else 0) = (List.range' k f).countP p + (if p' m then 1 else 0)
  | 0, k, h1, h2 => by omega
  | f + 1, k, h1, h2 => by
    rw [List.range'_succ, List.countP_cons, List.countP_cons]
    by_cases hk : k = m
    · subst hk
      have e : (List.range' (k + 1) f).countP p' = (List.range' (k + 1) f).countP p := by
        refine List.countP_congr (fun x hx => ?_)
        have := (List.mem_range'_1.mp hx).1
        rw [hh x (by omega)]
      rw [e]
      omega
    · rw [hh k hk]
      have := cp_upd hh f (k + 1) (by omega) (by omega)
      omega
theorem cp_lt {p : Nat → Bool} {m : Nat} (f k : Nat) (h1 : k ≤ m) (h2 : m < k + f) (hp : p m = false) : (List.range' k f).countP p < f := by
  have h := cp_upd (p := p) (p' := fun x => if x = m then true else p x) (m := m) (fun x hx => if_neg hx) f k h1 h2
  have hl : (List.range' k f).countP (fun x => if x = m then true else p x) ≤ f := by
    have := List.countP_le_length (p := fun x => if x = m then true else p x) (l := List.range' k f)
    rwa [List.length_range'] at this
  have e2 : (if (if m = m then true else p m) = true then 1 else 0) = 1 := by rw [if_pos rfl, if_pos rfl]
  have h3 : (List.range' k f).countP (fun x => if x = m then true else p x) + (if p m = true then 1 else 0) = (List.range' k f).countP p + 1 := h.trans (congrArg _ e2)
  rw [hp] at h3
  have e0 : (if false = true then 1 else 0) = 0 := rfl
  rw [e0] at h3
  omega
def cp (p : Nat → Bool) : Nat := (List.range' 0 96).countP p
theorem cp_le (p : Nat → Bool) : cp p ≤ 96 := by
  have := List.countP_le_length (p := p) (l := List.range' 0 96)
  rwa [List.length_range'] at this
theorem cp_set {p p' : Nat → Bool} {m : Nat} (hm : m < 96) (hh : ∀ x, x ≠ m → p' x = p x) : cp p' + (if p m then 1 else 0) = cp p + (if p' m then 1 else 0) := cp_upd hh 96 0 (by omega) (by omega)
theorem cp_l96 {p : Nat → Bool} {m : Nat} (hm : m < 96) (hp : p m = false) : cp p < 96 := cp_lt 96 0 (by omega) (by omega) hp
theorem cp_cg {p p' : Nat → Bool} (hh : ∀ x, x < 96 → p' x = p x) : cp p' = cp p := by
  refine List.countP_congr (fun x hx => ?_)
  have := (List.mem_range'_1.mp hx).2
  rw [hh x (by omega)]
theorem cp_zero {p : Nat → Bool} (h : cp p = 0) {m : Nat} (hm : m < 96) : p m = false := by
  cases hp : p m with
  | false => rfl
  | true =>
    have := List.countP_eq_zero.mp h m (List.mem_range'_1.mpr ⟨by omega, by omega⟩)
    exact absurd hp this
def rb_q (h : rb_S) (w : Int32) (m : Nat) : Bool := decide (¬ h 24 m = 0 ∧ h 29 m = w)
theorem rb_many_cp (h : rb_S) (w : Int32) : rb_many h w = cp (rb_q h w) := by
  have key : ∀ f k a, rb_manyF h w k f a = a + (List.range' k f).countP (rb_q h w) := by
    intro f
    induction f with
    | zero => intro k a; rfl
    | succ f ih =>
      intro k a
      show rb_manyF h w (k + 1) f (if ¬ h 24 k = 0 ∧ h 29 k = w then a + 1 else a) = _
      rw [ih, List.range'_succ, List.countP_cons]
      unfold rb_q
      by_cases hc : ¬ h 24 k = 0 ∧ h 29 k = w
      · rw [if_pos hc, decide_eq_true hc]
        simp
        omega
      · rw [if_neg hc, decide_eq_false hc]
        simp
  have := key 96 0 0
  rw [Nat.zero_add] at this
  exact this
/-- the new status of a message that has its turn -/
def rb_ns (h : rb_S) (m : Nat) : Int32 :=
  if ¬ rb_rule h m ≤ 0 then 2 else if ¬ Int32.ofNat (rb_fn h m) = 0 ∧ ¬ Int32.ofNat (rb_fn h m) = 3 ∧ h 21 (rb_sub h m) = 0 then 3
  else if ¬ h 35 (rb_fn h m) = 0 then (if h 33 m = 0 then 4 else 5) else 1
/-- kinds that a turn leaves -/
theorem rb_dec_k (h : rb_S) (m k x : Nat) (hk : k = 24 ∨ k = 25 ∨ k = 26 ∨ k = 27 ∨ k = 28 ∨ k = 31) : (rb_dec h m).1 k x = h k x := by
  have n : ∀ {a : Nat}, a ≠ k → ∀ (f : rb_S) (i : Nat) (v : Int32), mg_u f a i v k x = f k x := fun ha f i v => mg_u_n _ _ _ _ (fun z => ha z.1.symm)
  unfold rb_dec
  split
  · show mg_u (mg_u h 29 m 2) 30 m _ k x = _
    rw [n (by omega), n (by omega)]
  · split
    · show mg_u (mg_u (mg_u (mg_u h 29 m 3) 32 m _) 34 m _) 20 16 _ k x = _
      rw [n (by omega), n (by omega), n (by omega), n (by omega)]
    · split
      · show rb_fails h m k x = _
        unfold rb_fails
        split
        · rw [n (by omega), n (by omega), n (by omega), n (by omega), n (by omega)]
        · rw [n (by omega), n (by omega), n (by omega), n (by omega), n (by omega), n (by omega), n (by omega)]
      · show rb_acts h m k x = _
        unfold rb_acts
        rw [n (by omega), n (by omega), n (by omega), n (by omega), n (by omega), n (by omega), n (by omega)]
theorem rb_dec_29 (h : rb_S) (m x : Nat) : (rb_dec h m).1 29 x = if x = m then rb_ns h m else h 29 x := by
  have n : ∀ {a : Nat}, a ≠ 29 → ∀ (f : rb_S) (i : Nat) (v : Int32), mg_u f a i v 29 x = f 29 x := fun ha f i v => mg_u_n _ _ _ _ (fun z => ha z.1.symm)
  have e : ∀ (f : rb_S) (v : Int32), mg_u f 29 m v 29 x = if x = m then v else f 29 x := fun f v => by
    by_cases hx : x = m
    · subst hx; rw [mg_u_s, if_pos rfl]
    · rw [mg_u_n _ _ _ _ (fun z => hx z.2), if_neg hx]
  unfold rb_dec rb_ns
  split
  · show mg_u (mg_u h 29 m 2) 30 m (-rb_rule h m) 29 x = _
    rw [n (by omega), e]
  · split
    · show mg_u (mg_u (mg_u (mg_u h 29 m 3) 32 m (h 20 1)) 34 m (h 20 16)) 20 16 (h 20 16 + 1) 29 x = _
      rw [n (by omega), n (by omega), n (by omega), e]
    · split
      · show rb_fails h m 29 x = _
        unfold rb_fails
        split
        · rw [n (by omega), n (by omega), n (by omega), e, n (by omega)]
        · rw [n (by omega), n (by omega), n (by omega), n (by omega), n (by omega), e, n (by omega)]
      · show rb_acts h m 29 x = _
        unfold rb_acts
        rw [n (by omega), n (by omega), e, n (by omega), n (by omega), n (by omega), n (by omega)]
theorem rb_rule_c (h : rb_S) (m : Nat) : rb_rule h m = 0 ∨ rb_rule h m = 1 ∨ rb_rule h m = 2 ∨ rb_rule h m = 3 ∨ rb_rule h m = 4 ∨ rb_rule h m = 5 := by
  unfold rb_rule
  split
  · split
    · exact Or.inr (Or.inl rfl)
    · exact Or.inl rfl
  · split
    · split
      · exact Or.inr (Or.inr (Or.inl rfl))
      · split
        · exact Or.inr (Or.inr (Or.inr (Or.inl rfl)))
        · split
          · exact Or.inr (Or.inr (Or.inr (Or.inr (Or.inr rfl))))
          · exact Or.inl rfl
    · split
      · exact Or.inr (Or.inr (Or.inr (Or.inr (Or.inl rfl))))
      · exact Or.inl rfl
theorem rb_dec_lt (h : rb_S) (m : Nat) : ¬ 6 ≤ (rb_dec h m).2 := by
  unfold rb_dec
  split
  · show ¬ 6 ≤ -rb_rule h m
    rcases rb_rule_c h m with e | e | e | e | e | e <;> rw [e] <;> decide
  · split
    · show ¬ (6 : Int32) ≤ 4
      decide
    · split
      · show ¬ (6 : Int32) ≤ 5
        decide
      · show ¬ (6 : Int32) ≤ 1
        decide
theorem rb_ns_c (h : rb_S) (m : Nat) : rb_ns h m = 1 ∨ rb_ns h m = 2 ∨ rb_ns h m = 3 ∨ rb_ns h m = 4 ∨ rb_ns h m = 5 := by
  unfold rb_ns
  split
  · exact Or.inr (Or.inl rfl)
  · split
    · exact Or.inr (Or.inr (Or.inl rfl))
    · split
      · split
        · exact Or.inr (Or.inr (Or.inr (Or.inl rfl)))
        · exact Or.inr (Or.inr (Or.inr (Or.inr rfl)))
      · exact Or.inl rfl
/-- who comes first, is such a one -/
theorem rb_fF_is (h : rb_S) (w s t : Int32) : ∀ (f k : Nat) (x : Option Nat), k + f ≤ 96 → (∀ j, x = some j → j < 96 ∧ rb_is h w s t j) → ∀ j, rb_fF h w s t k f x = some j → j < 96 ∧ rb_is h w s t j
  | 0, k, x, hk, hx, j, hj => hx j hj
  | f + 1, k, x, hk, hx, j, hj => by
    refine rb_fF_is h w s t f (k + 1) (rb_f1 h w s t k x) (by omega) (fun i hi => ?_) j hj
    cases x with
    | none =>
      have hi : (if rb_is h w s t k then some k else none) = some i := hi
      split at hi
      · next h1 => cases hi; exact ⟨by omega, h1⟩
      · cases hi
    | some y =>
      have hi : (if rb_is h w s t k ∧ ¬ h 34 y ≤ h 34 k then some k else some y) = some i := hi
      split at hi
      · next h1 => cases hi; exact ⟨by omega, h1.1⟩
      · cases hi; exact hx _ rfl
theorem rb_first_is {h : rb_S} {w s t : Int32} {j : Nat} (hj : rb_first h w s t = some j) : j < 96 ∧ rb_is h w s t j := rb_fF_is h w s t 96 0 none (by omega) (fun _ h => by cases h) j hj
theorem rb_fF_some (h : rb_S) (w s t : Int32) : ∀ (f k y : Nat), ∃ j, rb_fF h w s t k f (some y) = some j
  | 0, k, y => ⟨y, rfl⟩
  | f + 1, k, y => by
    show ∃ j, rb_fF h w s t (k + 1) f (if rb_is h w s t k ∧ ¬ h 34 y ≤ h 34 k then some k else some y) = some j
    split
    · exact rb_fF_some h w s t f (k + 1) k
    · exact rb_fF_some h w s t f (k + 1) y
theorem rb_fF_none (h : rb_S) (w s t : Int32) : ∀ (f k : Nat), rb_fF h w s t k f none = none → ∀ m, k ≤ m → m < k + f → ¬ rb_is h w s t m
  | 0, k, _, m, h1, h2 => by omega
  | f + 1, k, hn, m, h1, h2 => by
    have hn2 : rb_fF h w s t (k + 1) f (rb_f1 h w s t k none) = none := hn
    by_cases hk : rb_is h w s t k
    · have e : rb_f1 h w s t k none = some k := if_pos hk
      rw [e] at hn2
      obtain ⟨j, hj⟩ := rb_fF_some h w s t f (k + 1) k
      rw [hj] at hn2
      cases hn2
    · have e : rb_f1 h w s t k none = none := if_neg hk
      rw [e] at hn2
      by_cases hm : m = k
      · rw [hm]; exact hk
      · exact rb_fF_none h w s t f (k + 1) hn2 m (by omega) (by omega)
theorem rb_first_none {h : rb_S} {w s t : Int32} (hn : rb_first h w s t = none) {m : Nat} (hm : m < 96) : ¬ rb_is h w s t m := rb_fF_none h w s t 96 0 hn m (by omega) (by omega)
/-- what holds of every state of the reference -/
def rb_ok (h : rb_S) : Prop := rb_rg h ∧ h 20 18 = Int32.ofNat (cp (rb_q h 1)) ∧ h 20 20 = Int32.ofNat (cp (rb_q h 5)) ∧ (∀ x, x < cp (rb_q h 1) → ∃ y, y < 96 ∧ h 36 x = Int32.ofNat y) ∧ ∀ x, x < cp (rb_q h 5) → ∃ y, y < 96 ∧ h 37 x = Int32.ofNat y
theorem rb_rg.cg {h h' : rb_S} (hr : rb_rg h) (hh : ∀ x, h' 26 x = h 26 x ∧ h' 27 x = h 27 x) : rb_rg h' := by
  intro m hm
  have e1 : rb_sub h' m = rb_sub h m := by unfold rb_sub; rw [(hh m).2]
  have e2 : rb_fn h' m = rb_fn h m := by unfold rb_fn; rw [(hh m).1]
  rw [e1, e2, (hh m).1, (hh m).2]
  exact hr m hm
/-- counts behind a turn -/
theorem rb_dec_cp {h : rb_S} {m : Nat} (hm : m < 96) (hc : ¬ h 24 m = 0) (w : Int32) : cp (rb_q (rb_dec h m).1 w) + (if h 29 m = w then 1 else 0) = cp (rb_q h w) + (if rb_ns h m = w then 1 else 0) := by
  have h1 := cp_set (p := rb_q h w) (p' := rb_q (rb_dec h m).1 w) (m := m) hm (fun x hx => by
    unfold rb_q
    rw [rb_dec_k h m 24 x (Or.inl rfl), rb_dec_29, if_neg hx])
  have e1 : rb_q h w m = decide (h 29 m = w) := by
    unfold rb_q
    by_cases hq : h 29 m = w
    · rw [decide_eq_true hq, decide_eq_true (⟨hc, hq⟩ : ¬ h 24 m = 0 ∧ h 29 m = w)]
    · rw [decide_eq_false hq, decide_eq_false (fun z => hq z.2)]
  have e2 : rb_q (rb_dec h m).1 w m = decide (rb_ns h m = w) := by
    unfold rb_q
    rw [rb_dec_k h m 24 m (Or.inl rfl), rb_dec_29, if_pos rfl]
    by_cases hq : rb_ns h m = w
    · rw [decide_eq_true hq, decide_eq_true (⟨hc, hq⟩ : ¬ h 24 m = 0 ∧ rb_ns h m = w)]
    · rw [decide_eq_false hq, decide_eq_false (fun z => hq z.2)]
  rw [e1, e2] at h1
  simpa using h1
