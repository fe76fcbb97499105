/-! the class's state as a raw state (kinds below 20; the rest is another's): 0 the object, 1 senders, 2 subjects, 3 failing, 4 Sender, 5 messages, 6 skipped, 7 Subject, 8 Line, 9 places, 10 Message -/
def ma_iv (g : ca_S) (q : mr_St) (k i f : Nat) : Int32 := if k = 8 then (if f = 1 then Int32.ofNat (ca_ln g i).length else 0) else if k < 20 then ca_iv g k i f else mr_iv q k i f
def ma_rv (g : ca_S) (q : mr_St) (k i f : Nat) : Option (Nat × Nat) :=
  if k = 0 then (if f = 0 then some (1, 0) else if f = 1 then some (2, 0) else if f = 2 then some (3, 0) else if f < 7 then some (8, f - 3) else none)
  else if k = 1 then (if f < 4 then some (4, f) else none)
  else if k = 2 then (if f < 16 then some (7, f) else none)
  else if k = 4 then (if f = 0 then some (5, i) else if f = 1 then some (6, i) else none)
  else if k = 5 then (ca_tb g i f).map (fun j => (10, j))
  else if k = 8 then (if f = 0 then some (9, i) else none)
  else if k = 9 then ((ca_ln g i)[f]?).map (fun j => (10, j))
  else if k = 10 then (if f = 2 then some (7, ca_ms g i) else none)
  else if k < 20 then none else mr_rv q k i f
def ma_pn (g : ca_S) (q : mr_St) (k : Nat) : Nat := if k < 4 then 1 else if k = 7 then 16 else if k < 10 then 4 else if k = 10 then ca_nm g else if k < 20 then 0 else mr_pn q k
def ma_lv (q : mr_St) (k i f : Nat) : Int64 := if k < 20 then 0 else mr_lv q k i f
def ma_R (g : ca_S) (q : mr_St) : mr_St := (ma_iv g q, ma_lv q, ma_rv g q, ma_pn g q)
theorem ma_sI (g : ca_S) (q : mr_St) (k i f : Nat) (v : Int32) (hk : k < 20) (h8 : k ≠ 8) : mr_sI (ma_R g q) k i f v = ma_R (ca_si g k i f v) q := by
  show (mr_u3 (ma_iv g q) k i f v, ma_lv q, ma_rv g q, ma_pn g q) = _
  refine Prod.ext ?_ rfl
  funext a b c
  show mr_u3 (ma_iv g q) k i f v a b c = ma_iv (ca_si g k i f v) q a b c
  by_cases h : a = k ∧ b = i ∧ c = f
  · obtain ⟨rfl, rfl, rfl⟩ := h
    rw [mr_u3_s]
    unfold ma_iv
    rw [if_neg h8, if_pos hk, ca_iv_s]
  · rw [mr_u3_n _ _ _ _ _ h]
    unfold ma_iv
    rw [ca_iv_n _ _ _ _ _ h]
    rfl
theorem ma_lst {x : Nat} (h : x < 4) (g : ca_S) (q : mr_St) : ma_rv g q 1 0 x = some (4, x) := by unfold ma_rv; rw [if_neg (by decide), if_pos rfl, if_pos h]
theorem ma_sub {x : Nat} (h : x < 16) (g : ca_S) (q : mr_St) : ma_rv g q 2 0 x = some (7, x) := by unfold ma_rv; rw [if_neg (by decide), if_neg (by decide), if_pos rfl, if_pos h]
theorem ma_wf {g : ca_S} {q : mr_St} (h : ca_ok g) (hq : ∀ k i f x, 20 ≤ k → i < mr_pn q k → mr_rv q k i f = some x → x.2 < mr_pn q x.1 ∧ 20 ≤ x.1) : mr_wf (ma_R g q) := by
  intro k i f x hi hx
  change i < ma_pn g q k at hi
  change ma_rv g q k i f = some x at hx
  show x.2 < ma_pn g q x.1
  unfold ma_rv at hx
  by_cases h0 : k = 0
  · subst h0
    rw [if_pos rfl] at hx
    split at hx
    · cases hx; exact Nat.zero_lt_one
    · split at hx
      · cases hx; exact Nat.zero_lt_one
      · split at hx
        · cases hx; exact Nat.zero_lt_one
        · split at hx
          · cases hx
            show f - 3 < ma_pn g q 8
            have : ma_pn g q 8 = 4 := rfl
            omega
          · cases hx
  rw [if_neg h0] at hx
  by_cases h1 : k = 1
  · rw [if_pos h1] at hx
    split at hx
    · cases hx; assumption
    · cases hx
  rw [if_neg h1] at hx
  by_cases h2 : k = 2
  · rw [if_pos h2] at hx
    split at hx
    · cases hx; assumption
    · cases hx
  rw [if_neg h2] at hx
  by_cases h4 : k = 4
  · subst h4
    rw [if_pos rfl] at hx
    split at hx
    · cases hx; exact hi
    · split at hx
      · cases hx; exact hi
      · cases hx
  rw [if_neg h4] at hx
  by_cases h5 : k = 5
  · rw [if_pos h5] at hx
    cases ht : ca_tb g i f with
    | none => rw [ht] at hx; cases hx
    | some j => rw [ht] at hx; cases hx; exact h.1 i f j ht
  rw [if_neg h5] at hx
  by_cases h8 : k = 8
  · subst h8
    rw [if_pos rfl] at hx
    split at hx
    · cases hx; exact hi
    · cases hx
  rw [if_neg h8] at hx
  by_cases h9 : k = 9
  · rw [if_pos h9] at hx
    cases ht : (ca_ln g i)[f]? with
    | none => rw [ht] at hx; cases hx
    | some j => rw [ht] at hx; cases hx; exact h.2.1 i j (List.mem_of_getElem? ht)
  rw [if_neg h9] at hx
  by_cases h10 : k = 10
  · subst h10
    rw [if_pos rfl] at hx
    split at hx
    · cases hx; exact (h.2.2.2 i hi).1
    · cases hx
  rw [if_neg h10] at hx
  by_cases h20 : k < 20
  · rw [if_pos h20] at hx; cases hx
  rw [if_neg h20] at hx
  have hp : ma_pn g q k = mr_pn q k := by
    unfold ma_pn
    rw [if_neg (by omega), if_neg (by omega), if_neg (by omega), if_neg h10, if_neg h20]
  rw [hp] at hi
  obtain ⟨g1, g2⟩ := hq k i f x (by omega) hi hx
  have hp2 : ma_pn g q x.1 = mr_pn q x.1 := by
    unfold ma_pn
    rw [if_neg (by omega), if_neg (by omega), if_neg (by omega), if_neg (by omega), if_neg (by omega)]
  rw [hp2]
  exact g1
