/-! the reference: its invariant over a turn; takes, releases, comes as functions -/
theorem rb_dec_sh (h : rb_S) (m : Nat) :
    (rb_dec h m = (mg_u (mg_u h 29 m 2) 30 m (-rb_rule h m), -rb_rule h m) ∧ rb_ns h m = 2 ∧ ¬ rb_rule h m ≤ 0) ∨
    (rb_dec h m = (mg_u (mg_u (mg_u (mg_u h 29 m 3) 32 m (h 20 1)) 34 m (h 20 16)) 20 16 (h 20 16 + 1), 4) ∧ rb_ns h m = 3 ∧ ¬ Int32.ofNat (rb_fn h m) = 0 ∧ ¬ Int32.ofNat (rb_fn h m) = 3 ∧ h 21 (rb_sub h m) = 0) ∨
    (rb_dec h m = (mg_u (mg_u (mg_u (mg_u (mg_u h 35 (rb_fn h m) 0) 29 m 4) 33 m 1) 34 m (h 20 16)) 20 16 (h 20 16 + 1), 5) ∧ rb_ns h m = 4 ∧ h 33 m = 0) ∨
    (rb_dec h m = (mg_u (mg_u (mg_u (mg_u (mg_u (mg_u (mg_u h 35 (rb_fn h m) 0) 29 m 5) 37 (h 20 20).toNatClampNeg (Int32.ofNat m)) 20 20 (h 20 20 + 1)) 33 m 1) 34 m (h 20 16)) 20 16 (h 20 16 + 1), 5) ∧ rb_ns h m = 5 ∧ ¬ h 33 m = 0) ∨
    (rb_dec h m = (rb_acts h m, 1) ∧ rb_ns h m = 1) := by
  by_cases h1 : ¬ rb_rule h m ≤ 0
  · exact Or.inl ⟨if_pos h1, if_pos h1, h1⟩
  by_cases h2 : ¬ Int32.ofNat (rb_fn h m) = 0 ∧ ¬ Int32.ofNat (rb_fn h m) = 3 ∧ h 21 (rb_sub h m) = 0
  · exact Or.inr (Or.inl ⟨(if_neg h1).trans (if_pos h2), (if_neg h1).trans (if_pos h2), h2⟩)
  by_cases h3 : ¬ h 35 (rb_fn h m) = 0
  · have e : rb_dec h m = (rb_fails h m, 5) := (if_neg h1).trans ((if_neg h2).trans (if_pos h3))
    have e2 : rb_ns h m = if h 33 m = 0 then 4 else 5 := (if_neg h1).trans ((if_neg h2).trans (if_pos h3))
    by_cases h4 : h 33 m = 0
    · refine Or.inr (Or.inr (Or.inl ⟨?_, ?_, h4⟩))
      · rw [e]; unfold rb_fails; rw [if_pos h4]
      · rw [e2, if_pos h4]
    · refine Or.inr (Or.inr (Or.inr (Or.inl ⟨?_, ?_, h4⟩)))
      · rw [e]; unfold rb_fails; rw [if_neg h4]
      · rw [e2, if_neg h4]
  · exact Or.inr (Or.inr (Or.inr (Or.inr ⟨(if_neg h1).trans ((if_neg h2).trans (if_neg h3)), (if_neg h1).trans ((if_neg h2).trans (if_neg h3))⟩)))
theorem rb_ok.cnt {h : rb_S} (ho : rb_ok h) {m : Nat} (hm : m < 96) (h1 : ¬ h 29 m = 1) (h5 : ¬ h 29 m = 5) : cp (rb_q h 1) < 96 ∧ cp (rb_q h 5) < 96 :=
  ⟨cp_l96 hm (decide_eq_false (fun z => h1 z.2)), cp_l96 hm (decide_eq_false (fun z => h5 z.2))⟩
theorem rb_dec_ok {h : rb_S} (ho : rb_ok h) {m : Nat} (hm : m < 96) (hc : ¬ h 24 m = 0) (h1 : ¬ h 29 m = 1) (h5 : ¬ h 29 m = 5) : rb_ok (rb_dec h m).1 := by
  have c1 := rb_dec_cp hm hc 1
  have c5 := rb_dec_cp hm hc 5
  rw [if_neg h1, Nat.add_zero] at c1
  rw [if_neg h5, Nat.add_zero] at c5
  obtain ⟨l1, l5⟩ := ho.cnt hm h1 h5
  have hr : rb_rg (rb_dec h m).1 := ho.1.cg (fun x => ⟨rb_dec_k h m 26 x (by omega), rb_dec_k h m 27 x (by omega)⟩)
  refine ⟨hr, ?_⟩
  rcases rb_dec_sh h m with ⟨e, n, -⟩ | ⟨e, n, -⟩ | ⟨e, n, -⟩ | ⟨e, n, -⟩ | ⟨e, n⟩
  · rw [n, if_neg (by decide), Nat.add_zero] at c1 c5
    rw [c1, c5, e]
    exact ho.2
  · rw [n, if_neg (by decide), Nat.add_zero] at c1 c5
    rw [c1, c5, e]
    exact ho.2
  · rw [n, if_neg (by decide), Nat.add_zero] at c1 c5
    rw [c1, c5, e]
    exact ho.2
  · rw [n, if_neg (by decide), Nat.add_zero] at c1
    rw [n, if_pos rfl] at c5
    rw [c1, c5, e]
    refine ⟨ho.2.1, ?_, ho.2.2.2.1, fun x hx => ?_⟩
    · show h 20 20 + 1 = _
      rw [ho.2.2.1, mi_a1]
    · show ∃ y, y < 96 ∧ mg_u (mg_u (mg_u h 35 (rb_fn h m) 0) 29 m 5) 37 (h 20 20).toNatClampNeg (Int32.ofNat m) 37 x = Int32.ofNat y
      have ht : (h 20 20).toNatClampNeg = cp (rb_q h 5) := by rw [ho.2.2.1, mi_tn (by omega)]
      rw [ht]
      by_cases hxc : x = cp (rb_q h 5)
      · rw [hxc, mg_u_s]
        exact ⟨m, hm, rfl⟩
      · rw [mg_u_n _ _ _ _ (fun z => hxc z.2)]
        exact ho.2.2.2.2 x (by omega)
  · rw [n, if_pos rfl] at c1
    rw [n, if_neg (by decide), Nat.add_zero] at c5
    rw [c1, c5, e]
    refine ⟨?_, ho.2.2.1, fun x hx => ?_, ho.2.2.2.2⟩
    · show h 20 18 + 1 = _
      rw [ho.2.1, mi_a1]
    · show ∃ y, y < 96 ∧ mg_u (mg_u (mg_u (mg_u (mg_u (mg_u h 30 m (rb_x1 h m)) 22 (rb_sub h m) (rb_x2 h m)) 21 (rb_sub h m) (rb_x3 h m)) 23 (rb_sub h m) (h 23 (rb_sub h m) + 1)) 29 m 1) 36 (h 20 18).toNatClampNeg (Int32.ofNat m) 36 x = Int32.ofNat y
      have ht : (h 20 18).toNatClampNeg = cp (rb_q h 1) := by rw [ho.2.1, mi_tn (by omega)]
      rw [ht]
      by_cases hxc : x = cp (rb_q h 1)
      · rw [hxc, mg_u_s]
        exact ⟨m, hm, rfl⟩
      · rw [mg_u_n _ _ _ _ (fun z => hxc z.2)]
        exact ho.2.2.2.1 x (by omega)
/-- a subject that is known stays so -/
theorem rb_dec_21 {h : rb_S} {m u : Nat} (hu : ¬ h 21 u = 0) : ¬ (rb_dec h m).1 21 u = 0 := by
  rcases rb_dec_sh h m with ⟨e, -, -⟩ | ⟨e, -, -⟩ | ⟨e, -, -⟩ | ⟨e, -, -⟩ | ⟨e, -⟩
  · rw [e]; exact hu
  · rw [e]; exact hu
  · rw [e]; exact hu
  · rw [e]; exact hu
  · rw [e]
    show ¬ mg_u (mg_u (mg_u h 30 m (rb_x1 h m)) 22 (rb_sub h m) (rb_x2 h m)) 21 (rb_sub h m) (rb_x3 h m) 21 u = 0
    by_cases hs : u = rb_sub h m
    · rw [hs, mg_u_s]
      unfold rb_x3
      split
      · decide
      · split
        · decide
        · rw [← hs]; exact hu
    · rw [mg_u_n _ _ _ _ (fun z => hs z.2)]
      exact hu
theorem rb_ns_3 {h : rb_S} {m : Nat} (hu : ¬ h 21 (rb_sub h m) = 0) : ¬ rb_ns h m = 3 := by
  rcases rb_dec_sh h m with ⟨-, n, -⟩ | ⟨-, n, n2⟩ | ⟨-, n, -⟩ | ⟨-, n, -⟩ | ⟨-, n⟩
  · rw [n]; decide
  · exact absurd n2.2.2 hu
  · rw [n]; decide
  · rw [n]; decide
  · rw [n]; decide
def rb_wake (u : Nat) : Nat → rb_S → rb_S
  | 0, h => h
  | n + 1, h => match rb_first h 3 (Int32.ofNat u) (h 20 16) with
    | none => h
    | some j => rb_wake u n (rb_dec h j).1
theorem rb_wake_N {u n : Nat} {h : rb_S} (e : rb_first h 3 (Int32.ofNat u) (h 20 16) = none) : rb_wake u (n + 1) h = h := by
  show (match rb_first h 3 (Int32.ofNat u) (h 20 16) with | none => h | some j => rb_wake u n (rb_dec h j).1) = h
  rw [e]
theorem rb_wake_S {u n j : Nat} {h : rb_S} (e : rb_first h 3 (Int32.ofNat u) (h 20 16) = some j) : rb_wake u (n + 1) h = rb_wake u n (rb_dec h j).1 := by
  show (match rb_first h 3 (Int32.ofNat u) (h 20 16) with | none => h | some j => rb_wake u n (rb_dec h j).1) = _
  rw [e]
/-- nobody waits: nobody is woken -/
theorem rb_first_0 {h : rb_S} {w s t : Int32} (hz : cp (rb_q h w) = 0) : rb_first h w s t = none := by
  cases e : rb_first h w s t with
  | none => rfl
  | some j =>
    obtain ⟨hj, h1, h2, -⟩ := rb_first_is e
    have := cp_zero hz hj
    unfold rb_q at this
    exact absurd ⟨h1, h2⟩ (of_decide_eq_false this)
def rb_takes (h : rb_S) (m : Nat) : rb_S := if h 21 (rb_sub h m) = 0 ∧ ¬ (rb_dec h m).1 21 (rb_sub h m) = 0 then rb_wake (rb_sub h m) 97 (rb_dec h m).1 else (rb_dec h m).1
theorem rb_sub_cg {h h' : rb_S} {m : Nat} (e : h' 27 m = h 27 m) : rb_sub h' m = rb_sub h m := by unfold rb_sub; rw [e]
/-- one that was first of those that wait for u, and had its turn -/
theorem rb_woken {h : rb_S} (ho : rb_ok h) {u j : Nat} {s t : Int32} (hj : rb_first h 3 s t = some j) (hs : s = Int32.ofNat u) (hu : u < 16) (hk : ¬ h 21 u = 0) : j < 96 ∧ ¬ h 24 j = 0 ∧ h 29 j = 3 ∧ rb_sub h j = u ∧ rb_ok (rb_dec h j).1 ∧ ¬ (rb_dec h j).1 21 u = 0 ∧ cp (rb_q (rb_dec h j).1 3) + 1 = cp (rb_q h 3) := by
  obtain ⟨hj96, h1, h2, h3, -⟩ := rb_first_is hj
  have hsub : rb_sub h j = u := by
    rcases h3 with h3 | h3
    · exfalso
      rw [hs] at h3
      have := congrArg Int32.toInt h3
      rw [mi_ti (by omega)] at this
      have e : (-1 : Int32).toInt = -1 := rfl
      omega
    · unfold rb_sub
      rw [h3, hs, mi_tn (by omega)]
  have hc := rb_dec_cp hj96 h1 3
  rw [if_pos h2, if_neg (rb_ns_3 (by rw [hsub]; exact hk)), Nat.add_zero] at hc
  exact ⟨hj96, h1, h2, hsub, rb_dec_ok ho hj96 h1 (by rw [h2]; decide) (by rw [h2]; decide), rb_dec_21 hk, hc⟩
theorem rb_wake_ok {u : Nat} (hu : u < 16) : ∀ (n : Nat) {h : rb_S}, rb_ok h → ¬ h 21 u = 0 → rb_ok (rb_wake u n h)
  | 0, h, ho, _ => ho
  | n + 1, h, ho, hk => by
    cases e : rb_first h 3 (Int32.ofNat u) (h 20 16) with
    | none => rw [rb_wake_N e]; exact ho
    | some j =>
      rw [rb_wake_S e]
      obtain ⟨-, -, -, -, g1, g2, -⟩ := rb_woken ho e rfl hu hk
      exact rb_wake_ok hu n g1 g2
theorem rb_takes_ok {h : rb_S} (ho : rb_ok h) {m : Nat} (hm : m < 96) (hc : ¬ h 24 m = 0) (h1 : ¬ h 29 m = 1) (h5 : ¬ h 29 m = 5) : rb_ok (rb_takes h m) := by
  have hd := rb_dec_ok ho hm hc h1 h5
  unfold rb_takes
  split
  · next hz => exact rb_wake_ok (ho.1 m hm).1.2 97 hd hz.2
  · exact hd
