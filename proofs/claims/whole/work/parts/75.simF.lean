/-! the class beside the reference: gaps, turns given, one that comes -/
/-- what turns leave -/
def sm_fr (h h' : rb_S) : Prop := (∀ k x, k = 24 ∨ k = 25 ∨ k = 26 ∨ k = 27 ∨ k = 28 ∨ k = 31 → h' k x = h k x) ∧ (∀ x, h' 29 x = 0 → h 29 x = 0) ∧ (∀ x, h' 29 x = 6 ↔ h 29 x = 6) ∧ ∀ x, x = 0 ∨ x = 1 ∨ x = 22 → h' 20 x = h 20 x
theorem sm_fr.rf (h : rb_S) : sm_fr h h := ⟨fun _ _ _ => rfl, fun _ h => h, fun _ => Iff.rfl, fun _ _ => rfl⟩
theorem sm_fr.tr {a b c : rb_S} (p : sm_fr a b) (q : sm_fr b c) : sm_fr a c := ⟨fun k x hk => (q.1 k x hk).trans (p.1 k x hk), fun x h => p.2.1 x (q.2.1 x h), fun x => (q.2.2.1 x).trans (p.2.2.1 x), fun x hx => (q.2.2.2 x hx).trans (p.2.2.2 x hx)⟩
theorem sm_fr.dec {h : rb_S} {m : Nat} (h6 : ¬ h 29 m = 6) : sm_fr h (rb_dec h m).1 := by
  refine ⟨fun k x hk => rb_dec_k h m k x hk, fun x hx => ?_, fun x => ?_, fun x hx => rb_dec_20 h m x hx⟩
  · rw [rb_dec_29] at hx
    by_cases hxm : x = m
    · rw [if_pos hxm] at hx
      exfalso
      rcases rb_ns_c h m with q | q | q | q | q <;> rw [q] at hx <;> exact absurd hx (by decide)
    · rw [if_neg hxm] at hx; exact hx
  · rw [rb_dec_29]
    by_cases hxm : x = m
    · rw [if_pos hxm, hxm]
      refine ⟨fun hx => ?_, fun z => absurd z h6⟩
      exfalso
      rcases rb_ns_c h m with q | q | q | q | q <;> rw [q] at hx <;> exact absurd hx (by decide)
    · rw [if_neg hxm]
theorem sm_fr.wake (u : Nat) : ∀ (n : Nat) (h : rb_S), sm_fr h (rb_wake u n h)
  | 0, h => sm_fr.rf h
  | n + 1, h => by
    cases e : rb_first h 3 (Int32.ofNat u) (h 20 16) with
    | none => rw [rb_wake_N e]; exact sm_fr.rf h
    | some j =>
      rw [rb_wake_S e]
      exact (sm_fr.dec (by rw [(rb_first_is e).2.2.1]; decide)).tr (sm_fr.wake u n _)
theorem sm_fr.takes {h : rb_S} {m : Nat} (h6 : ¬ h 29 m = 6) : sm_fr h (rb_takes h m) := by
  unfold rb_takes
  split
  · exact (sm_fr.dec h6).tr (sm_fr.wake _ _ _)
  · exact sm_fr.dec h6
theorem sm_fr.sub {h h' : rb_S} (F : sm_fr h h') (x : Nat) : rb_sub h' x = rb_sub h x := rb_sub_cg (F.1 27 x (by omega))
theorem sm_fr.here {h h' : rb_S} (F : sm_fr h h') (x : Nat) : rb_here h' x = rb_here h x := by
  unfold rb_here
  rw [F.1 24 x (by omega)]
  have : (¬ h' 29 x = 6) = (¬ h 29 x = 6) := propext (not_congr (F.2.2.1 x))
  simp only [this]
theorem rb_gap_here {h h' : rb_S} {s : Nat} (hh : ∀ m, rb_here h' m = rb_here h m ∧ h' 25 m = h 25 m) : rb_gap h' s = rb_gap h s := by
  have key : ∀ f n, rb_gapF h' s n f = rb_gapF h s n f := by
    intro f
    induction f with
    | zero => intros; rfl
    | succ f ih =>
      intro n
      show (if rb_here h' (24 * s + n - 1) = true ∨ ¬ h' 25 (24 * s + n - 1) = 0 then rb_gapF h' s (n + 1) f else n) = if rb_here h (24 * s + n - 1) = true ∨ ¬ h 25 (24 * s + n - 1) = 0 then rb_gapF h s (n + 1) f else n
      rw [(hh _).1, (hh _).2, ih]
  exact key _ _
theorem sm_fr.gap {h h' : rb_S} (F : sm_fr h h') (s : Nat) : rb_gap h' s = rb_gap h s := rb_gap_here (fun m => ⟨F.here m, F.1 25 m (by omega)⟩)
theorem rb_takes_n0 {h : rb_S} {m : Nat} : ¬ rb_takes h m 29 m = 0 := by
  have h1 : ¬ (rb_dec h m).1 29 m = 0 := fun hx => by
    rw [rb_dec_29, if_pos rfl] at hx
    rcases rb_ns_c h m with q | q | q | q | q <;> rw [q] at hx <;> exact absurd hx (by decide)
  unfold rb_takes
  split
  · exact fun z => h1 ((sm_fr.wake _ _ _).2.1 m z)
  · exact h1
/-- the gaps -/
theorem sm_here {g : ca_S} {h : rb_S} (H : sm_ag (sm_ab g) h) {m : Nat} (hm : m < 96) : ca_here g (sm_tb g m) = rb_here h m := by
  unfold rb_here
  cases e : sm_tb g m with
  | none =>
    have : h 24 m = 0 := Classical.byContradiction (fun z => by
      obtain ⟨j, q, -⟩ := sm_came H hm z
      rw [e] at q; cases q)
    rw [decide_eq_false (fun z => z this)]
    rfl
  | some j =>
    obtain ⟨v24, -, -, -, v29, -, -⟩ := sm_val H hm e
    rw [v24, v29, decide_eq_true (p := ¬ (1 : Int32) = 0) (by decide), Bool.true_and]
    rfl
theorem sm_mi {s n : Nat} (h1 : 1 ≤ n) (h24 : n ≤ 24) : (24 * s + n - 1) / 24 = s ∧ (24 * s + n - 1) % 24 + 1 = n := by omega
theorem sm_tbm (g : ca_S) {s n : Nat} (h1 : 1 ≤ n) (h24 : n ≤ 24) : sm_tb g (24 * s + n - 1) = ca_tb g s n := by
  unfold sm_tb
  rw [(sm_mi h1 h24).1, (sm_mi h1 h24).2]
theorem sm_gapb {g : ca_S} {h : rb_S} (H : sm_ag (sm_ab g) h) {s n : Nat} (hs : s < 4) (h1 : 1 ≤ n) (h24 : n ≤ 24) : (ca_gap g s n = true) ↔ ¬ rb_hs h (24 * s + n - 1) := by
  have hm : 24 * s + n - 1 < 96 := by omega
  have e1 := sm_here H hm
  rw [sm_tbm g h1 h24] at e1
  have e2 : ca_iv g 6 s n = h 25 (24 * s + n - 1) := by
    have := H 25 (24 * s + n - 1) hm (by omega)
    unfold sm_ab at this
    rw [if_neg (by decide), if_neg (by decide), if_neg (by decide), if_pos rfl, (sm_mi h1 h24).1, (sm_mi h1 h24).2] at this
    exact this
  unfold ca_gap
  rw [e1, e2, decide_eq_true (⟨h1, h24⟩ : 1 ≤ n ∧ n ≤ 24), Bool.true_and]
  unfold rb_hs
  cases rb_here h (24 * s + n - 1) <;> simp
theorem sm_lg {g : ca_S} {h : rb_S} (H : sm_ag (sm_ab g) h) {s : Nat} (hs : s < 4) : ca_lg g s = rb_gap h s := by
  have key : ∀ f n, n + f = 25 → 1 ≤ n → ca_least g s n f = rb_gapF h s n f := by
    intro f
    induction f with
    | zero => intros; rfl
    | succ f ih =>
      intro n hn h1
      show (if ca_gap g s n then n else ca_least g s (n + 1) f) = if rb_hs h (24 * s + n - 1) then rb_gapF h s (n + 1) f else n
      have := sm_gapb H hs h1 (by omega : n ≤ 24)
      by_cases hq : rb_hs h (24 * s + n - 1)
      · rw [if_neg (fun z => this.mp z hq), if_pos hq]
        exact ih (n + 1) (by omega) (by omega)
      · rw [if_pos (this.mpr hq), if_neg hq]
  exact key 24 1 (by omega) (by omega)
/-- what no turn of one that failed not yet makes: a dead one -/
def sm_n5 (h h' : rb_S) : Prop := ∀ x, h' 29 x = 5 → h 29 x = 5
theorem sm_n5.dec {h : rb_S} {m : Nat} (h33 : h 33 m = 0) : sm_n5 h (rb_dec h m).1 := fun x hx => by
  rw [rb_dec_29] at hx
  by_cases hxm : x = m
  · rw [if_pos hxm] at hx
    exfalso
    rcases rb_dec_sh h m with ⟨-, n, -⟩ | ⟨-, n, -⟩ | ⟨-, n, -⟩ | ⟨-, n, n2⟩ | ⟨-, n⟩
    · rw [n] at hx; exact absurd hx (by decide)
    · rw [n] at hx; exact absurd hx (by decide)
    · rw [n] at hx; exact absurd hx (by decide)
    · exact n2 h33
    · rw [n] at hx; exact absurd hx (by decide)
  · rw [if_neg hxm] at hx; exact hx
theorem sm_n5.wake {u : Nat} (hu : u < 16) : ∀ (n : Nat) {h : rb_S}, rb_ok h → sm_J h → ¬ h 21 u = 0 → sm_n5 h (rb_wake u n h)
  | 0, h, _, _, _ => fun _ h => h
  | n + 1, h, ho, J, hk => by
    cases e : rb_first h 3 (Int32.ofNat u) (h 20 16) with
    | none => rw [rb_wake_N e]; exact fun _ h => h
    | some j =>
      rw [rb_wake_S e]
      obtain ⟨j1, j2, j3, j4, j5, j6, -⟩ := rb_woken ho e rfl hu hk
      have h33 := J.2.2.1 j j1 j2 (Or.inr j3)
      have ih := sm_n5.wake hu n j5 (sm_decJ J ho j1 j2 (Or.inr (Or.inl ⟨j3, by rw [j4]; exact hk⟩))) j6
      exact fun x hx => sm_n5.dec h33 x (ih x hx)
theorem sm_n5.takes {h : rb_S} (ho : rb_ok h) (J : sm_J h) {m : Nat} (hm : m < 96) (hc : ¬ h 24 m = 0) (hst : sm_may h m) (h33 : h 33 m = 0) : sm_n5 h (rb_takes h m) := by
  have hs1 : ¬ h 29 m = 1 := by rcases hst with q | ⟨q, -⟩ | q <;> rw [q] <;> decide
  have hs5 : ¬ h 29 m = 5 := by rcases hst with q | ⟨q, -⟩ | q <;> rw [q] <;> decide
  unfold rb_takes
  split
  · next hz =>
    exact fun x hx => sm_n5.dec h33 x (sm_n5.wake (ho.1 m hm).1.2 97 (rb_dec_ok ho hm hc hs1 hs5) (sm_decJ J ho hm hc hst) hz.2 x hx)
  · exact sm_n5.dec h33
/-- what is said behind a step: the relation, who waits, the failed line, what is left -/
def sm_go (g' : ca_S) (h h' : rb_S) (F : List Nat) : Prop := ∃ A' D' W' F', sm_S g' h' A' D' W' F' none ∧ sm_K h' W' ∧ sm_ext h F h' F' ∧ sm_fr h h' ∧ sm_n5 h h'
/-- a turn of one that is held -/
theorem sm_heldT {g : ca_S} {h : rb_S} {A D W F : List Nat} (S : sm_S g h A D W F none) (K : sm_K h W) {m j : Nat} (hm : m < 96) (ht : sm_tb g m = some j) (h0 : h 29 m = 0) : sm_go (ca_turn g j false) h (rb_takes h m) F := by
  have J := S.1.2.2.2.2.2.2.2
  have ho := S.1.2.2.2.2.2.2.1
  have hc : ¬ h 24 m = 0 := by rw [(sm_val S.1.1 hm ht).1]; decide
  have h33 := J.2.2.1 m hm hc (Or.inl h0)
  obtain ⟨A', D', W', F', q1, q2, q3⟩ := sm_turn (sm_held S h0) K hm ht (Or.inl h0)
  rw [decide_eq_false (fun z => z h33)] at q1
  exact ⟨A', D', W', F', q1, q2, q3, sm_fr.takes (by rw [h0]; decide), sm_n5.takes ho J hm hc (Or.inl h0) h33⟩
theorem sm_give {s : Nat} (hs : s < 4) : ∀ (r n : Nat) {g : ca_S} {h : rb_S} {A D W F : List Nat}, n + r = 25 → 1 ≤ n → sm_S g h A D W F none → sm_K h W → sm_go (ca_give s n (rb_gap h s - n) g) h (rb_relF s n r h) F ∧ ∀ k, n ≤ k → k < rb_gap h s → ¬ rb_relF s n r h 24 (24 * s + k - 1) = 0 → ¬ rb_relF s n r h 29 (24 * s + k - 1) = 0 := by
  intro r
  induction r with
  | zero =>
    intro n g h A D W F hn h1 S K
    have hg := rb_gap_le h s
    rw [show rb_gap h s - n = 0 by omega]
    exact ⟨⟨A, D, W, F, S, K, sm_ext.rf h F, sm_fr.rf h, fun _ h => h⟩, fun k a b => by omega⟩
  | succ r ih =>
    intro n g h A D W F hn h1 S K
    have hm : 24 * s + n - 1 < 96 := by omega
    show sm_go (ca_give s n (rb_gap h s - n) g) h (rb_relF s (n + 1) r (if ¬ h 24 (24 * s + n - 1) = 0 ∧ h 29 (24 * s + n - 1) = 0 ∧ n < rb_gap h s then rb_takes h (24 * s + n - 1) else h)) F ∧ ∀ k, n ≤ k → k < rb_gap h s → ¬ rb_relF s (n + 1) r (if ¬ h 24 (24 * s + n - 1) = 0 ∧ h 29 (24 * s + n - 1) = 0 ∧ n < rb_gap h s then rb_takes h (24 * s + n - 1) else h) 24 (24 * s + k - 1) = 0 → ¬ rb_relF s (n + 1) r (if ¬ h 24 (24 * s + n - 1) = 0 ∧ h 29 (24 * s + n - 1) = 0 ∧ n < rb_gap h s then rb_takes h (24 * s + n - 1) else h) 29 (24 * s + k - 1) = 0
    by_cases hng : n < rb_gap h s
    · have eG : ca_give s n (rb_gap h s - n) g = ca_give s (n + 1) (rb_gap h s - (n + 1)) (match ca_tb g s n with | none => g | some j => if ca_iv g 10 j 4 = 0 then ca_turn g j false else g) := by
        rw [show rb_gap h s - n = (rb_gap h s - (n + 1)) + 1 by omega]
        rfl
      rw [eG, ← sm_tbm g h1 (by omega : n ≤ 24)]
      by_cases hq : ¬ h 24 (24 * s + n - 1) = 0 ∧ h 29 (24 * s + n - 1) = 0
      · obtain ⟨j, hj, -⟩ := sm_came S.1.1 hm hq.1
        rw [if_pos ⟨hq.1, hq.2, hng⟩, hj]
        have e4 : ca_iv g 10 j 4 = 0 := by rw [← (sm_val S.1.1 hm hj).2.2.2.2.1]; exact hq.2
        simp only
        rw [if_pos e4]
        obtain ⟨A', D', W', F', q1, q2, q3, q4, q5⟩ := sm_heldT S K hm hj hq.2
        have ih2 := ih (n + 1) (by omega) (by omega) q1 q2
        rw [q4.gap s] at ih2
        obtain ⟨⟨A2, D2, W2, F2, p1, p2, p3, p4, p5⟩, ih3⟩ := ih2
        refine ⟨⟨A2, D2, W2, F2, p1, p2, q3.tr p3, q4.tr p4, fun x hx => q5 x (p5 x hx)⟩, fun k a b => ?_⟩
        by_cases hk : k = n
        · intro _ z
          rw [hk] at z
          exact rb_takes_n0 (p4.2.1 _ z)
        · exact ih3 k (by omega) b
      · have eM : (match sm_tb g (24 * s + n - 1) with | none => g | some j => if ca_iv g 10 j 4 = 0 then ca_turn g j false else g) = g := by
          cases e : sm_tb g (24 * s + n - 1) with
          | none => rfl
          | some j =>
            obtain ⟨v24, -, -, -, v29, -, -⟩ := sm_val S.1.1 hm e
            exact if_neg (fun z => hq ⟨by rw [v24]; decide, by rw [v29]; exact z⟩)
        rw [eM, if_neg (fun z => hq ⟨z.1, z.2.1⟩)]
        obtain ⟨⟨A2, D2, W2, F2, p1, p2, p3, p4, p5⟩, ih3⟩ := ih (n + 1) (by omega) (by omega) S K
        refine ⟨⟨A2, D2, W2, F2, p1, p2, p3, p4, p5⟩, fun k a b => ?_⟩
        by_cases hk : k = n
        · intro y z
          rw [hk] at y z
          rw [p4.1 24 _ (by omega)] at y
          exact hq ⟨y, p4.2.1 _ z⟩
        · exact ih3 k (by omega) b
    · rw [if_neg (fun z => hng z.2.2)]
      have ih2 := ih (n + 1) (by omega) (by omega) S K
      have e1 : rb_gap h s - n = 0 := by omega
      have e2 : rb_gap h s - (n + 1) = 0 := by omega
      rw [e2] at ih2
      rw [e1]
      exact ⟨ih2.1, fun k a b => by omega⟩
