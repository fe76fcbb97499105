/-! the class beside the reference: one that comes -/
theorem rb_gap_sp (h : rb_S) (s : Nat) : (∀ k, 1 ≤ k → k < rb_gap h s → rb_hs h (24 * s + k - 1)) ∧ (rb_gap h s < 25 → ¬ rb_hs h (24 * s + rb_gap h s - 1)) := by
  have key : ∀ f n, (∀ k, n ≤ k → k < rb_gapF h s n f → rb_hs h (24 * s + k - 1)) ∧ (rb_gapF h s n f < n + f → ¬ rb_hs h (24 * s + rb_gapF h s n f - 1)) := by
    intro f
    induction f with
    | zero => intro n; exact ⟨fun k a (b : k < n) => by omega, fun (a : n < n + 0) => by omega⟩
    | succ f ih =>
      intro n
      have e : rb_gapF h s n (f + 1) = if rb_hs h (24 * s + n - 1) then rb_gapF h s (n + 1) f else n := rfl
      rw [e]
      by_cases hq : rb_hs h (24 * s + n - 1)
      · rw [if_pos hq]
        obtain ⟨a, b⟩ := ih (n + 1)
        refine ⟨fun k h1 h2 => ?_, fun h1 => b (by omega)⟩
        by_cases hk : k = n
        · rw [hk]; exact hq
        · exact a k (by omega) h2
      · rw [if_neg hq]
        exact ⟨fun k a b => by omega, fun _ => hq⟩
  exact key 24 1
theorem rb_rel_skip (s : Nat) : ∀ (f n r : Nat) (h : rb_S), (∀ k, n ≤ k → k < n + f → ¬ (¬ h 24 (24 * s + k - 1) = 0 ∧ h 29 (24 * s + k - 1) = 0 ∧ k < rb_gap h s)) → rb_relF s n (f + r) h = rb_relF s (n + f) r h
  | 0, n, r, h, _ => by rw [Nat.zero_add]; rfl
  | f + 1, n, r, h, hh => by
    rw [show f + 1 + r = (f + r) + 1 by omega]
    show rb_relF s (n + 1) (f + r) (if ¬ h 24 (24 * s + n - 1) = 0 ∧ h 29 (24 * s + n - 1) = 0 ∧ n < rb_gap h s then rb_takes h (24 * s + n - 1) else h) = _
    rw [if_neg (hh n (by omega) (by omega)), rb_rel_skip s f (n + 1) r h (fun k a b => hh k (by omega) (by omega)), show n + 1 + f = n + (f + 1) by omega]
theorem sm_gives {g : ca_S} {h : rb_S} {A D W F : List Nat} {s : Nat} (hs : s < 4) (S : sm_S g h A D W F none) (K : sm_K h W) : sm_go (ca_turns g s) h (rb_rel h s) F ∧ ∀ k, 1 ≤ k → k < rb_gap h s → ¬ rb_rel h s 24 (24 * s + k - 1) = 0 → ¬ rb_rel h s 29 (24 * s + k - 1) = 0 := by
  have := sm_give hs 24 1 (by omega) (by omega) S K
  unfold ca_turns
  rw [sm_lg S.1.1 hs]
  exact this
theorem sm_come2 {g : ca_S} {p : rb_S} {A D W F : List Nat} (S : sm_S g p A D W F none) (K : sm_K p W) {s n j : Nat} (hs : s < 4) (h1 : 1 ≤ n) (h24 : n ≤ 24) (ht : sm_tb g (24 * s + n - 1) = some j) (h0 : p 29 (24 * s + n - 1) = 0) (HH : ∀ k, 1 ≤ k → k < n → k < rb_gap p s → ¬ p 24 (24 * s + k - 1) = 0 → ¬ p 29 (24 * s + k - 1) = 0) :
    sm_go (ca_turns (if ca_iv g 10 j 1 = 3 then ca_turn g j false else g) s) p (if ¬ p 26 (24 * s + n - 1) = 3 ∧ rb_gap p s < n then p else rb_rel (rb_takes p (24 * s + n - 1)) s) F ∧ ∀ k, 1 ≤ k → k < rb_gap p s → ¬ (if ¬ p 26 (24 * s + n - 1) = 3 ∧ rb_gap p s < n then p else rb_rel (rb_takes p (24 * s + n - 1)) s) 24 (24 * s + k - 1) = 0 → ¬ (if ¬ p 26 (24 * s + n - 1) = 3 ∧ rb_gap p s < n then p else rb_rel (rb_takes p (24 * s + n - 1)) s) 29 (24 * s + k - 1) = 0 := by
  have hm : 24 * s + n - 1 < 96 := by omega
  have v := sm_val S.1.1 hm ht
  have hc : ¬ p 24 (24 * s + n - 1) = 0 := by rw [v.1]; decide
  rw [← v.2.1]
  have fr : sm_fr p (rb_takes p (24 * s + n - 1)) := sm_fr.takes (by rw [h0]; decide)
  by_cases h3 : p 26 (24 * s + n - 1) = 3
  · rw [if_pos h3, if_neg (fun z => z.1 h3)]
    obtain ⟨A', D', W', F', q1, q2, q3, q4, q5⟩ := sm_heldT S K hm ht h0
    obtain ⟨⟨A2, D2, W2, F2, p1, p2, p3, p4, p5⟩, r2⟩ := sm_gives hs q1 q2
    rw [q4.gap s] at r2
    exact ⟨⟨A2, D2, W2, F2, p1, p2, q3.tr p3, q4.tr p4, fun x hx => q5 x (p5 x hx)⟩, r2⟩
  · rw [if_neg h3]
    have G := sm_gives hs S K
    by_cases hg : rb_gap p s < n
    · rw [if_pos ⟨h3, hg⟩]
      have e : rb_rel p s = p := by
        have := rb_rel_skip s 24 1 0 p (fun k a b z => HH k a (by omega) z.2.2 z.1 z.2.1)
        exact this
      rw [e] at G
      exact G
    · rw [if_neg (fun z => hg z.2)]
      have hne : ¬ rb_gap p s = n := fun z => by
        have := (rb_gap_sp p s).2 (by omega)
        rw [z] at this
        refine this (Or.inl ?_)
        unfold rb_here
        rw [decide_eq_true hc, decide_eq_true (p := ¬ p 29 (24 * s + n - 1) = 6) (by rw [h0]; decide)]
        rfl
      have e1 : rb_rel p s = rb_relF s (n + 1) (24 - n) (rb_takes p (24 * s + n - 1)) := by
        have a := rb_rel_skip s (n - 1) 1 (25 - n) p (fun k a b z => HH k a (by omega) z.2.2 z.1 z.2.1)
        have b : rb_rel p s = rb_relF s 1 (n - 1 + (25 - n)) p := by rw [show n - 1 + (25 - n) = 24 by omega]; rfl
        rw [b, a, show 1 + (n - 1) = n by omega, show 25 - n = (24 - n) + 1 by omega]
        show rb_relF s (n + 1) (24 - n) (if ¬ p 24 (24 * s + n - 1) = 0 ∧ p 29 (24 * s + n - 1) = 0 ∧ n < rb_gap p s then rb_takes p (24 * s + n - 1) else p) = _
        rw [if_pos ⟨hc, h0, by omega⟩]
      have e2 : rb_rel (rb_takes p (24 * s + n - 1)) s = rb_relF s (n + 1) (24 - n) (rb_takes p (24 * s + n - 1)) := by
        have a := rb_rel_skip s n 1 (24 - n) (rb_takes p (24 * s + n - 1)) (fun k a b z => by
          by_cases hk : k = n
          · rw [hk] at z; exact rb_takes_n0 z.2.1
          · rw [fr.gap s, fr.1 24 _ (by omega)] at z
            exact HH k a (by omega) z.2.2 z.1 (fr.2.1 _ z.2.1))
        have b : rb_rel (rb_takes p (24 * s + n - 1)) s = rb_relF s 1 (n + (24 - n)) (rb_takes p (24 * s + n - 1)) := by rw [show n + (24 - n) = 24 by omega]; rfl
        rw [b, a, show 1 + n = n + 1 by omega]
      rw [e2, ← e1]
      exact G
/-- a message is put at its place, on both sides -/
theorem sm_put {g g' : ca_S} {h q : rb_S} {A D W F : List Nat} (S : sm_S g h A D W F none) (K : sm_K h W) {m : Nat} (hm : m < 96) (hnh : rb_here h m = false) (hq : ∀ k x, ¬ (x = m ∧ (k = 26 ∨ k = 27 ∨ k = 28)) → ¬ (k = 20 ∧ x = 0) → q k x = h k x) (hqo : rb_ok q)
    (hag : sm_ag (sm_ab g') (rb_put q m)) (h07 : ca_iv g' 0 0 7 = ca_iv g 0 0 7) (h08 : ca_iv g' 0 0 8 = ca_iv g 0 0 8) (hinj : sm_inj g') (hnam : ∀ x j, x < 96 → sm_tb g' x = some j → ca_iv g' 10 j 0 = rb_name x) (hok : ca_ok g') (hln : ∀ x, ca_ln g' x = ca_ln g x) (hjx : ∀ x, x < 96 → x ≠ m → sm_j g' x = sm_j g x) (h7 : ∀ x, x < 96 → x ≠ m → ¬ h 24 x = 0 → ca_iv g' 10 (sm_j g x) 7 = ca_iv g 10 (sm_j g x) 7) :
    sm_S g' (rb_put q m) A D W F none ∧ sm_K (rb_put q m) W := by
  obtain ⟨⟨I1, I2, I3, I4, I5, I6, I7, J1, J2, J3, J4, ⟨t, J5, J6⟩, J7, J8, J9⟩, ⟨L0, L1, L2, L3⟩, LA, LD, ⟨w1, w2, w3⟩, ⟨f1, f2, f3⟩, Ls, Ll⟩ := S
  have u : ∀ (f : rb_S) (a : Nat) (v : Int32) (x : Nat), mg_u f a m v a x = if x = m then v else f a x := fun f a v x => by
    by_cases hx : x = m
    · rw [hx, mg_u_s, if_pos rfl]
    · rw [mg_u_n _ _ _ _ (fun z => hx z.2), if_neg hx]
  have p24 : ∀ x, rb_put q m 24 x = if x = m then 1 else h 24 x := fun x => by rw [← hq 24 x (by omega) (by omega)]; exact u q 24 1 x
  have p29 : ∀ x, rb_put q m 29 x = if x = m then 0 else h 29 x := fun x => by rw [← hq 29 x (by omega) (by omega)]; exact u (mg_u q 24 m 1) 29 0 x
  have p30 : ∀ x, rb_put q m 30 x = if x = m then 0 else h 30 x := fun x => by rw [← hq 30 x (by omega) (by omega)]; exact u (mg_u (mg_u q 24 m 1) 29 m 0) 30 0 x
  have p31 : ∀ x, rb_put q m 31 x = if x = m then h 20 1 else h 31 x := fun x => by rw [← hq 31 x (by omega) (by omega), ← hq 20 1 (by omega) (by omega)]; exact u (mg_u (mg_u (mg_u q 24 m 1) 29 m 0) 30 m 0) 31 (q 20 1) x
  have p33 : ∀ x, rb_put q m 33 x = if x = m then 0 else h 33 x := fun x => by rw [← hq 33 x (by omega) (by omega)]; exact u (mg_u (mg_u (mg_u (mg_u q 24 m 1) 29 m 0) 30 m 0) 31 m (q 20 1)) 33 0 x
  have pk : ∀ k x, k ≠ 24 → k ≠ 29 → k ≠ 30 → k ≠ 31 → k ≠ 33 → rb_put q m k x = q k x := fun k x a b c d e => by
    unfold rb_put
    rw [mg_u_n _ _ _ _ (fun z => e z.1), mg_u_n _ _ _ _ (fun z => d z.1), mg_u_n _ _ _ _ (fun z => c z.1), mg_u_n _ _ _ _ (fun z => b z.1), mg_u_n _ _ _ _ (fun z => a z.1)]
  have p20 : ∀ x, x ≠ 0 → rb_put q m 20 x = h 20 x := fun x hx => (pk 20 x (by omega) (by omega) (by omega) (by omega) (by omega)).trans (hq 20 x (by omega) (by omega))
  have pl : ∀ k x, (k = 21 ∨ k = 32 ∨ k = 34 ∨ k = 36 ∨ k = 37) → rb_put q m k x = h k x := fun k x hk => (pk k x (by omega) (by omega) (by omega) (by omega) (by omega)).trans (hq k x (by omega) (by omega))
  have pm : ∀ k x, x ≠ m → (k = 26 ∨ k = 27) → rb_put q m k x = h k x := fun k x hx hk => (pk k x (by omega) (by omega) (by omega) (by omega) (by omega)).trans (hq k x (by omega) (by omega))
  have psub : ∀ x, x ≠ m → rb_sub (rb_put q m) x = rb_sub h x := fun x hx => rb_sub_cg (pm 27 x hx (Or.inr rfl))
  have nh : ∀ w : Int32, ¬ w = 6 → ¬ (¬ h 24 m = 0 ∧ h 29 m = w) := fun w h6 z => by
    unfold rb_here at hnh
    rw [decide_eq_true z.1, decide_eq_true (p := ¬ h 29 m = 6) (fun y => h6 (z.2.symm.trans y))] at hnh
    cases hnh
  have nm : ∀ {w : Int32} {x : Nat}, ¬ w = 6 → ¬ h 24 x = 0 → h 29 x = w → x ≠ m := fun h6 a b z => by subst z; exact nh _ h6 ⟨a, b⟩
  have pcp : ∀ w : Int32, ¬ w = 0 → ¬ w = 6 → cp (rb_q (rb_put q m) w) = cp (rb_q h w) := fun w w0 w6 => by
    refine cp_cg (fun x _ => ?_)
    unfold rb_q
    rw [p24, p29]
    by_cases hx : x = m
    · have a : ¬ (¬ (1 : Int32) = 0 ∧ 0 = w) := fun z => w0 z.2.symm
      rw [if_pos hx, if_pos hx, hx, decide_eq_false a, decide_eq_false (nh w w6)]
    · rw [if_neg hx, if_neg hx]
  have keep : ∀ {w : Int32} {x : Nat}, ¬ w = 6 → ¬ h 24 x = 0 → h 29 x = w → ¬ rb_put q m 24 x = 0 ∧ rb_put q m 29 x = w := fun h6 a b => by
    have hx := nm h6 a b
    rw [p24, p29, if_neg hx, if_neg hx]
    exact ⟨a, b⟩
  have back : ∀ {w : Int32} {x : Nat}, ¬ w = 0 → ¬ rb_put q m 24 x = 0 → rb_put q m 29 x = w → x ≠ m ∧ ¬ h 24 x = 0 ∧ h 29 x = w := fun h0 a b => by
    rename_i w x
    by_cases hx : x = m
    · rw [p29, if_pos hx] at b
      exact absurd b.symm h0
    · rw [p24, if_neg hx] at a
      rw [p29, if_neg hx] at b
      exact ⟨hx, a, b⟩
  have mapj : ∀ l : List Nat, (∀ x ∈ l, x < 96 ∧ x ≠ m) → l.map (sm_j g) = l.map (sm_j g') := fun l hl => List.map_congr_left (fun x hx => (hjx x (hl x hx).1 (hl x hx).2).symm)
  have wl : ∀ x ∈ W, x < 96 ∧ x ≠ m := fun x hx => by
    obtain ⟨a, b, c, -⟩ := (w1 x).mp hx
    exact ⟨a, nm (by decide) b c⟩
  have fl : ∀ x ∈ F, x < 96 ∧ x ≠ m := fun x hx => by
    obtain ⟨a, b, c, -⟩ := (f1 x).mp hx
    exact ⟨a, nm (by decide) b c⟩
  have al : ∀ x ∈ A, x < 96 ∧ x ≠ m := fun x hx => by
    obtain ⟨a, b, c⟩ := LA.2.2 x hx
    exact ⟨a, nm (by decide) b c⟩
  have dl : ∀ x ∈ D, x < 96 ∧ x ≠ m := fun x hx => by
    obtain ⟨a, b, c⟩ := LD.2.2 x hx
    exact ⟨a, nm (by decide) b c⟩
  have qh : rb_here q m = false := by
    unfold rb_here
    rw [hq 24 m (by omega) (by omega), hq 29 m (by omega) (by omega)]
    exact hnh
  have wt : ∀ x, x < 96 → sm_wt (rb_put q m) x = sm_wt h x := fun x _ => by
    unfold sm_wt
    rw [p24, p29]
    by_cases hx : x = m
    · rw [if_pos hx, if_pos hx, if_neg (by decide), if_pos (Or.inl rfl), hx]
      by_cases hc : h 24 m = 0
      · rw [if_pos hc]
      · have h6 : h 29 m = 6 := Classical.byContradiction (fun z => nh _ z ⟨hc, rfl⟩)
        rw [if_neg hc, if_pos (Or.inr h6)]
    · rw [if_neg hx, if_neg hx]
  refine ⟨⟨⟨hag, ?_, ?_, hinj, hnam, hok, rb_put_ok hqo hm qh, ?_, ?_, ?_, ?_, ⟨t, ?_, ?_⟩, ?_, ?_, ?_⟩, ⟨?_, ?_, ?_, ?_⟩, ⟨?_, ?_, ?_⟩, ⟨?_, ?_, ?_⟩, ⟨?_, ?_, ?_⟩, ⟨?_, ?_, ?_⟩, ?_, Ll⟩, ?_⟩
  · rw [h07, p20 1 (by omega)]; exact I2
  · rw [h08, p20 22 (by omega)]; exact I3
  · intro v hv; rw [pl 21 v (by omega)]; exact J1 v hv
  · intro x hx a b
    obtain ⟨c, d, e⟩ := back (by decide) a b
    rw [p33, if_neg c, pm 26 x c (Or.inl rfl), psub x c, pl 21 _ (by omega)]
    exact J2 x hx d e
  · intro x hx a b
    rw [p33]
    by_cases hxm : x = m
    · rw [if_pos hxm]
    · rw [if_neg hxm]
      rw [p24, if_neg hxm] at a
      rw [p29, if_neg hxm] at b
      exact J3 x hx a b
  · intro x hx a b
    rw [p30]
    by_cases hxm : x = m
    · rw [if_pos hxm]
    · rw [if_neg hxm]
      rw [p29, if_neg hxm] at a b
      exact J4 x hx a b
  · rw [p20 16 (by omega)]; exact J5
  · rw [su_cg wt]; exact J6
  · intro x hx a b
    rw [pl 34 x (by omega), p20 16 (by omega)]
    rcases b with b | b
    · obtain ⟨c, d, e⟩ := back (by decide) a b
      exact J7 x hx d (Or.inl e)
    · obtain ⟨c, d, e⟩ := back (by decide) a b
      exact J7 x hx d (Or.inr e)
  · rw [p20 1 (by omega)]; exact J8
  · intro x hx
    rw [p31, p20 1 (by omega)]
    by_cases hxm : x = m
    · rw [if_pos hxm]; exact ⟨J8.1, Int32.lt_irrefl⟩
    · rw [if_neg hxm]; exact J9 x hx
  · rw [hln, L0]; exact mapj A al
  · rw [hln, L1]; exact mapj D dl
  · rw [hln, L2]; exact mapj W wl
  · rw [hln, L3]; exact mapj F fl
  · rw [pcp 1 (by decide) (by decide)]; exact LA.1
  · intro i hi; rw [pl 36 i (by omega)]; exact LA.2.1 i hi
  · intro x hx
    obtain ⟨a, b, c⟩ := LA.2.2 x hx
    exact ⟨a, keep (by decide) b c⟩
  · rw [pcp 5 (by decide) (by decide)]; exact LD.1
  · intro i hi; rw [pl 37 i (by omega)]; exact LD.2.1 i hi
  · intro x hx
    obtain ⟨a, b, c⟩ := LD.2.2 x hx
    exact ⟨a, keep (by decide) b c⟩
  · intro x
    rw [w1 x]
    refine ⟨fun ⟨a, b, c, _⟩ => ⟨a, (keep (by decide) b c).1, (keep (by decide) b c).2, fun z => by cases z⟩, fun ⟨a, b, c, _⟩ => ?_⟩
    obtain ⟨-, d, e⟩ := back (by decide) b c
    exact ⟨a, d, e, fun z => by cases z⟩
  · exact w2.imp_of_mem (fun _ _ hab => by rw [pl 34 _ (by omega), pl 34 _ (by omega)]; exact hab)
  · rw [pcp 3 (by decide) (by decide)]; exact w3
  · intro x
    rw [f1 x]
    refine ⟨fun ⟨a, b, c, _⟩ => ⟨a, (keep (by decide) b c).1, (keep (by decide) b c).2, fun z => by cases z⟩, fun ⟨a, b, c, _⟩ => ?_⟩
    obtain ⟨-, d, e⟩ := back (by decide) b c
    exact ⟨a, d, e, fun z => by cases z⟩
  · exact f2.imp_of_mem (fun _ _ hab => by rw [pl 34 _ (by omega), pl 34 _ (by omega)]; exact hab)
  · rw [pcp 4 (by decide) (by decide)]; exact f3
  · intro x hx
    have a := wl x hx
    rw [hjx x a.1 a.2, h7 x a.1 a.2 ((w1 x).mp hx).2.1, pl 32 x (by omega)]
    exact Ls x hx
  · intro x hx
    rw [psub x (wl x hx).2, pl 21 _ (by omega)]
    exact K x hx
