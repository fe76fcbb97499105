/-! the class beside the reference: look, of -/
theorem sl_cp {P : Nat → Bool} : ∀ (W : List Nat), (∀ x ∈ W, x < 96) → W.Nodup → W.countP P = cp (fun x => decide (x ∈ W) && P x)
  | [], _, _ => by
    refine (List.countP_eq_zero.mpr (fun x _ => ?_)).symm
    simp
  | a :: l, h, hd => by
    obtain ⟨h1, h2⟩ := List.nodup_cons.mp hd
    have ih := sl_cp (P := P) l (fun x hx => h x (List.mem_cons_of_mem _ hx)) h2
    have ha := h a List.mem_cons_self
    have s := cp_set (p := fun x => decide (x ∈ l) && P x) (p' := fun x => decide (x ∈ a :: l) && P x) (m := a) ha (fun x hx => by
      have e : decide (x ∈ a :: l) = decide (x ∈ l) := decide_eq_decide.mpr (by rw [List.mem_cons]; exact ⟨fun z => z.resolve_left hx, Or.inr⟩)
      simp only [e])
    rw [List.countP_cons, ih]
    have e1 : (decide (a ∈ l) && P a) = false := by rw [decide_eq_false h1]; rfl
    have e2 : (decide (a ∈ a :: l) && P a) = P a := by rw [decide_eq_true List.mem_cons_self]; rfl
    simp only [e1, e2] at s
    simpa using s.symm
theorem ca_lf_cp (g : ca_S) (x u : Nat) : ∀ (f k a : Nat), k + f = (ca_ln g x).length → ca_lf g x u k f a = a + ((ca_ln g x).drop k).countP (fun j => decide (ca_ms g j = u))
  | 0, k, a, h => by
    rw [List.drop_eq_nil_of_le (by omega)]
    rfl
  | f + 1, k, a, h => by
    have hk : k < (ca_ln g x).length := by omega
    rw [ca_lf_S (List.getElem?_eq_getElem hk), ca_lf_cp g x u f (k + 1) _ (by omega), List.drop_eq_getElem_cons hk, List.countP_cons]
    by_cases hu : ca_ms g (ca_ln g x)[k] = u
    · rw [if_pos hu, decide_eq_true hu]
      simp
      omega
    · rw [if_neg hu, decide_eq_false hu]
      simp
theorem rb_lk_cp (h : rb_S) (u : Int32) : rb_lkF h u 0 96 0 = cp (fun m => decide (¬ h 24 m = 0 ∧ h 29 m = 3 ∧ h 27 m = u)) := by
  have key : ∀ f k a, rb_lkF h u k f a = a + (List.range' k f).countP (fun m => decide (¬ h 24 m = 0 ∧ h 29 m = 3 ∧ h 27 m = u)) := by
    intro f
    induction f with
    | zero => intro k a; rfl
    | succ f ih =>
      intro k a
      show rb_lkF h u (k + 1) f (if ¬ h 24 k = 0 ∧ h 29 k = 3 ∧ h 27 k = u then a + 1 else a) = _
      rw [ih, List.range'_succ, List.countP_cons]
      by_cases hc : ¬ h 24 k = 0 ∧ h 29 k = 3 ∧ h 27 k = u
      · rw [if_pos hc, decide_eq_true hc]
        simp
        omega
      · rw [if_neg hc, decide_eq_false hc]
        simp
  have := key 96 0 0
  rw [Nat.zero_add] at this
  exact this
theorem sm_look {g : ca_S} {h : rb_S} (T : sm_T g h) {u : Nat} (hu : u < 16) (w : Int32) : ca_look g u w = rb_look h u w := by
  obtain ⟨A, D, W, F, S, -, -⟩ := T
  obtain ⟨s0, s1, s2, -⟩ := sm_sv S.1.1 (u := u) (by omega)
  have hL2 := S.2.1.2.2.1
  have hW := S.2.2.2.2.1
  have ho := S.1.2.2.2.2.2.2.1
  have nd : W.Nodup := hW.2.1.imp (fun {a b} hab e => by subst e; exact absurd hab Int32.lt_irrefl)
  have e : ca_lf g 2 u 0 (ca_ln g 2).length 0 = rb_lkF h (Int32.ofNat u) 0 96 0 := by
    rw [ca_lf_cp g 2 u _ 0 0 (by omega), Nat.zero_add, List.drop_zero, hL2, List.countP_map, rb_lk_cp]
    have e1 : W.countP ((fun j => decide (ca_ms g j = u)) ∘ sm_j g) = W.countP (fun x => decide (rb_sub h x = u)) := List.countP_congr (fun x hx => by
      show decide (ca_ms g (sm_j g x) = u) = true ↔ _
      rw [sm_pW S u x hx])
    rw [e1, sl_cp W (fun x hx => ((hW.1 x).mp hx).1) nd]
    refine cp_cg (fun x hx => ?_)
    have q : (x ∈ W ∧ rb_sub h x = u) ↔ (¬ h 24 x = 0 ∧ h 29 x = 3 ∧ h 27 x = Int32.ofNat u) := by
      rw [hW.1 x]
      constructor
      · rintro ⟨⟨a, b, c, -⟩, d⟩
        exact ⟨b, c, by rw [(ho.1 x hx).1.1, d]⟩
      · rintro ⟨b, c, d⟩
        exact ⟨⟨hx, b, c, fun z => by cases z⟩, by unfold rb_sub; rw [d, mi_tn (by omega)]⟩
    by_cases z : x ∈ W ∧ rb_sub h x = u
    · rw [decide_eq_true z.1, decide_eq_true z.2, decide_eq_true (q.mp z)]; rfl
    · rw [decide_eq_false (fun y => z (q.mpr y))]
      by_cases z1 : x ∈ W
      · rw [decide_eq_false (fun y => z ⟨z1, y⟩), Bool.and_false]
      · rw [decide_eq_false z1]; rfl
  unfold ca_look rb_look
  rw [s0, s1, s2, e]
theorem sm_of3 {g : ca_S} {h : rb_S} (I : sm_I g h) {s : Nat} (hs : s < 4) : ∀ (f n a b : Nat), n + f = 25 → 1 ≤ n → rb_ofF h s n f (a, b, ca_great g s (n - 1)) = (ca_cnt g s 0 n f a, ca_cnt g s 6 n f b, ca_great g s 24)
  | 0, n, a, b, hn, h1 => by
    rw [show n - 1 = 24 by omega]
    rfl
  | f + 1, n, a, b, hn, h1 => by
    have hm : 24 * s + n - 1 < 96 := by omega
    have h24 : n ≤ 24 := by omega
    have c : ∀ (v : Int32) (a : Nat), (if ¬ h 24 (24 * s + n - 1) = 0 ∧ h 29 (24 * s + n - 1) = v then a + 1 else a) = (match ca_tb g s n with | none => a | some j => if ca_iv g 10 j 4 = v then a + 1 else a) := fun v a => by
      rw [← sm_tbm g (s := s) h1 h24]
      cases e : sm_tb g (24 * s + n - 1) with
      | none =>
        have hc : h 24 (24 * s + n - 1) = 0 := Classical.byContradiction (fun z => by
          obtain ⟨j, q, -⟩ := sm_came I.1 hm z
          rw [e] at q; cases q)
        rw [if_neg (fun z => z.1 hc)]
      | some j =>
        have v2 := sm_val I.1 hm e
        simp only
        by_cases q : ca_iv g 10 j 4 = v
        · rw [if_pos q, if_pos ⟨by rw [v2.1]; decide, by rw [v2.2.2.2.2.1]; exact q⟩]
        · rw [if_neg q, if_neg (fun z => q (by rw [← v2.2.2.2.2.1]; exact z.2))]
    have gr : (if rb_here h (24 * s + n - 1) then n else ca_great g s (n - 1)) = ca_great g s n := by
      rw [← sm_here I.1 hm, sm_tbm g (s := s) h1 h24]
      match n, h1 with
      | n + 1, _ => rfl
    show rb_ofF h s (n + 1) f (if ¬ h 24 (24 * s + n - 1) = 0 ∧ h 29 (24 * s + n - 1) = 0 then a + 1 else a, if ¬ h 24 (24 * s + n - 1) = 0 ∧ h 29 (24 * s + n - 1) = 6 then b + 1 else b, if rb_here h (24 * s + n - 1) then n else ca_great g s (n - 1)) = _
    rw [c, c, gr]
    have := sm_of3 I hs f (n + 1) (match ca_tb g s n with | none => a | some j => if ca_iv g 10 j 4 = 0 then a + 1 else a) (match ca_tb g s n with | none => b | some j => if ca_iv g 10 j 4 = 6 then b + 1 else b) (by omega) (by omega)
    rw [show n + 1 - 1 = n by omega] at this
    exact this
theorem sm_of_eq {g : ca_S} {h : rb_S} (T : sm_T g h) {s : Nat} (hs : s < 4) {w : Int32} (hw : ¬ w < 0 ∧ ¬ 3 < w) : ca_of g (Int32.ofNat s) w = rb_of h s w := by
  obtain ⟨A, D, W, F, S, -, -⟩ := T
  have e := sm_of3 S.1 hs 24 1 0 0 (by omega) (by omega)
  have e0 : rb_ofF h s 1 24 (0, 0, 0) = (ca_cnt g s 0 1 24 0, ca_cnt g s 6 1 24 0, ca_great g s 24) := e
  unfold ca_of rb_of
  rw [if_pos (mi_vs hs), mi_tn (by omega), e0, sm_lg S.1.1 hs]
  by_cases h0 : w = 0
  · rw [if_pos h0, if_pos h0]
  rw [if_neg h0, if_neg h0]
  by_cases h1 : w = 1
  · rw [if_pos h1, if_pos h1]
  rw [if_neg h1, if_neg h1]
  by_cases h2 : w = 2
  · rw [if_pos h2, if_pos h2]
  rw [if_neg h2, if_neg h2]
  obtain ⟨u, hu, rfl⟩ := mi_in (n := 3) (by decide) hw
  have hu3 : u = 3 := by
    rcases (by omega : u = 0 ∨ u = 1 ∨ u = 2 ∨ u = 3) with rfl | rfl | rfl | rfl
    · exact absurd rfl h0
    · exact absurd rfl h1
    · exact absurd rfl h2
    · rfl
  rw [hu3, if_pos (show Int32.ofNat 3 = 3 from rfl)]
