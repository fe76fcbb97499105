/-! the class beside the reference: skip, what is read, the first state -/
theorem sm_100 {a b : Int32} (h0 : ¬ a < 0) (h1 : ¬ b < a) (h2 : ¬ 100000 < b) : a < b - 100 ↔ ¬ b - a ≤ 100 := by
  rw [Int32.lt_iff_toInt_lt] at h0 h1 h2
  rw [Int32.lt_iff_toInt_lt, Int32.le_iff_toInt_le, Int32.toInt_sub, Int32.toInt_sub]
  have e0 : (0 : Int32).toInt = 0 := rfl
  have e1 : (100000 : Int32).toInt = 100000 := rfl
  have e2 : (100 : Int32).toInt = 100 := rfl
  rw [e0] at h0
  rw [e1] at h2
  rw [e2]
  rw [Int.bmod_eq_of_le (by omega) (by omega), Int.bmod_eq_of_le (by omega) (by omega)]
  omega
theorem sm_may_b {g : ca_S} {h : rb_S} (I : sm_I g h) {s : Nat} (hs : s < 4) : ∀ (f n : Nat) (b : Bool), n + f = 25 → 1 ≤ n → rb_mayF h s n f b = (b || ca_beh g s (ca_iv g 0 0 7 - 100) n f)
  | 0, n, b, _, _ => by cases b <;> rfl
  | f + 1, n, b, hn, h1 => by
    have hm : 24 * s + n - 1 < 96 := by omega
    show rb_mayF h s (n + 1) f (b || (rb_here h (24 * s + n - 1) && decide (¬ h 20 1 - h 31 (24 * s + n - 1) ≤ 100))) = _
    rw [sm_may_b I hs f (n + 1) _ (by omega) (by omega)]
    show _ = (b || ((match ca_tb g s n with | none => false | some j => decide (¬ ca_iv g 10 j 4 = 6) && decide (ca_iv g 10 j 6 < ca_iv g 0 0 7 - 100)) || ca_beh g s (ca_iv g 0 0 7 - 100) (n + 1) f))
    have e : (rb_here h (24 * s + n - 1) && decide (¬ h 20 1 - h 31 (24 * s + n - 1) ≤ 100)) = (match ca_tb g s n with | none => false | some j => decide (¬ ca_iv g 10 j 4 = 6) && decide (ca_iv g 10 j 6 < ca_iv g 0 0 7 - 100)) := by
      rw [← sm_here I.1 hm, ← sm_tbm g (s := s) h1 (by omega : n ≤ 24)]
      cases et : sm_tb g (24 * s + n - 1) with
      | none => rfl
      | some j =>
        have v := sm_val I.1 hm et
        have J := I.2.2.2.2.2.2.2
        have hc := sm_100 (J.2.2.2.2.2.2.2 _ hm).1 (J.2.2.2.2.2.2.2 _ hm).2 J.2.2.2.2.2.2.1.2
        show (decide (¬ ca_iv g 10 j 4 = 6) && decide (¬ h 20 1 - h 31 (24 * s + n - 1) ≤ 100)) = (decide (¬ ca_iv g 10 j 4 = 6) && decide (ca_iv g 10 j 6 < ca_iv g 0 0 7 - 100))
        rw [← v.2.2.2.2.2.2, I.2.1]
        congr 1
        exact decide_eq_decide.mpr hc.symm
    rw [e, Bool.or_assoc]
theorem sm_skip {g : ca_S} {h : rb_S} (T : sm_T g h) {s : Nat} (hs : s < 4) : (ca_skip g s).2 = (rb_skip h s).2 ∧ sm_T (ca_skip g s).1 (rb_skip h s).1 := by
  have T' := T
  obtain ⟨A, D, W, F, S, K, H⟩ := T'
  have lg := sm_lg S.1.1 hs
  have ge := rb_gap_ge h s
  have le := rb_gap_le h s
  have eP : ca_skP g s = rb_may h s := by
    unfold ca_skP rb_may
    rw [lg]
    by_cases h25 : rb_gap h s = 25
    · rw [h25]; rfl
    · rw [sm_may_b S.1 hs (24 - rb_gap h s) (rb_gap h s + 1) false (by omega) (by omega), Bool.false_or]
  by_cases hm : rb_may h s = true
  · have lt := rb_may_lt hm
    have e1 : ca_skip g s = (ca_turns (ca_si g 6 s (rb_gap h s) 1) s, Int32.ofNat (rb_gap h s)) := by
      unfold ca_skip
      rw [eP, if_pos hm, lg]
    have e2 : rb_skip h s = (rb_rel (mg_u (mg_u h 20 0 0) 25 (24 * s + rb_gap h s - 1) 1) s, Int32.ofNat (rb_gap h s)) := if_pos hm
    refine ⟨by rw [e1, e2], ?_⟩
    simp only [e1, e2]
    obtain ⟨⟨I1, I2, I3, I4, I5, I6, I7, J⟩, L⟩ := S
    have ok2 : rb_ok (mg_u (mg_u h 20 0 0) 25 (24 * s + rb_gap h s - 1) 1) := (I7.t 0 0 (Or.inl rfl)).cg (fun _ => ⟨rfl, rfl⟩) (fun _ => ⟨rfl, rfl⟩) ⟨rfl, rfl⟩ (fun _ => ⟨rfl, rfl⟩)
    have S2 : sm_S (ca_si g 6 s (rb_gap h s) 1) (mg_u (mg_u h 20 0 0) 25 (24 * s + rb_gap h s - 1) 1) A D W F none := by
      refine ⟨⟨((I1.s 20 0 0 (by omega)).u 25 (24 * s + rb_gap h s - 1) 1).l (fun k x _ _ => sm_ab_k g 1 ge (by omega) k x), ?_, ?_, I4, fun a c ha hb => ?_, (ca_to.si I6 6 s _ 1 (by omega)).ok, ok2, J⟩, ?_⟩
      · rw [ca_iv_n _ _ _ _ _ (by omega)]; exact I2
      · rw [ca_iv_n _ _ _ _ _ (by omega)]; exact I3
      · rw [ca_iv_n _ _ _ _ _ (by omega)]; exact I5 a c ha hb
      · obtain ⟨l1, l2, l3, l4, l5, l6, l7⟩ := L
        refine ⟨l1, l2, l3, l4, l5, fun a ha => ?_, l7⟩
        show ca_iv (ca_si g 6 s (rb_gap h s) 1) 10 (sm_j g a) 7 = h 32 a
        rw [ca_iv_n _ _ _ _ _ (by omega)]; exact l6 a ha
    obtain ⟨⟨A', D', W', F', c1, c2, c3, c4, c5⟩, c6⟩ := sm_gives hs S2 K
    refine ⟨A', D', W', F', c1, c2, fun s' k hs' k1 kg kc z => ?_⟩
    rw [c4.gap s'] at kg
    by_cases hss : s' = s
    · subst hss; exact c6 k k1 kg kc z
    · have gl : rb_gap (mg_u (mg_u h 20 0 0) 25 (24 * s + rb_gap h s - 1) 1) s' = rb_gap h s' := rb_gap_loc (fun k a b => ⟨rfl, mg_u_n _ _ _ _ (by omega)⟩)
      rw [gl] at kg
      rw [c4.1 24 _ (by omega)] at kc
      exact H s' k hs' k1 kg kc (c4.2.1 _ z)
  · have e1 : ca_skip g s = (g, -1) := by
      unfold ca_skip
      rw [eP, if_neg hm]
    have e2 : rb_skip h s = (mg_u h 20 0 0, -1) := if_neg hm
    rw [e1, e2]
    exact ⟨rfl, sm_T0 T 0⟩
theorem sm_stat {g : ca_S} {h : rb_S} (T : sm_T g h) {s n : Nat} (hs : s < 4) (h1 : 1 ≤ n) (h24 : n ≤ 24) : ca_stat g s n = rb_stat h 29 (24 * s + n - 1) (-1) ∧ ca_answ g s n = rb_stat h 30 (24 * s + n - 1) 0 := by
  obtain ⟨A, D, W, F, S, -, -⟩ := T
  have hm : 24 * s + n - 1 < 96 := by omega
  unfold ca_stat ca_answ rb_stat
  rw [← sm_tbm g (s := s) h1 h24]
  cases e : sm_tb g (24 * s + n - 1) with
  | none =>
    have hc : h 24 (24 * s + n - 1) = 0 := Classical.byContradiction (fun z => by
      obtain ⟨j, q, -⟩ := sm_came S.1.1 hm z
      rw [e] at q; cases q)
    rw [if_pos hc, if_pos hc]
    exact ⟨rfl, rfl⟩
  | some j =>
    have v := sm_val S.1.1 hm e
    have hc : ¬ h 24 (24 * s + n - 1) = 0 := by rw [v.1]; decide
    rw [if_neg hc, if_neg hc]
    exact ⟨v.2.2.2.2.1.symm, v.2.2.2.2.2.1.symm⟩
theorem sm_count {g : ca_S} {h : rb_S} (T : sm_T g h) (w : Int32) : ca_count g w = rb_count h w := by
  obtain ⟨A, D, W, F, ⟨⟨I1, I2, I3, I4, I5, I6, I7, J⟩, ⟨L0, L1, L2, L3⟩, LA, LD, LW, LF, -, -⟩, -, -⟩ := T
  have w3 : W.length + 0 = cp (rb_q h 3) := LW.2.2
  have f3 : F.length + 0 = cp (rb_q h 4) := LF.2.2
  unfold ca_count rb_count
  rw [L0, L1, L2, L3, List.length_map, List.length_map, List.length_map, List.length_map, LA.1, LD.1, ← I7.2.1, ← I7.2.2.1, I2, I3, rb_many_cp, rb_many_cp, ← w3, ← f3]
  rfl
theorem sm_at {g : ca_S} {h : rb_S} {A : List Nat} {w : Int32} {k x : Nat} (I : sm_I g h) (hl : ca_ln g x = A.map (sm_j g)) (hA : sm_done h w k A) (i : Int32) : ca_nmAt g x i = rb_at h k (cp (rb_q h w)) i := by
  have h96 := cp_le (rb_q h w)
  unfold ca_nmAt ca_at rb_at
  by_cases h0 : i < 0
  · rw [if_pos h0, if_pos h0]
  rw [if_neg h0, if_neg h0]
  obtain ⟨n, hn, rfl⟩ := mi_ex h0
  rw [mi_tn hn, hl]
  by_cases hq : A.length ≤ n
  · rw [if_pos ((mi_le (by omega) hn).mpr (by rw [← hA.1]; exact hq)), List.getElem?_eq_none (by rw [List.length_map]; exact hq)]
    rfl
  · rw [if_neg (fun z => hq (by rw [hA.1]; exact (mi_le (by omega) hn).mp z))]
    have hlt : n < A.length := by omega
    have e : A.getD n 0 = A[n] := by rw [List.getD_eq_getElem?_getD, List.getElem?_eq_getElem hlt]; rfl
    rw [hA.2.1 n hlt, e, List.getElem?_map, List.getElem?_eq_getElem hlt]
    obtain ⟨a, b, c⟩ := hA.2.2 A[n] (List.getElem_mem hlt)
    obtain ⟨j, q1, q2⟩ := sm_came I.1 a b
    rw [mi_tn (by omega)]
    show ca_iv g 10 (sm_j g A[n]) 0 = _
    rw [q2]
    exact I.2.2.2.2.1 _ j a q1
theorem sm_T_init : sm_T ca_init (fun _ _ => 0) := by
  have z : ∀ w : Int32, cp (rb_q (fun _ _ => 0) w) = 0 := fun w => by
    refine List.countP_eq_zero.mpr (fun x _ => ?_)
    unfold rb_q
    simp
  refine ⟨[], [], [], [], ⟨⟨fun k x hx hk => ?_, rfl, rfl, fun a b c _ _ h => (by cases h), fun a b _ h => (by cases h), ca_init_ok, ⟨fun x hx => ⟨⟨rfl, Nat.zero_lt_succ _⟩, rfl, Nat.zero_lt_succ _⟩, ?_, ?_, ?_, ?_⟩, ?_, ?_, ?_, ?_, ⟨0, rfl, Nat.zero_le _⟩, ?_, ⟨by decide, by decide⟩, ?_⟩, ⟨rfl, rfl, rfl, rfl⟩, ⟨(z 1).symm, fun _ h => absurd h (Nat.not_lt_zero _), fun _ h => (by cases h)⟩, ⟨(z 5).symm, fun _ h => absurd h (Nat.not_lt_zero _), fun _ h => (by cases h)⟩, ⟨fun x => ?_, List.Pairwise.nil, (z 3).symm⟩, ⟨fun x => ?_, List.Pairwise.nil, (z 4).symm⟩, fun _ h => (by cases h), by decide⟩, fun _ h => (by cases h), ?_⟩
  · unfold sm_ab
    show (if k = 21 then (0 : Int32) else if k = 22 then 0 else if k = 23 then 0 else if k = 25 then 0 else if k = 35 then 0 else 0) = 0
    split
    · rfl
    split
    · rfl
    split
    · rfl
    split
    · rfl
    split <;> rfl
  · rw [z]; rfl
  · rw [z]; rfl
  · rw [z]; intro x hx; omega
  · rw [z]; intro x hx; omega
  · intro u hu; exact Or.inl rfl
  · intro m hm h; exact absurd rfl h
  · intro m hm h; exact absurd rfl h
  · intro m hm _ _; rfl
  · intro m hm h; exact absurd rfl h
  · intro m hm; exact ⟨(by decide : ¬ (0 : Int32) < 0), (by decide : ¬ (0 : Int32) < 0)⟩
  · exact ⟨fun h => (by cases h), fun h => absurd rfl h.2.1⟩
  · exact ⟨fun h => (by cases h), fun h => absurd rfl h.2.1⟩
  · intro s k _ _ _ h; exact absurd rfl h
