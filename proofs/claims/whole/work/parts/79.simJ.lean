/-! the class beside the reference: tick -/
theorem sm_H.fr {h h' : rb_S} (H : sm_H h) (f : sm_fr h h') : sm_H h' := fun s k hs k1 kg kc z => by
  rw [f.gap s] at kg
  rw [f.1 24 _ (by omega)] at kc
  exact H s k hs k1 kg kc (f.2.1 _ z)
/-- the first is taken out of the failed line -/
theorem sm_takeF {g : ca_S} {h : rb_S} {A D W F : List Nat} {m : Nat} (S : sm_S g h A D W (m :: F) none) : sm_S (ca_sn g 3 (F.map (sm_j g))) h A D W F (some m) := by
  obtain ⟨⟨I1, I2, I3, I4, I5, I6, I7, I8⟩, ⟨L0, L1, L2, L3⟩, LA, LD, ⟨w1, w2, w3⟩, ⟨f1, f2, f3⟩, Ls, Ll⟩ := S
  have hm := (f1 m).mp List.mem_cons_self
  obtain ⟨p1, p2⟩ := List.pairwise_cons.mp f2
  have nd : m ∉ F := fun hx => absurd (p1 m hx) Int32.lt_irrefl
  have hl := I6.2.2.1 3
  rw [L3, List.length_map, List.length_cons] at hl
  refine ⟨⟨I1, I2, I3, I4, I5, (ca_to.sn I6 3 _ (fun j hj => ?_) ?_).ok, I7, I8⟩, ⟨L0, L1, L2, rfl⟩, LA, LD, ⟨fun x => ?_, w2, ?_⟩, ⟨fun x => ?_, p2, ?_⟩, Ls, Ll⟩
  · obtain ⟨y, hy, rfl⟩ := List.mem_map.mp hj
    exact I6.2.1 3 _ (by rw [L3]; exact List.mem_map_of_mem (List.mem_cons_of_mem _ hy))
  · rw [List.length_map]; omega
  · rw [w1 x]
    exact ⟨fun ⟨a, b, c, _⟩ => ⟨a, b, c, fun z => by cases z; rw [hm.2.2.1] at c; exact absurd c (by decide)⟩, fun ⟨a, b, c, _⟩ => ⟨a, b, c, fun z => by cases z⟩⟩
  · rw [show sm_xc h 3 (some m) = 0 from if_neg (by rw [hm.2.2.1]; decide)]
    exact w3
  · constructor
    · intro hx
      obtain ⟨a, b, c, -⟩ := (f1 x).mp (List.mem_cons_of_mem _ hx)
      exact ⟨a, b, c, fun z => by cases z; exact nd hx⟩
    · rintro ⟨a, b, c, d⟩
      rcases List.mem_cons.mp ((f1 x).mpr ⟨a, b, c, fun z => by cases z⟩) with q | q
      · exact absurd (by rw [q]) d
      · exact q
  · rw [show sm_xc h 4 (some m) = 1 from if_pos hm.2.2.1]
    have : (m :: F).length + 0 = cp (rb_q h 4) := f3
    rw [List.length_cons] at this
    omega
theorem sm_retry {t : Int32} : ∀ (n r : Nat) {g : ca_S} {h : rb_S} {A D W F0 X : List Nat}, sm_S g h A D W (F0 ++ X) none → sm_K h W → sm_H h → F0.length = n → (∀ x ∈ F0, h 34 x < t) → (∀ x ∈ X, t ≤ h 34 x) → t ≤ h 20 16 → sm_T (ca_retry n g) (rb_again t (n + r) h) ∧ rb_first (rb_again t (n + r) h) 4 (-1) t = none := by
  have isF : ∀ {g : ca_S} {h : rb_S} {A D W F : List Nat}, sm_S g h A D W F none → ∀ x, (x < 96 ∧ rb_is h 4 (-1) t x) ↔ (x ∈ F ∧ decide (h 34 x < t) = true) := fun {g h A D W F} S x => by
    rw [S.2.2.2.2.2.1.1 x, decide_eq_true_eq]
    constructor
    · rintro ⟨a, b, c, -, e⟩
      exact ⟨⟨a, b, c, fun z => by cases z⟩, Int32.not_le.mp e⟩
    · rintro ⟨⟨a, b, c, -⟩, e⟩
      exact ⟨a, b, c, Or.inl rfl, Int32.not_le.mpr e⟩
  intro n
  induction n with
  | zero =>
    intro r g h A D W F0 X S K H hl h0 hX ht
    have e0 : F0 = [] := List.length_eq_zero_iff.mp hl
    subst e0
    have e : rb_first h 4 (-1) t = none := sl_none (isF S) (fun x hx => decide_eq_false (Int32.not_lt.mpr (hX x hx)))
    have e2 : rb_again t (0 + r) h = h := by
      cases r with
      | zero => rfl
      | succ r => rw [Nat.zero_add]; exact rb_again_N e
    rw [e2]
    exact ⟨⟨A, D, W, _, S, K, H⟩, e⟩
  | succ n ih =>
    intro r g h A D W F0 X S K H hl h0 hX ht
    match F0, hl with
    | m :: F1, hl =>
      have hmF := S.2.2.2.2.2.1
      obtain ⟨m1, m2, m3, -⟩ := (hmF.1 m).mp (by simp)
      have e : rb_first h 4 (-1) t = some m := sl_first hmF.2.1 (isF S) (W1 := []) (W2 := F1 ++ X) rfl (decide_eq_true (h0 m List.mem_cons_self)) (fun _ h => by cases h)
      obtain ⟨j, hj, hjj⟩ := sm_came S.1.1 m1 m2
      have S2 := sm_takeF (F := F1 ++ X) S
      have h33 := (S.1.2.2.2.2.2.2.2.2.1 m m1 m2 m3).1
      obtain ⟨A', D', W', F', q1, q2, ⟨Y, rfl, y1, y2, y3⟩⟩ := sm_turn S2 K m1 hj (Or.inr (Or.inr m3))
      rw [decide_eq_true h33] at q1
      have fr : sm_fr h (rb_takes h m) := sm_fr.takes (by rw [m3]; decide)
      have eG : ca_retry (n + 1) g = ca_retry n (ca_turn (ca_sn g 3 ((F1 ++ X).map (sm_j g))) j true) := by
        show ca_retry n (match ca_ln g 3 with | [] => g | j :: r => ca_turn (ca_sn g 3 r) j true) = _
        rw [S.2.1.2.2.2, List.cons_append, List.map_cons, hjj]
      rw [eG, show n + 1 + r = (n + r) + 1 by omega, rb_again_S e]
      have hin : ∀ x, x ∈ F1 ∨ x ∈ X → x ∈ F1 ++ X := fun x hx => List.mem_append.mpr hx
      refine ih r (X := X ++ Y) (by rw [← List.append_assoc]; exact q1) q2 (H.fr fr) (by rw [List.length_cons] at hl; omega) (fun x hx => ?_) (fun x hx => ?_) (Int32.le_trans ht y3)
      · rw [y1 x (hin x (Or.inl hx))]; exact h0 x (List.mem_cons_of_mem _ hx)
      · rcases List.mem_append.mp hx with hx | hx
        · rw [y1 x (hin x (Or.inr hx))]; exact hX x hx
        · exact Int32.le_trans ht (y2 x hx)
/-- one that waited too long is dead -/
theorem sm_die {g : ca_S} {h : rb_S} {A D W F : List Nat} {m j : Nat} (S : sm_S g h A D W F (some m)) (hm : m < 96) (ht : sm_tb g m = some j) (h3 : h 29 m = 3) : sm_S (ca_app (ca_si g 10 j 4 5) 1 j) (rb_die h m) A (D ++ [m]) W F none := by
  obtain ⟨⟨I1, I2, I3, I4, I5, I6, I7, J1, J2, J3, J4, ⟨t, J5, J6⟩, J7, J8, J9⟩, ⟨L0, L1, L2, L3⟩, LA, LD, ⟨w1, w2, w3⟩, ⟨f1, f2, f3⟩, Ls, Ll⟩ := S
  have v := sm_val I1 hm ht
  have hc : ¬ h 24 m = 0 := by rw [v.1]; decide
  obtain ⟨c1, c5⟩ := I7.cnt hm (by rw [h3]; decide) (by rw [h3]; decide)
  obtain ⟨ok2, k3⟩ := rb_die_ok I7 hm hc h3
  have hto := ca_to.si I6 10 j 4 5 (by omega)
  have hto2 := hto.tr (ca_to.app hto.ok 1 (sm_ms ⟨I1, I2, I3, I4, I5, I6, I7, J1, J2, J3, J4, ⟨t, J5, J6⟩, J7, J8, J9⟩ hm ht).2)
  have lenD : (ca_ln g 1).length < 96 := by rw [L1, List.length_map, LD.1]; exact c5
  have eA : ca_app (ca_si g 10 j 4 5) 1 j = ca_sn (ca_si g 10 j 4 5) 1 (ca_ln g 1 ++ [j]) := ca_app_lt (g := ca_si g 10 j 4 5) (x := 1) lenD
  rw [eA] at hto2 ⊢
  have e29 : ∀ x, rb_die h m 29 x = if x = m then 5 else h 29 x := fun x => by
    show mg_u h 29 m 5 29 x = _
    by_cases hx : x = m
    · rw [hx, mg_u_s, if_pos rfl]
    · rw [mg_u_n _ _ _ _ (fun z => hx z.2), if_neg hx]
  have st : ∀ {w : Int32} {x : Nat}, ¬ w = 5 → rb_die h m 29 x = w → x ≠ m ∧ h 29 x = w := fun {w x} a b => by
    rw [e29] at b
    by_cases hx : x = m
    · rw [if_pos hx] at b; exact absurd b.symm a
    · rw [if_neg hx] at b; exact ⟨hx, b⟩
  have ts : ∀ {w : Int32} {x : Nat}, x ≠ m → h 29 x = w → rb_die h m 29 x = w := fun {w x} a b => by rw [e29, if_neg a]; exact b
  have ejm : sm_j g m = j := by unfold sm_j; rw [ht]; rfl
  have pcp : ∀ w : Int32, ¬ w = 3 → ¬ w = 5 → cp (rb_q (rb_die h m) w) = cp (rb_q h w) := fun w a b => cp_cg (fun x _ => by
    unfold rb_q
    rw [e29]
    show decide (¬ h 24 x = 0 ∧ (if x = m then 5 else h 29 x) = w) = _
    by_cases hx : x = m
    · have q1 : ¬ (¬ h 24 m = 0 ∧ (5 : Int32) = w) := fun z => b z.2.symm
      have q2 : ¬ (¬ h 24 m = 0 ∧ h 29 m = w) := fun z => a (by rw [← z.2, h3])
      rw [if_pos hx, hx, decide_eq_false q1, decide_eq_false q2]
    · rw [if_neg hx])
  have c5' : cp (rb_q (rb_die h m) 5) = cp (rb_q h 5) + 1 := by
    have a := ok2.2.2.1
    have b : rb_die h m 20 20 = h 20 20 + 1 := rfl
    rw [b, I7.2.2.1, mi_a1] at a
    have := cp_le (rb_q (rb_die h m) 5)
    exact (mi_inj (by omega) (by omega) a).symm
  have w5 : sm_wt (rb_die h m) m = 3 := by
    unfold sm_wt
    rw [e29, if_pos rfl]
    show (if h 24 m = 0 then 0 else if (5 : Int32) = 0 ∨ (5 : Int32) = 6 then 0 else if (5 : Int32) = 3 then 1 else if (5 : Int32) = 4 then 2 else 3) = 3
    rw [if_neg hc]; decide
  have hsum := su_set (f := sm_wt h) (f' := sm_wt (rb_die h m)) hm (fun x hx => by
    unfold sm_wt
    rw [e29, if_neg hx]
    rfl)
  have hw := sm_wt_le h m
  refine ⟨⟨((I1.m I4 hm ht 4 5 (Or.inl rfl)).s 37 _ _ (by omega)).s 20 20 _ (by omega), ?_, ?_, I4, fun x y hx hy => ?_, hto2.ok, ok2, J1, ?_, ?_, ?_, ⟨t, J5, by omega⟩, ?_, J8, J9⟩, ⟨?_, ?_, ?_, ?_⟩, ⟨?_, LA.2.1, ?_⟩, ⟨?_, ?_, ?_⟩, ⟨?_, w2, ?_⟩, ⟨?_, f2, ?_⟩, ?_, Ll⟩
  · show ca_iv (ca_si g 10 j 4 5) 0 0 7 = _
    rw [ca_iv_n _ _ _ _ _ (by omega)]; exact I2
  · show ca_iv (ca_si g 10 j 4 5) 0 0 8 = _
    rw [ca_iv_n _ _ _ _ _ (by omega)]; exact I3
  · show ca_iv (ca_si g 10 j 4 5) 10 y 0 = _
    rw [ca_iv_n _ _ _ _ _ (by omega)]; exact I5 x y hx hy
  · intro x hx a b; exact J2 x hx a (st (by decide) b).2
  · intro x hx a b
    rcases b with b | b
    · exact J3 x hx a (Or.inl (st (by decide) b).2)
    · exact J3 x hx a (Or.inr (st (by decide) b).2)
  · intro x hx a b
    show h 30 x = 0
    by_cases hxm : x = m
    · rw [hxm]; exact J4 m hm (by rw [h3]; decide) (by rw [h3]; decide)
    · exact J4 x hx (fun z => a (ts hxm z)) (fun z => b (ts hxm z))
  · intro x hx a b
    show h 34 x < h 20 16
    rcases b with b | b
    · exact J7 x hx a (Or.inl (st (by decide) b).2)
    · exact J7 x hx a (Or.inr (st (by decide) b).2)
  · rw [ca_ln_n _ _ _ (by decide)]; exact L0
  · rw [ca_ln_s, L1, List.map_append, List.map_singleton]
    show D.map (sm_j g) ++ [j] = D.map (sm_j g) ++ [sm_j g m]
    rw [ejm]
  · rw [ca_ln_n _ _ _ (by decide)]; exact L2
  · rw [ca_ln_n _ _ _ (by decide)]; exact L3
  · rw [pcp 1 (by decide) (by decide)]; exact LA.1
  · intro x hx
    obtain ⟨a, b, c⟩ := LA.2.2 x hx
    exact ⟨a, b, ts (fun z => by rw [z, h3] at c; exact absurd c (by decide)) c⟩
  · rw [List.length_append, List.length_singleton, c5', LD.1]
  · intro i hi
    rw [List.length_append, List.length_singleton] at hi
    show mg_u (mg_u h 29 m 5) 37 (h 20 20).toNatClampNeg (Int32.ofNat m) 37 i = _
    rw [I7.2.2.1, mi_tn (by omega), ← LD.1]
    by_cases hq : i = D.length
    · rw [hq, mg_u_s]
      simp
    · rw [mg_u_n _ _ _ _ (fun z => hq z.2)]
      show h 37 i = _
      rw [LD.2.1 i (by omega)]
      congr 1
      simp only [List.getD_eq_getElem?_getD]
      rw [List.getElem?_append_left (by omega)]
  · intro x hx
    rcases List.mem_append.mp hx with hx | hx
    · obtain ⟨a, b, c⟩ := LD.2.2 x hx
      exact ⟨a, b, ts (fun z => by rw [z, h3] at c; exact absurd c (by decide)) c⟩
    · rw [List.mem_singleton.mp hx, e29, if_pos rfl]
      exact ⟨hm, hc, rfl⟩
  · intro x
    rw [w1 x]
    refine ⟨fun ⟨a, b, c, d⟩ => ⟨a, b, ts (fun z => d (by rw [z])) c, fun z => by cases z⟩, fun ⟨a, b, c, _⟩ => ?_⟩
    obtain ⟨e1, e2⟩ := st (by decide) c
    exact ⟨a, b, e2, fun z => e1 (by cases z; rfl)⟩
  · have : W.length + 1 = cp (rb_q h 3) := by
      have := w3
      rw [show sm_xc h 3 (some m) = 1 from if_pos h3] at this
      exact this
    show W.length + 0 = _
    omega
  · intro x
    rw [f1 x]
    refine ⟨fun ⟨a, b, c, d⟩ => ⟨a, b, ts (fun z => d (by rw [z])) c, fun z => by cases z⟩, fun ⟨a, b, c, _⟩ => ?_⟩
    obtain ⟨e1, e2⟩ := st (by decide) c
    exact ⟨a, b, e2, fun z => e1 (by cases z; rfl)⟩
  · rw [pcp 4 (by decide) (by decide)]
    rw [show sm_xc h 4 (some m) = 0 from if_neg (by rw [h3]; decide)] at f3
    exact f3
  · intro x hx
    show ca_iv (ca_si g 10 j 4 5) 10 (sm_j g x) 7 = h 32 x
    rw [ca_iv_n _ _ _ _ _ (by omega)]; exact Ls x hx
