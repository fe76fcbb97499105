/-! the class beside the reference: replay, cut, point, fails -/
theorem sm_T0 {g : ca_S} {h : rb_S} (T : sm_T g h) (v : Int32) : sm_T g (mg_u h 20 0 v) := by
  obtain ⟨A, D, W, F, ⟨⟨I1, I2, I3, I4, I5, I6, I7, I8⟩, L⟩, K, H⟩ := T
  exact ⟨A, D, W, F, ⟨⟨I1.s 20 0 v (by omega), I2, I3, I4, I5, I6, I7.t 0 v (Or.inl rfl), I8⟩, L⟩, K, H⟩
theorem sm_putL {g : ca_S} {h : rb_S} {A D W F : List Nat} (S : sm_S g h A D W F none) (K : sm_K h W) {m j : Nat} (hm : m < 96) (ht : sm_tb g m = some j) (h6 : h 29 m = 6) :
    sm_S (ca_si (ca_si g 10 j 4 0) 10 j 6 (ca_iv g 0 0 7)) (rb_put h m) A D W F none ∧ sm_K (rb_put h m) W := by
  obtain ⟨I1, I2, I3, I4, I5, I6, I7, I8⟩ := S.1
  have v := sm_val I1 hm ht
  have h30 : h 30 m = 0 := I8.2.2.2.1 m hm (by rw [h6]; decide) (by rw [h6]; decide)
  have to2 := ca_to.si I6 10 j 4 0 (by omega)
  have to3 := to2.tr (ca_to.si to2.ok 10 j 6 (ca_iv g 0 0 7) (by omega))
  refine sm_put S K hm (rb_here6 h6) (fun _ _ _ _ => rfl) I7 ?_ ?_ ?_ I4 (fun x y hx => ?_) to3.ok (fun _ => rfl) (fun _ _ _ => rfl) (fun x _ _ _ => ?_)
  · have a := ((I1.i (i := 24) (j := m) (v := 1) v.1).m I4 hm ht 4 0 (Or.inl rfl)).i (i := 30) (j := m) (v := 0) h30
    have b := (a.m (g := ca_si g 10 j 4 0) I4 hm ht 6 (ca_iv g 0 0 7) (Or.inr (Or.inr rfl))).s 33 m 0 (by omega)
    rw [I2] at b ⊢
    exact b
  · rw [ca_iv_n _ _ _ _ _ (by omega), ca_iv_n _ _ _ _ _ (by omega)]
  · rw [ca_iv_n _ _ _ _ _ (by omega), ca_iv_n _ _ _ _ _ (by omega)]
  · intro hy
    rw [ca_iv_n _ _ _ _ _ (by omega), ca_iv_n _ _ _ _ _ (by omega)]
    exact I5 x y hx hy
  · rw [ca_iv_n _ _ _ _ _ (by omega), ca_iv_n _ _ _ _ _ (by omega)]
theorem sm_comeL {g : ca_S} {h : rb_S} (T : sm_T g h) {s n j : Nat} (hs : s < 4) (h1 : 1 ≤ n) (h24 : n ≤ 24) (ht : sm_tb g (24 * s + n - 1) = some j) (h6 : h 29 (24 * s + n - 1) = 6) (h25 : h 25 (24 * s + n - 1) = 0) : sm_T (ca_come g s j) (rb_comes h (24 * s + n - 1)).1 := by
  obtain ⟨A, D, W, F, S, K, H⟩ := T
  obtain ⟨S2, K2⟩ := sm_putL S K (by omega : 24 * s + n - 1 < 96) ht h6
  have nh : ¬ rb_hs h (24 * s + n - 1) := fun z => z.elim (fun y => by rw [rb_here6 h6] at y; cases y) (fun y => y h25)
  have := (sm_comeT S K H hs h1 h24 nh (fun _ _ _ _ => rfl) S2 K2 ht).1
  rw [ca_iv_n _ _ _ _ _ (by omega), ca_iv_n _ _ _ _ _ (by omega)] at this
  exact this
theorem sm_rep {s : Nat} (hs : s < 4) : ∀ (f n : Nat) {g : ca_S} {h : rb_S} (a : Nat), n + f = 25 → 1 ≤ n → sm_T g h → (ca_rep s n f g a).2 = (rb_repF s n f h a).2 ∧ sm_T (ca_rep s n f g a).1 (rb_repF s n f h a).1
  | 0, n, g, h, a, _, _, T => ⟨rfl, T⟩
  | f + 1, n, g, h, a, hn, h1, T => by
    have hm : 24 * s + n - 1 < 96 := by omega
    have h24 : n ≤ 24 := by omega
    have T' := T
    obtain ⟨A, D, W, F, S, K, H⟩ := T'
    have eR : rb_repF s n (f + 1) h a = if rb_rpP h (24 * s + n - 1) then rb_repF s (n + 1) f (rb_comes h (24 * s + n - 1)).1 (a + 1) else rb_repF s (n + 1) f h a := rfl
    have eG : ca_rep s n (f + 1) g a = match ca_tb g s n with
      | none => ca_rep s (n + 1) f g a
      | some j => if ca_iv g 10 j 4 = 6 ∧ ca_gap g s n = true then ca_rep s (n + 1) f (ca_come g s j) (a + 1) else ca_rep s (n + 1) f g a := rfl
    rw [eR, eG]
    have et := sm_tbm g (s := s) h1 h24
    cases e : ca_tb g s n with
    | none =>
      rw [e] at et
      have hc : h 24 (24 * s + n - 1) = 0 := Classical.byContradiction (fun z => by
        obtain ⟨j, q, -⟩ := sm_came S.1.1 hm z
        rw [et] at q; cases q)
      rw [if_neg (fun z => z.1 hc)]
      exact sm_rep hs f (n + 1) a (by omega) (by omega) T
    | some j =>
      rw [e] at et
      have v := sm_val S.1.1 hm et
      have hg := sm_gapb S.1.1 hs h1 h24
      simp only
      by_cases hq : rb_rpP h (24 * s + n - 1)
      · rw [if_pos hq, if_pos ⟨by rw [← v.2.2.2.2.1]; exact hq.2.1, hg.mpr (fun z => z.elim (fun y => by rw [rb_here6 hq.2.1] at y; cases y) (fun y => y hq.2.2))⟩]
        exact sm_rep hs f (n + 1) (a + 1) (by omega) (by omega) (sm_comeL T hs h1 h24 et hq.2.1 hq.2.2)
      · rw [if_neg hq, if_neg (fun z => hq ⟨by rw [v.1]; decide, by rw [v.2.2.2.2.1]; exact z.1, Classical.byContradiction (fun y => hg.mp z.2 (Or.inr y))⟩)]
        exact sm_rep hs f (n + 1) a (by omega) (by omega) T
theorem rb_gap_mono {h h' : rb_S} {s : Nat} (hh : ∀ k, rb_hs h' (24 * s + k - 1) → rb_hs h (24 * s + k - 1)) : rb_gap h' s ≤ rb_gap h s := by
  refine Classical.byContradiction (fun z => ?_)
  have a := (rb_gap_sp h' s).1 (rb_gap h s) (rb_gap_ge h s) (by omega)
  have b := rb_gap_le h' s
  exact (rb_gap_sp h s).2 (by omega) (hh _ a)
/-- one held is lost -/
theorem sm_lose1 {g : ca_S} {h : rb_S} (T : sm_T g h) {m j : Nat} (hm : m < 96) (ht : sm_tb g m = some j) (h0 : h 29 m = 0) : sm_T (ca_si g 10 j 4 6) (mg_u h 29 m 6) := by
  obtain ⟨A, D, W, F, ⟨⟨I1, I2, I3, I4, I5, I6, I7, J1, J2, J3, J4, ⟨t, J5, J6⟩, J7, J8, J9⟩, ⟨L0, L1, L2, L3⟩, LA, LD, ⟨w1, w2, w3⟩, ⟨f1, f2, f3⟩, Ls, Ll⟩, K, H⟩ := T
  have e29 : ∀ x, mg_u h 29 m 6 29 x = if x = m then 6 else h 29 x := fun x => by
    by_cases hx : x = m
    · rw [hx, mg_u_s, if_pos rfl]
    · rw [mg_u_n _ _ _ _ (fun z => hx z.2), if_neg hx]
  have st : ∀ {w : Int32} {x : Nat}, ¬ w = 0 → ¬ w = 6 → (mg_u h 29 m 6 29 x = w ↔ h 29 x = w) := fun {w x} a b => by
    rw [e29]
    by_cases hx : x = m
    · rw [if_pos hx, hx, h0]
      exact ⟨fun z => absurd z.symm b, fun z => absurd z.symm a⟩
    · rw [if_neg hx]
  have pcp : ∀ w : Int32, ¬ w = 0 → ¬ w = 6 → cp (rb_q (mg_u h 29 m 6) w) = cp (rb_q h w) := fun w a b => cp_cg (fun x _ => by
    unfold rb_q
    have : (mg_u h 29 m 6 29 x = w) = (h 29 x = w) := propext (st a b)
    simp only [this]
    rfl)
  have wt : ∀ x, x < 96 → sm_wt (mg_u h 29 m 6) x = sm_wt h x := fun x _ => by
    unfold sm_wt
    show (if h 24 x = 0 then 0 else if mg_u h 29 m 6 29 x = 0 ∨ mg_u h 29 m 6 29 x = 6 then 0 else if mg_u h 29 m 6 29 x = 3 then 1 else if mg_u h 29 m 6 29 x = 4 then 2 else 3) = _
    rw [e29]
    by_cases hx : x = m
    · rw [if_pos hx, if_pos (Or.inr rfl), hx, h0, if_pos (Or.inl rfl)]
    · rw [if_neg hx]
  have ok2 : rb_ok (mg_u h 29 m 6) := by
    refine ⟨I7.1.cg (fun x => ⟨rfl, rfl⟩), ?_, ?_, ?_, ?_⟩
    · rw [pcp 1 (by decide) (by decide)]; exact I7.2.1
    · rw [pcp 5 (by decide) (by decide)]; exact I7.2.2.1
    · rw [pcp 1 (by decide) (by decide)]; exact I7.2.2.2.1
    · rw [pcp 5 (by decide) (by decide)]; exact I7.2.2.2.2
  refine ⟨A, D, W, F, ⟨⟨I1.m I4 hm ht 4 6 (Or.inl rfl), ?_, ?_, I4, fun x y hx hy => ?_, (ca_to.si I6 10 j 4 6 (by omega)).ok, ok2, J1, ?_, ?_, ?_, ⟨t, J5, ?_⟩, ?_, J8, J9⟩, ⟨L0, L1, L2, L3⟩, ⟨?_, LA.2.1, ?_⟩, ⟨?_, LD.2.1, ?_⟩, ⟨?_, w2, ?_⟩, ⟨?_, f2, ?_⟩, ?_, Ll⟩, K, ?_⟩
  · rw [ca_iv_n _ _ _ _ _ (by omega)]; exact I2
  · rw [ca_iv_n _ _ _ _ _ (by omega)]; exact I3
  · rw [ca_iv_n _ _ _ _ _ (by omega)]; exact I5 x y hx hy
  · intro x hx a b; exact J2 x hx a ((st (by decide) (by decide)).mp b)
  · intro x hx a b
    show h 33 x = 0
    rw [e29] at b
    by_cases hxm : x = m
    · rw [if_pos hxm] at b; rcases b with b | b <;> exact absurd b (by decide)
    · rw [if_neg hxm] at b; exact J3 x hx a b
  · intro x hx a b
    show h 30 x = 0
    exact J4 x hx (fun z => a ((st (by decide) (by decide)).mpr z)) (fun z => b ((st (by decide) (by decide)).mpr z))
  · rw [su_cg wt]; exact J6
  · intro x hx a b
    show h 34 x < h 20 16
    exact J7 x hx a (b.imp (st (by decide) (by decide)).mp (st (by decide) (by decide)).mp)
  · rw [pcp 1 (by decide) (by decide)]; exact LA.1
  · intro x hx
    obtain ⟨a, b, c⟩ := LA.2.2 x hx
    exact ⟨a, b, (st (by decide) (by decide)).mpr c⟩
  · rw [pcp 5 (by decide) (by decide)]; exact LD.1
  · intro x hx
    obtain ⟨a, b, c⟩ := LD.2.2 x hx
    exact ⟨a, b, (st (by decide) (by decide)).mpr c⟩
  · intro x
    rw [w1 x]
    exact ⟨fun ⟨a, b, c, d⟩ => ⟨a, b, (st (by decide) (by decide)).mpr c, d⟩, fun ⟨a, b, c, d⟩ => ⟨a, b, (st (by decide) (by decide)).mp c, d⟩⟩
  · rw [pcp 3 (by decide) (by decide)]; exact w3
  · intro x
    rw [f1 x]
    exact ⟨fun ⟨a, b, c, d⟩ => ⟨a, b, (st (by decide) (by decide)).mpr c, d⟩, fun ⟨a, b, c, d⟩ => ⟨a, b, (st (by decide) (by decide)).mp c, d⟩⟩
  · rw [pcp 4 (by decide) (by decide)]; exact f3
  · intro x hx
    rw [ca_iv_n _ _ _ _ _ (by omega)]; exact Ls x hx
  · intro s k hs k1 kg kc z
    have hle : rb_gap (mg_u h 29 m 6) s ≤ rb_gap h s := rb_gap_mono (fun k hz => by
      rcases hz with hz | hz
      · left
        unfold rb_here at hz ⊢
        rw [e29] at hz
        by_cases hx : 24 * s + k - 1 = m
        · rw [if_pos hx, decide_eq_false (p := ¬ (6 : Int32) = 6) (fun z => z rfl), Bool.and_false] at hz; cases hz
        · rw [if_neg hx] at hz; exact hz
      · exact Or.inr hz)
    rw [e29] at z
    by_cases hx : 24 * s + k - 1 = m
    · rw [if_pos hx] at z; exact absurd z (by decide)
    · rw [if_neg hx] at z; exact H s k hs k1 (by omega) kc z
theorem sm_cut {s : Nat} (hs : s < 4) : ∀ (f n : Nat) {g : ca_S} {h : rb_S} (a : Nat), n + f = 25 → 1 ≤ n → sm_T g h → (ca_lose s n f g a).2 = (rb_cutF (24 * s + n - 1) f h a).2 ∧ sm_T (ca_lose s n f g a).1 (rb_cutF (24 * s + n - 1) f h a).1
  | 0, n, g, h, a, _, _, T => ⟨rfl, T⟩
  | f + 1, n, g, h, a, hn, h1, T => by
    have hm : 24 * s + n - 1 < 96 := by omega
    have h24 : n ≤ 24 := by omega
    have T' := T
    obtain ⟨A, D, W, F, S, K, H⟩ := T'
    have eR : rb_cutF (24 * s + n - 1) (f + 1) h a = if ¬ h 24 (24 * s + n - 1) = 0 ∧ h 29 (24 * s + n - 1) = 0 then rb_cutF (24 * s + (n + 1) - 1) f (mg_u h 29 (24 * s + n - 1) 6) (a + 1) else rb_cutF (24 * s + (n + 1) - 1) f h a := by
      rw [show 24 * s + (n + 1) - 1 = 24 * s + n - 1 + 1 by omega]; rfl
    have eG : ca_lose s n (f + 1) g a = match ca_tb g s n with
      | none => ca_lose s (n + 1) f g a
      | some j => if ca_iv g 10 j 4 = 0 then ca_lose s (n + 1) f (ca_si g 10 j 4 6) (a + 1) else ca_lose s (n + 1) f g a := rfl
    rw [eR, eG]
    have et := sm_tbm g (s := s) h1 h24
    cases e : ca_tb g s n with
    | none =>
      rw [e] at et
      have hc : h 24 (24 * s + n - 1) = 0 := Classical.byContradiction (fun z => by
        obtain ⟨j, q, -⟩ := sm_came S.1.1 hm z
        rw [et] at q; cases q)
      rw [if_neg (fun z => z.1 hc)]
      exact sm_cut hs f (n + 1) a (by omega) (by omega) T
    | some j =>
      rw [e] at et
      have v := sm_val S.1.1 hm et
      simp only
      by_cases hq : h 29 (24 * s + n - 1) = 0
      · rw [if_pos (show ca_iv g 10 j 4 = 0 by rw [← v.2.2.2.2.1]; exact hq), if_pos (show ¬ h 24 (24 * s + n - 1) = 0 ∧ h 29 (24 * s + n - 1) = 0 from ⟨by rw [v.1]; decide, hq⟩)]
        exact sm_cut hs f (n + 1) (a + 1) (by omega) (by omega) (sm_lose1 T hm et hq)
      · rw [if_neg (show ¬ ca_iv g 10 j 4 = 0 from fun z => hq (by rw [v.2.2.2.2.1]; exact z)), if_neg (show ¬ (¬ h 24 (24 * s + n - 1) = 0 ∧ h 29 (24 * s + n - 1) = 0) from fun z => hq z.2)]
        exact sm_cut hs f (n + 1) a (by omega) (by omega) T
