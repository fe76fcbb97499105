/-! the class beside the reference: a message's turn on both sides -/
theorem mg_u_cm (f : rb_S) {a b : Nat} (i j : Nat) (v w : Int32) (hab : a ≠ b) : mg_u (mg_u f a i v) b j w = mg_u (mg_u f b j w) a i v := by
  funext k x
  by_cases h1 : k = a ∧ x = i
  · obtain ⟨rfl, rfl⟩ := h1
    rw [mg_u_s, mg_u_n _ _ _ _ (fun z => hab z.1), mg_u_s]
  · rw [mg_u_n _ a i v h1]
    by_cases h2 : k = b ∧ x = j
    · obtain ⟨rfl, rfl⟩ := h2
      rw [mg_u_s, mg_u_s]
    · rw [mg_u_n _ _ _ _ h2, mg_u_n _ _ _ _ h2, mg_u_n _ a i v h1]
theorem sm_ag.m {g : ca_S} {h : rb_S} (H : sm_ag (sm_ab g) h) (hj : sm_inj g) {m j : Nat} (hm : m < 96) (ht : sm_tb g m = some j) (f : Nat) (v : Int32) (hf : f = 4 ∨ f = 5 ∨ f = 6) : sm_ag (sm_ab (ca_si g 10 j f v)) (mg_u h (25 + f) m v) := (H.u (25 + f) m v).l (sm_ab_m hj hm ht f v hf)
theorem sm_ag.w {g : ca_S} {h : rb_S} (H : sm_ag (sm_ab g) h) (j : Nat) (v : Int32) : sm_ag (sm_ab (ca_si g 10 j 7 v)) h := H.l (fun k x _ _ => sm_ab_7 g j v k x)
theorem sm_ag.S {g : ca_S} {h : rb_S} (H : sm_ag (sm_ab g) h) (u f : Nat) (v : Int32) (hf : f < 3) : sm_ag (sm_ab (ca_si g 7 u f v)) (mg_u h (21 + f) u v) := (H.u (21 + f) u v).l (fun k x _ _ => sm_ab_s g u f v hf k x)
theorem sm_ag.F {g : ca_S} {h : rb_S} (H : sm_ag (sm_ab g) h) (u : Nat) (v : Int32) : sm_ag (sm_ab (ca_si g 3 0 u v)) (mg_u h 35 u v) := (H.u 35 u v).l (fun k x _ _ => sm_ab_f g u v k x)
theorem sm_val {g : ca_S} {h : rb_S} (H : sm_ag (sm_ab g) h) {m j : Nat} (hm : m < 96) (ht : sm_tb g m = some j) : h 24 m = 1 ∧ h 26 m = ca_iv g 10 j 1 ∧ h 27 m = Int32.ofNat (ca_ms g j) ∧ h 28 m = ca_iv g 10 j 3 ∧ h 29 m = ca_iv g 10 j 4 ∧ h 30 m = ca_iv g 10 j 5 ∧ h 31 m = ca_iv g 10 j 6 := by
  have e : ∀ k, sm_sh k → k ≠ 21 → k ≠ 22 → k ≠ 23 → k ≠ 25 → k ≠ 35 → h k m = sm_of g k (some j) := fun k hk h1 h2 h3 h5 h6 => by
    rw [← H k m hm hk]
    unfold sm_ab
    rw [if_neg h1, if_neg h2, if_neg h3, if_neg h5, if_neg h6, ht]
  exact ⟨e 24 (by omega) (by omega) (by omega) (by omega) (by omega) (by omega), e 26 (by omega) (by omega) (by omega) (by omega) (by omega) (by omega), e 27 (by omega) (by omega) (by omega) (by omega) (by omega) (by omega), e 28 (by omega) (by omega) (by omega) (by omega) (by omega) (by omega), e 29 (by omega) (by omega) (by omega) (by omega) (by omega) (by omega), e 30 (by omega) (by omega) (by omega) (by omega) (by omega) (by omega), e 31 (by omega) (by omega) (by omega) (by omega) (by omega) (by omega)⟩
theorem sm_sv {g : ca_S} {h : rb_S} (H : sm_ag (sm_ab g) h) {u : Nat} (hu : u < 96) : ca_iv g 7 u 0 = h 21 u ∧ ca_iv g 7 u 1 = h 22 u ∧ ca_iv g 7 u 2 = h 23 u ∧ ca_iv g 3 0 u = h 35 u := ⟨H 21 u hu (by omega), H 22 u hu (by omega), H 23 u hu (by omega), H 35 u hu (by omega)⟩
theorem sm_ms {g : ca_S} {h : rb_S} (I : sm_I g h) {m j : Nat} (hm : m < 96) (ht : sm_tb g m = some j) : ca_ms g j = rb_sub h m ∧ j < ca_nm g := by
  have hj : j < ca_nm g := I.2.2.2.2.2.1.1 _ _ _ ht
  have hs := (I.2.2.2.2.2.1.2.2.2 j hj).1
  have e := (sm_val I.1 hm ht).2.2.1
  unfold rb_sub
  rw [e, mi_tn (by omega)]
  exact ⟨rfl, hj⟩
theorem rb_dec_36 (h : rb_S) (m i : Nat) : (rb_dec h m).1 36 i = if rb_ns h m = 1 ∧ i = (h 20 18).toNatClampNeg then Int32.ofNat m else h 36 i := by
  rcases rb_dec_sh h m with ⟨e, n, -⟩ | ⟨e, n, -⟩ | ⟨e, n, -⟩ | ⟨e, n, -⟩ | ⟨e, n⟩
  · rw [if_neg (fun z => by rw [n] at z; exact absurd z.1 (by decide)), e]; rfl
  · rw [if_neg (fun z => by rw [n] at z; exact absurd z.1 (by decide)), e]; rfl
  · rw [if_neg (fun z => by rw [n] at z; exact absurd z.1 (by decide)), e]; rfl
  · rw [if_neg (fun z => by rw [n] at z; exact absurd z.1 (by decide)), e]; rfl
  · rw [e, n]
    show mg_u (mg_u (mg_u (mg_u (mg_u (mg_u h 30 m (rb_x1 h m)) 22 (rb_sub h m) (rb_x2 h m)) 21 (rb_sub h m) (rb_x3 h m)) 23 (rb_sub h m) (h 23 (rb_sub h m) + 1)) 29 m 1) 36 (h 20 18).toNatClampNeg (Int32.ofNat m) 36 i = _
    by_cases hi : i = (h 20 18).toNatClampNeg
    · rw [if_pos ⟨rfl, hi⟩, hi, mg_u_s]
    · rw [if_neg (fun z => hi z.2), mg_u_n _ _ _ _ (fun z => hi z.2)]
      rfl
theorem rb_dec_37 (h : rb_S) (m i : Nat) : (rb_dec h m).1 37 i = if rb_ns h m = 5 ∧ i = (h 20 20).toNatClampNeg then Int32.ofNat m else h 37 i := by
  rcases rb_dec_sh h m with ⟨e, n, -⟩ | ⟨e, n, -⟩ | ⟨e, n, -⟩ | ⟨e, n, -⟩ | ⟨e, n⟩
  · rw [if_neg (fun z => by rw [n] at z; exact absurd z.1 (by decide)), e]; rfl
  · rw [if_neg (fun z => by rw [n] at z; exact absurd z.1 (by decide)), e]; rfl
  · rw [if_neg (fun z => by rw [n] at z; exact absurd z.1 (by decide)), e]; rfl
  · rw [e, n]
    show mg_u (mg_u (mg_u h 35 (rb_fn h m) 0) 29 m 5) 37 (h 20 20).toNatClampNeg (Int32.ofNat m) 37 i = _
    by_cases hi : i = (h 20 20).toNatClampNeg
    · rw [if_pos ⟨rfl, hi⟩, hi, mg_u_s]
    · rw [if_neg (fun z => hi z.2), mg_u_n _ _ _ _ (fun z => hi z.2)]
      rfl
  · rw [if_neg (fun z => by rw [n] at z; exact absurd z.1 (by decide)), e]; rfl
theorem rb_dec_34 {h : rb_S} {m : Nat} (hn : rb_ns h m = 3 ∨ rb_ns h m = 4) : (rb_dec h m).1 34 m = h 20 16 := by
  rcases rb_dec_sh h m with ⟨e, n, -⟩ | ⟨e, n, -⟩ | ⟨e, n, -⟩ | ⟨e, n, -⟩ | ⟨e, n⟩
  · rw [n] at hn; rcases hn with z | z <;> exact absurd z (by decide)
  · rw [e]; exact mg_u_s (mg_u (mg_u h 29 m 3) 32 m (h 20 1)) 34 m (h 20 16)
  · rw [e]; exact mg_u_s (mg_u (mg_u (mg_u h 35 (rb_fn h m) 0) 29 m 4) 33 m 1) 34 m (h 20 16)
  · rw [n] at hn; rcases hn with z | z <;> exact absurd z (by decide)
  · rw [n] at hn; rcases hn with z | z <;> exact absurd z (by decide)
theorem rb_dec_32 {h : rb_S} {m : Nat} (hn : rb_ns h m = 3) : (rb_dec h m).1 32 m = h 20 1 := by
  rcases rb_dec_sh h m with ⟨e, n, -⟩ | ⟨e, n, -⟩ | ⟨e, n, -⟩ | ⟨e, n, -⟩ | ⟨e, n⟩
  · rw [n] at hn; exact absurd hn (by decide)
  · rw [e]; exact mg_u_s (mg_u h 29 m 3) 32 m (h 20 1)
  · rw [n] at hn; exact absurd hn (by decide)
  · rw [n] at hn; exact absurd hn (by decide)
  · rw [n] at hn; exact absurd hn (by decide)
theorem sm_done.tr {h : rb_S} {w : Int32} {k : Nat} {A : List Nat} (hA : sm_done h w k A) {m : Nat} (hm : m < 96) (hc : ¬ h 24 m = 0) (hw : ¬ h 29 m = w) (hk : ∀ i, (rb_dec h m).1 k i = if rb_ns h m = w ∧ i = A.length then Int32.ofNat m else h k i) : sm_done (rb_dec h m).1 w k (if rb_ns h m = w then A ++ [m] else A) := by
  have hcp := rb_dec_cp hm hc w
  rw [if_neg hw, Nat.add_zero] at hcp
  obtain ⟨h1, h2, h3⟩ := hA
  have old : ∀ x ∈ A, x < 96 ∧ ¬ (rb_dec h m).1 24 x = 0 ∧ (rb_dec h m).1 29 x = w := fun x hx => by
    obtain ⟨a, b, c⟩ := h3 x hx
    rw [rb_dec_k h m 24 x (by omega), rb_dec_29, if_neg (fun z : x = m => hw (by rw [← z]; exact c))]
    exact ⟨a, b, c⟩
  by_cases hn : rb_ns h m = w
  · rw [if_pos hn]
    rw [if_pos hn] at hcp
    refine ⟨by rw [List.length_append, List.length_singleton, h1, hcp], fun i hi => ?_, fun x hx => ?_⟩
    · rw [hk]
      rw [List.length_append, List.length_singleton] at hi
      by_cases hq : i = A.length
      · rw [if_pos ⟨hn, hq⟩, hq]
        simp
      · rw [if_neg (fun z => hq z.2), h2 i (by omega)]
        congr 1
        simp only [List.getD_eq_getElem?_getD]
        rw [List.getElem?_append_left (by omega)]
    · rcases List.mem_append.mp hx with hx | hx
      · exact old x hx
      · rw [List.mem_singleton.mp hx, rb_dec_k h m 24 m (by omega), rb_dec_29, if_pos rfl]
        exact ⟨hm, hc, hn⟩
  · rw [if_neg hn]
    rw [if_neg hn, Nat.add_zero] at hcp
    refine ⟨by rw [h1, hcp], fun i hi => ?_, old⟩
    rw [hk, if_neg (fun z => hn z.1)]
    exact h2 i hi
theorem sm_line.tr {h : rb_S} {w : Int32} {W : List Nat} {m : Nat} (hW : sm_line h w (some m) W) (J : sm_J h) (hm : m < 96) (hc : ¬ h 24 m = 0) (hw : w = 3 ∨ w = 4) : sm_line (rb_dec h m).1 w none (if rb_ns h m = w then W ++ [m] else W) := by
  have hcp := rb_dec_cp hm hc w
  obtain ⟨h1, h2, h3⟩ := hW
  have hx : W.length + (if h 29 m = w then 1 else 0) = cp (rb_q h w) := h3
  have hne : ∀ x ∈ W, x ≠ m := fun x hx e => ((h1 x).mp hx).2.2.2 (by rw [e])
  have e34 : ∀ x ∈ W, (rb_dec h m).1 34 x = h 34 x := fun x hx => rb_dec_x h m 34 x (hne x hx) (by omega)
  have pw : W.Pairwise (fun a b => (rb_dec h m).1 34 a < (rb_dec h m).1 34 b) := h2.imp_of_mem (fun ha hb hab => by rw [e34 _ ha, e34 _ hb]; exact hab)
  by_cases hn : rb_ns h m = w
  · rw [if_pos hn]
    rw [if_pos hn] at hcp
    refine ⟨fun x => ?_, ?_, ?_⟩
    · rw [rb_dec_k h m 24 x (by omega), rb_dec_29, List.mem_append, List.mem_singleton, h1 x]
      by_cases hxm : x = m
      · subst hxm
        rw [if_pos rfl]
        exact ⟨fun _ => ⟨hm, hc, hn, fun z => by cases z⟩, fun _ => Or.inr rfl⟩
      · rw [if_neg hxm]
        constructor
        · rintro (⟨a, b, c, -⟩ | e)
          · exact ⟨a, b, c, fun z => by cases z⟩
          · exact absurd e hxm
        · rintro ⟨a, b, c, -⟩
          exact Or.inl ⟨a, b, c, fun z => hxm (by cases z; rfl)⟩
    · refine List.pairwise_append.mpr ⟨pw, List.pairwise_singleton _ _, fun a ha b hb => ?_⟩
      rw [List.mem_singleton.mp hb, e34 a ha, rb_dec_34 (by rw [hn]; exact hw)]
      obtain ⟨q1, q2, q3, -⟩ := (h1 a).mp ha
      exact J.2.2.2.2.2.1 a q1 q2 (by rw [q3]; exact hw)
    · rw [List.length_append, List.length_singleton]
      show W.length + 1 + 0 = _
      omega
  · rw [if_neg hn]
    rw [if_neg hn] at hcp
    refine ⟨fun x => ?_, pw, ?_⟩
    · rw [rb_dec_k h m 24 x (by omega), rb_dec_29, h1 x]
      by_cases hxm : x = m
      · subst hxm
        rw [if_pos rfl]
        exact ⟨fun z => absurd rfl z.2.2.2, fun z => absurd z.2.2.1 hn⟩
      · rw [if_neg hxm]
        constructor
        · rintro ⟨a, b, c, -⟩
          exact ⟨a, b, c, fun z => by cases z⟩
        · rintro ⟨a, b, c, -⟩
          exact ⟨a, b, c, fun z => hxm (by cases z; rfl)⟩
    · show W.length + 0 = _
      omega
/-- a turn, from what the class's side did -/
theorem sm_tr {g g' : ca_S} {h : rb_S} {A D W F : List Nat} {m j : Nat} (S : sm_S g h A D W F (some m)) (hm : m < 96) (ht : sm_tb g m = some j) (hst : sm_may h m) (hto : ca_to g g') (hag : sm_ag (sm_ab g') (rb_dec h m).1) (h07 : ca_iv g' 0 0 7 = ca_iv g 0 0 7) (h08 : ca_iv g' 0 0 8 = ca_iv g 0 0 8)
    (hl0 : ca_ln g' 0 = if rb_ns h m = 1 then ca_ln g 0 ++ [j] else ca_ln g 0) (hl1 : ca_ln g' 1 = if rb_ns h m = 5 then ca_ln g 1 ++ [j] else ca_ln g 1) (hl2 : ca_ln g' 2 = if rb_ns h m = 3 then ca_ln g 2 ++ [j] else ca_ln g 2) (hl3 : ca_ln g' 3 = if rb_ns h m = 4 then ca_ln g 3 ++ [j] else ca_ln g 3)
    (h7 : ∀ j2, ca_iv g' 10 j2 7 = if j2 = j ∧ rb_ns h m = 3 then ca_iv g 0 0 7 else ca_iv g 10 j2 7) (h12 : rb_ns h m = 3 → W.length < 12) :
    sm_S g' (rb_dec h m).1 (if rb_ns h m = 1 then A ++ [m] else A) (if rb_ns h m = 5 then D ++ [m] else D) (if rb_ns h m = 3 then W ++ [m] else W) (if rb_ns h m = 4 then F ++ [m] else F) none := by
  obtain ⟨⟨I1, I2, I3, I4, I5, I6, I7, I8⟩, ⟨L0, L1, L2, L3⟩, LA, LD, LW, LF, Ls, Ll⟩ := S
  have hc : ¬ h 24 m = 0 := by rw [(sm_val I1 hm ht).1]; decide
  have hs1 : ¬ h 29 m = 1 := by rcases hst with q | ⟨q, -⟩ | q <;> rw [q] <;> decide
  have hs5 : ¬ h 29 m = 5 := by rcases hst with q | ⟨q, -⟩ | q <;> rw [q] <;> decide
  have etb : sm_tb g' = sm_tb g := by funext x; unfold sm_tb; rw [hto.1]
  have ej : sm_j g' = sm_j g := by funext x; unfold sm_j; rw [etb]
  have ejm : sm_j g m = j := by unfold sm_j; rw [ht]; rfl
  have mapif : ∀ (w : Int32) (l : List Nat), (if rb_ns h m = w then l.map (sm_j g) ++ [j] else l.map (sm_j g)) = (if rb_ns h m = w then l ++ [m] else l).map (sm_j g) := fun w l => by
    split
    · rw [List.map_append, List.map_singleton, ejm]
    · rfl
  refine ⟨⟨hag, ?_, ?_, ?_, ?_, hto.ok, rb_dec_ok I7 hm hc hs1 hs5, sm_decJ I8 I7 hm hc hst⟩, ⟨?_, ?_, ?_, ?_⟩, ?_, ?_, ?_, ?_, ?_, ?_⟩
  · rw [h07, rb_dec_20 h m 1 (by omega)]; exact I2
  · rw [h08, rb_dec_20 h m 22 (by omega)]; exact I3
  · intro a b c; rw [etb]; exact I4 a b c
  · intro a b ha; rw [etb]; intro hb; rw [hto.2.2.2.1 b 0 (Or.inl rfl)]; exact I5 a b ha hb
  · rw [hl0, L0, ej, mapif]
  · rw [hl1, L1, ej, mapif]
  · rw [hl2, L2, ej, mapif]
  · rw [hl3, L3, ej, mapif]
  · refine LA.tr hm hc hs1 (fun i => ?_)
    rw [rb_dec_36, I7.2.1, mi_tn (by have := cp_le (rb_q h 1); omega), ← LA.1]
  · refine LD.tr hm hc hs5 (fun i => ?_)
    rw [rb_dec_37, I7.2.2.1, mi_tn (by have := cp_le (rb_q h 5); omega), ← LD.1]
  · exact LW.tr I8 hm hc (Or.inl rfl)
  · exact LF.tr I8 hm hc (Or.inr rfl)
  · intro x hx
    rw [ej, h7]
    have old : x ∈ W → (if sm_j g x = j ∧ rb_ns h m = 3 then ca_iv g 0 0 7 else ca_iv g 10 (sm_j g x) 7) = (rb_dec h m).1 32 x := fun hx => by
      obtain ⟨q1, q2, q3, q4⟩ := (LW.1 x).mp hx
      have hxm : x ≠ m := fun z => q4 (by rw [z])
      have hne : sm_j g x ≠ j := fun z => by
        have hx' : ∃ jx, sm_tb g x = some jx := by
          cases e : sm_tb g x with
          | some y => exact ⟨y, rfl⟩
          | none =>
            exfalso
            have := I1 24 x q1 (by omega)
            unfold sm_ab at this
            rw [if_neg (by decide), if_neg (by decide), if_neg (by decide), if_neg (by decide), if_neg (by decide), e] at this
            exact q2 this.symm
        obtain ⟨jx, hjx⟩ := hx'
        have : sm_j g x = jx := by unfold sm_j; rw [hjx]; rfl
        rw [this] at z
        rw [z] at hjx
        exact hxm (I4 x m j q1 hm hjx ht)
      rw [if_neg (fun z => hne z.1), rb_dec_x h m 32 x hxm (by omega)]
      exact Ls x hx
    by_cases hn : rb_ns h m = 3
    · rw [if_pos hn] at hx
      rcases List.mem_append.mp hx with hx | hx
      · exact old hx
      · rw [List.mem_singleton.mp hx, ejm, if_pos ⟨rfl, hn⟩, rb_dec_32 hn]
        exact I2
    · rw [if_neg hn] at hx
      exact old hx
  · by_cases hn : rb_ns h m = 3
    · rw [if_pos hn, List.length_append, List.length_singleton]
      have := h12 hn
      omega
    · rw [if_neg hn]; exact Ll
