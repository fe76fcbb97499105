/-! the class beside the reference: waking, a whole turn -/
theorem sm_came {g : ca_S} {h : rb_S} (H : sm_ag (sm_ab g) h) {x : Nat} (hx : x < 96) (hc : ¬ h 24 x = 0) : ∃ j, sm_tb g x = some j ∧ sm_j g x = j := by
  cases e : sm_tb g x with
  | some y => exact ⟨y, rfl, by unfold sm_j; rw [e]; rfl⟩
  | none =>
    exfalso
    have := H 24 x hx (by omega)
    unfold sm_ab at this
    rw [if_neg (by decide), if_neg (by decide), if_neg (by decide), if_neg (by decide), if_neg (by decide), e] at this
    exact hc this.symm
theorem rb_dec_21n {h : rb_S} {m v : Nat} (hv : v ≠ rb_sub h m) : (rb_dec h m).1 21 v = h 21 v := by
  rcases rb_dec_sh h m with ⟨e, -, -⟩ | ⟨e, -, -⟩ | ⟨e, -, -⟩ | ⟨e, -, -⟩ | ⟨e, -⟩
  · rw [e]; rfl
  · rw [e]; rfl
  · rw [e]; rfl
  · rw [e]; rfl
  · rw [e]
    have e2 : rb_acts h m 21 v = mg_u (mg_u (mg_u h 30 m (rb_x1 h m)) 22 (rb_sub h m) (rb_x2 h m)) 21 (rb_sub h m) (rb_x3 h m) 21 v := rfl
    show rb_acts h m 21 v = _
    rw [e2, mg_u_n _ _ _ _ (fun z => hv z.2)]
    rfl
theorem rb_dec_21w {h : rb_S} {m v : Nat} (hn : rb_ns h m = 3) : (rb_dec h m).1 21 v = h 21 v := by
  rcases rb_dec_sh h m with ⟨e, n, -⟩ | ⟨e, n, -⟩ | ⟨e, n, -⟩ | ⟨e, n, -⟩ | ⟨e, n⟩
  · rw [n] at hn; exact absurd hn (by decide)
  · rw [e]; rfl
  · rw [n] at hn; exact absurd hn (by decide)
  · rw [n] at hn; exact absurd hn (by decide)
  · rw [n] at hn; exact absurd hn (by decide)
theorem rb_dec_16 {h : rb_S} (J : sm_J h) (m : Nat) : h 20 16 ≤ (rb_dec h m).1 20 16 := by
  obtain ⟨t, J5, J6⟩ := J.2.2.2.2.1
  have t288 : t ≤ 288 := Nat.le_trans J6 (su_le (sm_wt_le h))
  have h1 : h 20 16 ≤ h 20 16 + 1 := by rw [J5]; exact Int32.le_of_lt (sm_t1 t288)
  rcases rb_dec_sh h m with ⟨e, n, -⟩ | ⟨e, n, -⟩ | ⟨e, n, -⟩ | ⟨e, n, -⟩ | ⟨e, n⟩
  · rw [e]; exact Int32.le_refl _
  · rw [e]; exact h1
  · rw [e]; exact h1
  · rw [e]; exact h1
  · rw [e]; exact Int32.le_refl _
/-- the failed line grows at its end -/
def sm_ext (h : rb_S) (F : List Nat) (h' : rb_S) (F' : List Nat) : Prop := ∃ X, F' = F ++ X ∧ (∀ x ∈ F, h' 34 x = h 34 x) ∧ (∀ x ∈ X, h 20 16 ≤ h' 34 x) ∧ h 20 16 ≤ h' 20 16
theorem sm_ext.rf (h : rb_S) (F : List Nat) : sm_ext h F h F := ⟨[], by simp, fun _ _ => rfl, fun _ h => (by cases h), Int32.le_refl _⟩
theorem sm_ext.tr {h h' h2 : rb_S} {F F' F2 : List Nat} (a : sm_ext h F h' F') (b : sm_ext h' F' h2 F2) : sm_ext h F h2 F2 := by
  obtain ⟨X, rfl, a2, a3, a4⟩ := a
  obtain ⟨Y, rfl, b2, b3, b4⟩ := b
  refine ⟨X ++ Y, by simp, fun x hx => (b2 x (List.mem_append.mpr (Or.inl hx))).trans (a2 x hx), fun x hx => ?_, Int32.le_trans a4 b4⟩
  rcases List.mem_append.mp hx with hx | hx
  · rw [b2 x (List.mem_append.mpr (Or.inr hx))]; exact a3 x hx
  · exact Int32.le_trans a4 (b3 x hx)
theorem sm_ext.dec {g : ca_S} {h : rb_S} {A D W F : List Nat} {m : Nat} (S : sm_S g h A D W F (some m)) : sm_ext h F (rb_dec h m).1 (if rb_ns h m = 4 then F ++ [m] else F) := by
  have hF := S.2.2.2.2.2.1.1
  have e : ∀ x ∈ F, (rb_dec h m).1 34 x = h 34 x := fun x hx => rb_dec_x h m 34 x (fun z => ((hF x).mp hx).2.2.2 (by rw [z])) (by omega)
  have l := rb_dec_16 S.1.2.2.2.2.2.2.2 m
  by_cases hn : rb_ns h m = 4
  · rw [if_pos hn]
    refine ⟨[m], rfl, e, fun x hx => ?_, l⟩
    rw [List.mem_singleton.mp hx, rb_dec_34 (Or.inr hn)]
    exact Int32.le_refl _
  · rw [if_neg hn]
    exact ⟨[], by simp, e, fun _ h => (by cases h), l⟩
/-- one is taken out of the waiting line -/
theorem sm_takeW {g : ca_S} {h : rb_S} {A D W1 W2 F : List Nat} {m : Nat} (S : sm_S g h A D (W1 ++ m :: W2) F none) : sm_S (ca_sn g 2 ((W1 ++ W2).map (sm_j g))) h A D (W1 ++ W2) F (some m) := by
  obtain ⟨⟨I1, I2, I3, I4, I5, I6, I7, I8⟩, ⟨L0, L1, L2, L3⟩, LA, LD, ⟨w1, w2, w3⟩, ⟨f1, f2, f3⟩, Ls, Ll⟩ := S
  have hm := (w1 m).mp (by simp)
  have sub : ∀ x, x ∈ W1 ++ W2 → x ∈ W1 ++ m :: W2 := fun x hx => by
    rcases List.mem_append.mp hx with q | q
    · exact List.mem_append.mpr (Or.inl q)
    · exact List.mem_append.mpr (Or.inr (List.mem_cons_of_mem _ q))
  have nd : m ∉ W1 ++ W2 := fun hx => by
    obtain ⟨p1, p2, p3⟩ := List.pairwise_append.mp w2
    rcases List.mem_append.mp hx with q | q
    · exact absurd (p3 m q m List.mem_cons_self) Int32.lt_irrefl
    · exact absurd ((List.pairwise_cons.mp p2).1 m q) Int32.lt_irrefl
  have lenW : (W1 ++ m :: W2).length = (W1 ++ W2).length + 1 := by simp; omega
  refine ⟨⟨I1, I2, I3, I4, I5, (ca_to.sn I6 2 _ (fun j hj => ?_) ?_).ok, I7, I8⟩, ⟨L0, L1, rfl, L3⟩, LA, LD, ⟨fun x => ?_, ?_, ?_⟩, ⟨fun x => ?_, f2, ?_⟩, fun x hx => Ls x (sub x hx), by omega⟩
  · obtain ⟨y, hy, rfl⟩ := List.mem_map.mp hj
    exact I6.2.1 2 _ (by rw [L2]; exact List.mem_map_of_mem (sub y hy))
  · rw [List.length_map]; omega
  · constructor
    · intro hx
      obtain ⟨a, b, c, -⟩ := (w1 x).mp (sub x hx)
      exact ⟨a, b, c, fun z => by cases z; exact nd hx⟩
    · rintro ⟨a, b, c, d⟩
      have := (w1 x).mpr ⟨a, b, c, fun z => by cases z⟩
      rcases List.mem_append.mp this with q | q
      · exact List.mem_append.mpr (Or.inl q)
      · rcases List.mem_cons.mp q with q | q
        · exact absurd (by rw [q]) d
        · exact List.mem_append.mpr (Or.inr q)
  · obtain ⟨p1, p2, p3⟩ := List.pairwise_append.mp w2
    exact List.pairwise_append.mpr ⟨p1, (List.pairwise_cons.mp p2).2, fun a ha b hb => p3 a ha b (List.mem_cons_of_mem _ hb)⟩
  · rw [show sm_xc h 3 (some m) = 1 from if_pos hm.2.2.1]
    have : (W1 ++ m :: W2).length + 0 = cp (rb_q h 3) := w3
    omega
  · rw [f1 x]
    exact ⟨fun ⟨a, b, c, _⟩ => ⟨a, b, c, fun z => by cases z; rw [hm.2.2.1] at c; exact absurd c (by decide)⟩, fun ⟨a, b, c, _⟩ => ⟨a, b, c, fun z => by cases z⟩⟩
  · rw [show sm_xc h 4 (some m) = 0 from if_neg (by rw [hm.2.2.1]; decide)]
    exact f3
/-- one that is held may have its turn -/
theorem sm_held {g : ca_S} {h : rb_S} {A D W F : List Nat} {m : Nat} (S : sm_S g h A D W F none) (h0 : h 29 m = 0) : sm_S g h A D W F (some m) := by
  obtain ⟨I, ⟨L0, L1, L2, L3⟩, LA, LD, ⟨w1, w2, w3⟩, ⟨f1, f2, f3⟩, Ls, Ll⟩ := S
  refine ⟨I, ⟨L0, L1, L2, L3⟩, LA, LD, ⟨fun x => ?_, w2, ?_⟩, ⟨fun x => ?_, f2, ?_⟩, Ls, Ll⟩
  · rw [w1 x]
    exact ⟨fun ⟨a, b, c, _⟩ => ⟨a, b, c, fun z => by cases z; rw [h0] at c; exact absurd c (by decide)⟩, fun ⟨a, b, c, _⟩ => ⟨a, b, c, fun z => by cases z⟩⟩
  · rw [show sm_xc h 3 (some m) = 0 from if_neg (by rw [h0]; decide)]; exact w3
  · rw [f1 x]
    exact ⟨fun ⟨a, b, c, _⟩ => ⟨a, b, c, fun z => by cases z; rw [h0] at c; exact absurd c (by decide)⟩, fun ⟨a, b, c, _⟩ => ⟨a, b, c, fun z => by cases z⟩⟩
  · rw [show sm_xc h 4 (some m) = 0 from if_neg (by rw [h0]; decide)]; exact f3
/-- all that wait, wait for what is not known -/
def sm_K (h : rb_S) (W : List Nat) : Prop := ∀ x ∈ W, h 21 (rb_sub h x) = 0
theorem sm_u1 {u : Nat} (hu : u < 16) : ¬ Int32.ofNat u = -1 := fun z => by
  have := congrArg Int32.toInt z
  rw [mi_ti (by omega)] at this
  have e : (-1 : Int32).toInt = -1 := rfl
  omega
theorem sm_isW {g : ca_S} {h : rb_S} {A D W F : List Nat} (S : sm_S g h A D W F none) {u : Nat} (hu : u < 16) : ∀ x, (x < 96 ∧ rb_is h 3 (Int32.ofNat u) (h 20 16) x) ↔ (x ∈ W ∧ decide (rb_sub h x = u) = true) := by
  intro x
  have ho := S.1.2.2.2.2.2.2.1
  have J := S.1.2.2.2.2.2.2.2
  rw [S.2.2.2.2.1.1 x, decide_eq_true_eq]
  constructor
  · rintro ⟨a, b, c, d, -⟩
    refine ⟨⟨a, b, c, fun z => by cases z⟩, ?_⟩
    rcases d with d | d
    · exact absurd d (sm_u1 hu)
    · unfold rb_sub; rw [d, mi_tn (by omega)]
  · rintro ⟨⟨a, b, c, -⟩, d⟩
    exact ⟨a, b, c, Or.inr (by rw [(ho.1 x a).1.1, d]), Int32.not_le.mpr (J.2.2.2.2.2.1 x a b (Or.inl c))⟩
theorem sm_pW {g : ca_S} {h : rb_S} {A D W F : List Nat} (S : sm_S g h A D W F none) (u : Nat) : ∀ x ∈ W, decide (ca_ms g (sm_j g x) = u) = decide (rb_sub h x = u) := by
  intro x hx
  obtain ⟨a, b, -, -⟩ := (S.2.2.2.2.1.1 x).mp hx
  obtain ⟨j, h1, h2⟩ := sm_came S.1.1 a b
  rw [h2, (sm_ms S.1 a h1).1]
theorem sm_wake {u : Nat} (hu : u < 16) : ∀ (n f : Nat) {g : ca_S} {h : rb_S} {A D W F : List Nat}, sm_S g h A D W F none → ¬ h 21 u = 0 → (∀ x ∈ W, rb_sub h x ≠ u → h 21 (rb_sub h x) = 0) → W.length ≤ n → W.length < f → ∃ A' D' W' F', sm_S (ca_wake u n g) (rb_wake u f h) A' D' W' F' none ∧ sm_K (rb_wake u f h) W' ∧ sm_ext h F (rb_wake u f h) F' := by
  intro n
  induction n with
  | zero =>
    intro f g h A D W F S hk hK hn hf
    have hW : W = [] := List.length_eq_zero_iff.mp (by omega)
    subst hW
    have e : rb_first h 3 (Int32.ofNat u) (h 20 16) = none := sl_none (sm_isW S hu) (fun _ h => by cases h)
    match f, hf with
    | f + 1, _ =>
      rw [rb_wake_N e]
      exact ⟨A, D, [], F, S, fun _ h => (by cases h), sm_ext.rf h F⟩
  | succ n ih =>
    intro f g h A D W F S hk hK hn hf
    match f, hf with
    | f + 1, hf =>
      rcases sl_split (fun x => decide (rb_sub h x = u)) W with hno | ⟨W1, m, W2, rfl, hm, h1⟩
      · have e : rb_first h 3 (Int32.ofNat u) (h 20 16) = none := sl_none (sm_isW S hu) hno
        have e2 : ca_first g u = none := by
          unfold ca_first
          rw [S.2.1.2.2.1]
          exact sl_idxN _ _ _ (fun x hx => by rw [sm_pW S u x hx]; exact hno x hx)
        rw [rb_wake_N e]
        have e3 : ca_wake u (n + 1) g = g := by unfold ca_wake; rw [e2]
        rw [e3]
        exact ⟨A, D, W, F, S, fun x hx => hK x hx (of_decide_eq_false (hno x hx)), sm_ext.rf h F⟩
      · have e : rb_first h 3 (Int32.ofNat u) (h 20 16) = some m := sl_first S.2.2.2.2.1.2.1 (sm_isW S hu) rfl hm h1
        have hmW : m ∈ W1 ++ m :: W2 := by simp
        obtain ⟨m1, m2, m3, -⟩ := (S.2.2.2.2.1.1 m).mp hmW
        obtain ⟨j, hj, hjj⟩ := sm_came S.1.1 m1 m2
        have hsub : rb_sub h m = u := of_decide_eq_true hm
        have e2 : ca_first g u = some W1.length := by
          unfold ca_first
          rw [S.2.1.2.2.1]
          refine sl_idx (sm_j g) _ (fun x => decide (rb_sub h x = u)) W1 m W2 (fun x hx => ?_) ?_
          · rw [sm_pW S u x (by simp [hx])]; exact h1 x hx
          · rw [sm_pW S u m hmW]; exact hm
        have S2 := sm_takeW S
        have hmay : sm_may h m := Or.inr (Or.inl ⟨m3, by rw [hsub]; exact hk⟩)
        have h33 : h 33 m = 0 := S.1.2.2.2.2.2.2.2.2.2.1 m m1 m2 (Or.inr m3)
        have S3 := sm_settle S2 m1 hj hmay
        rw [decide_eq_false (fun z => z h33)] at S3
        have hn3 : ¬ rb_ns h m = 3 := rb_ns_3 (by rw [hsub]; exact hk)
        rw [if_neg hn3] at S3
        have E1 := sm_ext.dec S2
        have e3 : ca_wake u (n + 1) g = ca_wake u n (ca_settle (ca_sn g 2 ((W1 ++ W2).map (sm_j g))) j false) := by
          show (match ca_first g u with | none => g | some i => ca_wake u n (ca_settle (ca_sn g 2 ((ca_ln g 2).eraseIdx i)) ((ca_ln g 2).getD i 0) false)) = _
          rw [e2]
          show ca_wake u n (ca_settle (ca_sn g 2 ((ca_ln g 2).eraseIdx W1.length)) ((ca_ln g 2).getD W1.length 0) false) = _
          rw [S.2.1.2.2.1, sl_erase, sl_get, hjj]
        rw [e3, rb_wake_S e]
        have lenW : (W1 ++ m :: W2).length = (W1 ++ W2).length + 1 := by simp; omega
        obtain ⟨A', D', W', F', q1, q2, q3⟩ := ih f S3 (rb_dec_21 hk) (fun x hx hxu => by
          have ex : rb_sub (rb_dec h m).1 x = rb_sub h x := rb_sub_cg (rb_dec_k h m 27 x (by omega))
          rw [ex] at hxu ⊢
          rw [rb_dec_21n (by rw [hsub]; exact hxu)]
          refine hK x ?_ hxu
          rcases List.mem_append.mp hx with q | q
          · exact List.mem_append.mpr (Or.inl q)
          · exact List.mem_append.mpr (Or.inr (List.mem_cons_of_mem _ q))) (by omega) (by omega)
        exact ⟨A', D', W', F', q1, q2, E1.tr q3⟩
/-- a whole turn -/
theorem sm_turn {g : ca_S} {h : rb_S} {A D W F : List Nat} {m j : Nat} (S : sm_S g h A D W F (some m)) (K : sm_K h W) (hm : m < 96) (ht : sm_tb g m = some j) (hst : sm_may h m) :
    ∃ A' D' W' F', sm_S (ca_turn g j (decide (¬ h 33 m = 0))) (rb_takes h m) A' D' W' F' none ∧ sm_K (rb_takes h m) W' ∧ sm_ext h F (rb_takes h m) F' := by
  have S1 := sm_settle S hm ht hst
  have E1 := sm_ext.dec S
  have hms := (sm_ms S.1 hm ht).1
  have hu := (S.1.2.2.2.2.2.2.1.1 m hm).1.2
  have ex : ∀ x, rb_sub (rb_dec h m).1 x = rb_sub h x := fun x => rb_sub_cg (rb_dec_k h m 27 x (by omega))
  have hv := (sm_sv S1.1.1 (u := rb_sub h m) (by omega)).1
  have eT : ca_turn g j (decide (¬ h 33 m = 0)) = if (rb_dec h m).1 21 (rb_sub h m) = 0 then ca_settle g j (decide (¬ h 33 m = 0)) else ca_wake (rb_sub h m) 12 (ca_settle g j (decide (¬ h 33 m = 0))) := by
    unfold ca_turn
    simp only
    rw [hms, hv]
  rw [eT]
  by_cases hz : (rb_dec h m).1 21 (rb_sub h m) = 0
  · have eR : rb_takes h m = (rb_dec h m).1 := if_neg (fun z => z.2 hz)
    rw [if_pos hz, eR]
    refine ⟨_, _, _, _, S1, fun x hx => ?_, E1⟩
    rw [ex]
    by_cases hxu : rb_sub h x = rb_sub h m
    · rw [hxu]; exact hz
    · rw [rb_dec_21n hxu]
      by_cases hn : rb_ns h m = 3
      · rw [if_pos hn] at hx
        rcases List.mem_append.mp hx with hx | hx
        · exact K x hx
        · rw [List.mem_singleton.mp hx] at hxu; exact absurd rfl hxu
      · rw [if_neg hn] at hx; exact K x hx
  · rw [if_neg hz]
    have hn : ¬ rb_ns h m = 3 := fun hn => by
      have z := Classical.byContradiction (fun z => rb_ns_3 (h := h) (m := m) z hn)
      exact hz (by rw [rb_dec_21w hn]; exact z)
    rw [if_neg hn] at S1
    have hK2 : ∀ x ∈ W, rb_sub (rb_dec h m).1 x ≠ rb_sub h m → (rb_dec h m).1 21 (rb_sub (rb_dec h m).1 x) = 0 := fun x hx hxu => by
      rw [ex] at hxu ⊢
      rw [rb_dec_21n hxu]
      exact K x hx
    have Ll := S1.2.2.2.2.2.2.2
    obtain ⟨A', D', W', F', q1, q2, q3⟩ := sm_wake hu 12 97 S1 hz hK2 Ll (by omega)
    by_cases hk : h 21 (rb_sub h m) = 0
    · have eR : rb_takes h m = rb_wake (rb_sub h m) 97 (rb_dec h m).1 := if_pos ⟨hk, hz⟩
      rw [eR]
      exact ⟨A', D', W', F', q1, q2, E1.tr q3⟩
    · have eR : rb_takes h m = (rb_dec h m).1 := if_neg (fun z => hk z.1)
      have e0 : rb_first (rb_dec h m).1 3 (Int32.ofNat (rb_sub h m)) ((rb_dec h m).1 20 16) = none := sl_none (sm_isW S1 hu) (fun x hx => decide_eq_false (fun z => by
        rw [ex] at z
        exact hk (by rw [← z]; exact K x hx)))
      rw [rb_wake_N e0] at q1 q2 q3
      rw [eR]
      exact ⟨A', D', W', F', q1, q2, E1.tr q3⟩
