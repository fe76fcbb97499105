/-! the class beside the reference: tick, skip, point, fails -/
theorem sm_die_H {h : rb_S} (H : sm_H h) {m : Nat} (h3 : h 29 m = 3) : sm_H (rb_die h m) := by
  have e29 : ∀ x, rb_die h m 29 x = if x = m then 5 else h 29 x := fun x => by
    show mg_u h 29 m 5 29 x = _
    by_cases hx : x = m
    · rw [hx, mg_u_s, if_pos rfl]
    · rw [mg_u_n _ _ _ _ (fun z => hx z.2), if_neg hx]
  intro s k hs k1 kg kc z
  have hg : rb_gap (rb_die h m) s = rb_gap h s := rb_gap_here (fun x => ⟨by
    unfold rb_here
    rw [e29]
    show (decide (¬ h 24 x = 0) && decide (¬ (if x = m then 5 else h 29 x) = 6)) = _
    by_cases hx : x = m
    · rw [if_pos hx, hx, h3]; rfl
    · rw [if_neg hx], rfl⟩)
  rw [hg] at kg
  rw [e29] at z
  by_cases hx : 24 * s + k - 1 = m
  · rw [if_pos hx] at z; exact absurd z (by decide)
  · rw [if_neg hx] at z; exact H s k hs k1 kg kc z
theorem sm_long : ∀ (n f : Nat) {g : ca_S} {h : rb_S} {A D W F : List Nat}, sm_S g h A D W F none → sm_K h W → sm_H h → W.length = n → n < f → sm_T (ca_longs n g) (rb_long f h) := by
  have isW : ∀ {g : ca_S} {h : rb_S} {A D W F : List Nat}, sm_S g h A D W F none → ∀ x, (x < 96 ∧ rb_is h 3 (-1) (h 20 16) x) ↔ (x ∈ W ∧ (fun _ => true) x = true) := fun {g h A D W F} S x => by
    rw [S.2.2.2.2.1.1 x]
    constructor
    · rintro ⟨a, b, c, -, -⟩
      exact ⟨⟨a, b, c, fun z => by cases z⟩, rfl⟩
    · rintro ⟨⟨a, b, c, -⟩, -⟩
      exact ⟨a, b, c, Or.inl rfl, Int32.not_le.mpr (S.1.2.2.2.2.2.2.2.2.2.2.2.2.1 x a b (Or.inl c))⟩
  intro n
  induction n with
  | zero =>
    intro f g h A D W F S K H hl hf
    have e0 : W = [] := List.length_eq_zero_iff.mp hl
    subst e0
    have e := sl_none (isW S) (fun _ h => by cases h)
    match f, hf with
    | f + 1, _ => rw [rb_long_N e]; exact ⟨A, D, [], F, S, K, H⟩
  | succ n ih =>
    intro f g h A D W F S K H hl hf
    match f, hf, W, hl with
    | f + 1, hf, m :: W1, hl =>
      obtain ⟨m1, m2, m3, -⟩ := (S.2.2.2.2.1.1 m).mp List.mem_cons_self
      have e := sl_first S.2.2.2.2.1.2.1 (isW S) (W1 := []) (W2 := W1) rfl rfl (fun _ h => by cases h)
      obtain ⟨j, hj, hjj⟩ := sm_came S.1.1 m1 m2
      have e7 : ca_iv g 10 j 7 = h 32 m := by rw [← hjj]; exact S.2.2.2.2.2.2.1 m List.mem_cons_self
      have eG : ca_longs (n + 1) g = if ca_iv g 0 0 7 - ca_iv g 10 j 7 ≤ 50 then g else ca_longs n (ca_app (ca_si (ca_sn g 2 (W1.map (sm_j g))) 10 j 4 5) 1 j) := by
        show (match ca_ln g 2 with | [] => g | j :: r => if ca_iv g 0 0 7 - ca_iv g 10 j 7 ≤ 50 then g else ca_longs n (ca_app (ca_si (ca_sn g 2 r) 10 j 4 5) 1 j)) = _
        rw [S.2.1.2.2.1, List.map_cons, hjj]
      rw [eG, rb_long_S e, e7, S.1.2.1]
      by_cases hq : h 20 1 - h 32 m ≤ 50
      · rw [if_pos hq, if_pos hq]
        exact ⟨A, D, m :: W1, F, S, K, H⟩
      · rw [if_neg hq, if_neg hq]
        have S2 := sm_takeW (W1 := []) (W2 := W1) S
        exact ih f (sm_die S2 m1 hj m3) (fun x hx => K x (List.mem_cons_of_mem _ hx)) (sm_die_H H m3) (by rw [List.length_cons] at hl; show W1.length = n; omega) (by omega)
theorem sm_tick {g : ca_S} {h : rb_S} (T : sm_T g h) {t : Int32} (h1 : ¬ t < h 20 1) (h2 : ¬ 100000 < t) :
    sm_T (ca_tick g t) (rb_tick h t) ∧ rb_first (rb_again (h 20 16) 400 (mg_u (mg_u h 20 0 0) 20 1 t)) 4 (-1) (h 20 16) = none ∧ Int32.ofNat (ca_ln (ca_tick g t) 1).length - Int32.ofNat (ca_ln g 1).length = rb_tick h t 20 20 - h 20 20 := by
  have dl : ∀ {g : ca_S} {h : rb_S}, sm_T g h → Int32.ofNat (ca_ln g 1).length = h 20 20 := fun {g h} ⟨A, D, W, F, S, _, _⟩ => by
    rw [S.2.1.2.1, List.length_map, S.2.2.2.1.1, S.1.2.2.2.2.2.2.1.2.2.1]
  have d0 := dl T
  obtain ⟨A, D, W, F, ⟨⟨I1, I2, I3, I4, I5, I6, I7, J1, J2, J3, J4, J5, J7, J8, J9⟩, L⟩, K, H⟩ := T
  have S1 : sm_S (ca_si g 0 0 7 t) (mg_u (mg_u h 20 0 0) 20 1 t) A D W F none := by
    refine ⟨⟨((I1.l (fun k x _ _ => sm_ab_0 g 7 t k x)).s 20 0 0 (by omega)).s 20 1 t (by omega), ?_, ?_, I4, I5, (ca_to.si I6 0 0 7 t (by omega)).ok, (I7.t 0 0 (Or.inl rfl)).t 1 t (by omega), J1, J2, J3, J4, J5, J7, ?_, ?_⟩, L⟩
    · rw [ca_iv_s]; exact (mg_u_s (mg_u h 20 0 0) 20 1 t).symm
    · rw [ca_iv_n _ _ _ _ _ (by omega)]; exact I3
    · rw [mg_u_s]
      exact ⟨fun z => J8.1 (Int32.lt_of_le_of_lt (Int32.not_lt.mp h1) z), h2⟩
    · intro x hx
      rw [mg_u_s]
      show ¬ h 31 x < 0 ∧ ¬ t < h 31 x
      exact ⟨(J9 x hx).1, fun z => (J9 x hx).2 (Int32.lt_of_le_of_lt (Int32.not_lt.mp h1) z)⟩
  have hF := S1.2.2.2.2.2.1
  have J7' := S1.1.2.2.2.2.2.2.2.2.2.2.2.2.1
  have hFl : F.length ≤ 96 := by
    have := hF.2.2
    have c : F.length + 0 = cp (rb_q (mg_u (mg_u h 20 0 0) 20 1 t) 4) := this
    have := cp_le (rb_q (mg_u (mg_u h 20 0 0) 20 1 t) 4)
    omega
  have R := sm_retry (t := h 20 16) F.length (400 - F.length) (g := ca_si g 0 0 7 t) (h := mg_u (mg_u h 20 0 0) 20 1 t) (A := A) (D := D) (W := W) (F0 := F) (X := []) (by rw [List.append_nil]; exact S1) K H rfl (fun x hx => by
    obtain ⟨a, b, c, -⟩ := (hF.1 x).mp hx
    exact J7' x a b (Or.inr c)) (fun _ h => by cases h) (Int32.le_refl _)
  rw [show F.length + (400 - F.length) = 400 by omega] at R
  have el : (ca_ln (ca_si g 0 0 7 t) 3).length = F.length := by rw [S1.2.1.2.2.2, List.length_map]
  obtain ⟨⟨A2, D2, W2, F2, S2, K2, H2⟩, R2⟩ := R
  have e2 : (ca_ln (ca_retry F.length (ca_si g 0 0 7 t)) 2).length = W2.length := by rw [S2.2.1.2.2.1, List.length_map]
  have Ll := S2.2.2.2.2.2.2.2
  have Lg := sm_long W2.length 97 S2 K2 H2 rfl (by omega)
  have eT : ca_tick g t = ca_longs W2.length (ca_retry F.length (ca_si g 0 0 7 t)) := by
    unfold ca_tick
    simp only
    rw [el, e2]
  rw [← eT] at Lg
  refine ⟨Lg, R2, ?_⟩
  rw [dl Lg, d0]
  rfl
theorem sm_point {g : ca_S} {h : rb_S} (T : sm_T g h) (x : Int32) : (if ca_ptP g x then (1 : Int32) else 0) = (if rb_ptP h x then 1 else 0) ∧ sm_T (ca_pt g x) (rb_pt h x) := by
  have eq : cv_u x ↔ (¬ x < 0 ∧ ¬ 15 < x) := by
    refine and_congr_right (fun _ => not_congr ?_)
    rw [Int32.le_iff_toInt_le, Int32.lt_iff_toInt_lt]
    have a : (16 : Int32).toInt = 16 := rfl
    have b : (15 : Int32).toInt = 15 := rfl
    omega
  by_cases hv : ¬ x < 0 ∧ ¬ 15 < x
  case neg =>
    have n1 : ¬ ca_ptP g x := fun z => hv (eq.mp z.1)
    have n2 : ¬ rb_ptP h x := fun z => hv z.1
    unfold ca_pt rb_pt
    rw [if_neg n1, if_neg n2, if_neg n1, if_neg n2]
    exact ⟨rfl, sm_T0 T 0⟩
  obtain ⟨u, hu, rfl⟩ := mi_in (n := 15) (by decide) hv
  have tn : (Int32.ofNat u).toNatClampNeg = u := mi_tn (by omega)
  have T' := T
  obtain ⟨A, D, W, F, ⟨⟨I1, I2, I3, I4, I5, I6, I7, J1, J2, J3, J4, J5, J7, J8, J9⟩, L⟩, K, H⟩ := T'
  have s0 := (sm_sv I1 (u := u) (by omega)).1
  by_cases hp : h 21 u = 1
  · have p1 : ca_ptP g (Int32.ofNat u) := ⟨eq.mpr hv, by rw [tn, s0]; exact hp⟩
    have p2 : rb_ptP h (Int32.ofNat u) := ⟨hv, by rw [tn]; exact hp⟩
    unfold ca_pt rb_pt
    rw [if_pos p1, if_pos p2, if_pos p1, if_pos p2, tn]
    have e21 : ∀ z, mg_u (mg_u h 20 0 0) 21 u 2 21 z = if z = u then 2 else h 21 z := fun z => by
      by_cases hz : z = u
      · rw [hz, mg_u_s, if_pos rfl]
      · rw [mg_u_n _ _ _ _ (fun y => hz y.2), if_neg hz]; rfl
    have kn : ∀ z, h 21 z = 0 ↔ mg_u (mg_u h 20 0 0) 21 u 2 21 z = 0 := fun z => by
      rw [e21]
      by_cases hz : z = u
      · rw [if_pos hz, hz, hp]; exact ⟨fun y => absurd y (by decide), fun y => absurd y (by decide)⟩
      · rw [if_neg hz]
    have ok2 : rb_ok (mg_u (mg_u h 20 0 0) 21 u 2) := (I7.t 0 0 (Or.inl rfl)).cg (fun _ => ⟨rfl, rfl⟩) (fun _ => ⟨rfl, rfl⟩) ⟨rfl, rfl⟩ (fun _ => ⟨rfl, rfl⟩)
    refine ⟨rfl, A, D, W, F, ⟨⟨(I1.s 20 0 0 (by omega)).S u 0 2 (by decide), ?_, ?_, I4, fun a b ha hb => ?_, (ca_to.si I6 7 u 0 2 (by omega)).ok, ok2, ?_, ?_, J3, J4, J5, J7, J8, J9⟩, ?_⟩, ?_, H⟩
    · rw [ca_iv_n _ _ _ _ _ (by omega)]; exact I2
    · rw [ca_iv_n _ _ _ _ _ (by omega)]; exact I3
    · rw [ca_iv_n _ _ _ _ _ (by omega)]; exact I5 a b ha hb
    · intro z hz
      rw [e21]
      by_cases q : z = u
      · rw [if_pos q]; exact Or.inr (Or.inr (Or.inl rfl))
      · rw [if_neg q]; exact J1 z hz
    · intro a ha b c
      obtain ⟨q1, q2⟩ := J2 a ha b c
      exact ⟨q1, q2.imp_right (fun q => q.imp_right (fun y z => y ((kn _).mpr z)))⟩
    · obtain ⟨l1, l2, l3, l4, l5, l6, l7⟩ := L
      refine ⟨l1, l2, l3, l4, l5, fun a ha => ?_, l7⟩
      show ca_iv (ca_si g 7 u 0 2) 10 (sm_j g a) 7 = h 32 a
      rw [ca_iv_n _ _ _ _ _ (by omega)]; exact l6 a ha
    · intro a ha; exact (kn _).mp (K a ha)
  · have p1 : ¬ ca_ptP g (Int32.ofNat u) := fun z => hp (by have := z.2; rw [tn, s0] at this; exact this)
    have p2 : ¬ rb_ptP h (Int32.ofNat u) := fun z => hp (by have := z.2; rw [tn] at this; exact this)
    unfold ca_pt rb_pt
    rw [if_neg p1, if_neg p2, if_neg p1, if_neg p2]
    exact ⟨rfl, sm_T0 T 0⟩
theorem sm_fails {g : ca_S} {h : rb_S} (T : sm_T g h) (x b : Int32) : (if ca_flP g x b then (1 : Int32) else 0) = (if rb_flP h x b then 1 else 0) ∧ sm_T (ca_fl g x b) (rb_fl h x b) := by
  have eq : cv_f x ↔ (¬ x < 0 ∧ ¬ 4 < x) := by
    refine and_congr_right (fun _ => not_congr ?_)
    rw [Int32.le_iff_toInt_le, Int32.lt_iff_toInt_lt]
    have a : (5 : Int32).toInt = 5 := rfl
    have b : (4 : Int32).toInt = 4 := rfl
    omega
  by_cases hv : ¬ x < 0 ∧ ¬ 4 < x
  case neg =>
    have n1 : ¬ ca_flP g x b := fun z => hv (eq.mp z.1)
    have n2 : ¬ rb_flP h x b := fun z => hv z.1
    unfold ca_fl rb_fl
    rw [if_neg n1, if_neg n2, if_neg n1, if_neg n2]
    exact ⟨rfl, sm_T0 T 0⟩
  obtain ⟨u, hu, rfl⟩ := mi_in (n := 4) (by decide) hv
  have tn : (Int32.ofNat u).toNatClampNeg = u := mi_tn (by omega)
  have T' := T
  obtain ⟨A, D, W, F, ⟨⟨I1, I2, I3, I4, I5, I6, I7, J⟩, L⟩, K, H⟩ := T'
  have s0 := (sm_sv I1 (u := u) (by omega)).2.2.2
  by_cases hp : ¬ h 35 u = b
  · have p1 : ca_flP g (Int32.ofNat u) b := ⟨eq.mpr hv, by rw [tn, s0]; exact hp⟩
    have p2 : rb_flP h (Int32.ofNat u) b := ⟨hv, by rw [tn]; exact hp⟩
    unfold ca_fl rb_fl
    rw [if_pos p1, if_pos p2, if_pos p1, if_pos p2, tn]
    have ok2 : rb_ok (mg_u (mg_u h 20 0 0) 35 u b) := (I7.t 0 0 (Or.inl rfl)).cg (fun _ => ⟨rfl, rfl⟩) (fun _ => ⟨rfl, rfl⟩) ⟨rfl, rfl⟩ (fun _ => ⟨rfl, rfl⟩)
    refine ⟨rfl, A, D, W, F, ⟨⟨(I1.s 20 0 0 (by omega)).F u b, ?_, ?_, I4, fun a c ha hb => ?_, (ca_to.si I6 3 0 u b (by omega)).ok, ok2, J⟩, ?_⟩, K, H⟩
    · rw [ca_iv_n _ _ _ _ _ (by omega)]; exact I2
    · rw [ca_iv_n _ _ _ _ _ (by omega)]; exact I3
    · rw [ca_iv_n _ _ _ _ _ (by omega)]; exact I5 a c ha hb
    · obtain ⟨l1, l2, l3, l4, l5, l6, l7⟩ := L
      refine ⟨l1, l2, l3, l4, l5, fun a ha => ?_, l7⟩
      show ca_iv (ca_si g 3 0 u b) 10 (sm_j g a) 7 = h 32 a
      rw [ca_iv_n _ _ _ _ _ (by omega)]; exact l6 a ha
  · have p1 : ¬ ca_flP g (Int32.ofNat u) b := fun z => hp (by have := z.2; rw [tn, s0] at this; exact this)
    have p2 : ¬ rb_flP h (Int32.ofNat u) b := fun z => hp (by have := z.2; rw [tn] at this; exact this)
    unfold ca_fl rb_fl
    rw [if_neg p1, if_neg p2, if_neg p1, if_neg p2]
    exact ⟨rfl, sm_T0 T 0⟩
