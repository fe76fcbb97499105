/-! the class beside the reference: the relation, a message's turn -/
theorem su_upd {f f' : Nat → Nat} {m : Nat} (hh : ∀ x, x ≠ m → f' x = f x) : ∀ (n k : Nat), k ≤ m → m < k + n → ((List.range' k n).map f').sum + f m = ((List.range' k n).map f).sum + f' m
  | 0, k, h1, h2 => by omega
  | n + 1, k, h1, h2 => by
    rw [List.range'_succ, List.map_cons, List.map_cons, List.sum_cons, List.sum_cons]
    by_cases hk : k = m
    · subst hk
      have e : (List.range' (k + 1) n).map f' = (List.range' (k + 1) n).map f := by
        refine List.map_congr_left (fun x hx => ?_)
        have := (List.mem_range'_1.mp hx).1
        exact hh x (by omega)
      rw [e]
      omega
    · rw [hh k hk]
      have := su_upd hh n (k + 1) (by omega) (by omega)
      omega
def su (f : Nat → Nat) : Nat := ((List.range' 0 96).map f).sum
theorem su_set {f f' : Nat → Nat} {m : Nat} (hm : m < 96) (hh : ∀ x, x ≠ m → f' x = f x) : su f' + f m = su f + f' m := su_upd hh 96 0 (by omega) (by omega)
theorem su_cg {f f' : Nat → Nat} (hh : ∀ x, x < 96 → f' x = f x) : su f' = su f := by
  unfold su
  rw [List.map_congr_left (fun x hx => hh x (by have := (List.mem_range'_1.mp hx).2; omega))]
theorem su_le {f : Nat → Nat} (h : ∀ x, f x ≤ 3) : su f ≤ 288 := by
  have key : ∀ n k, ((List.range' k n).map f).sum ≤ 3 * n := by
    intro n
    induction n with
    | zero => intro k; exact Nat.le_refl _
    | succ n ih =>
      intro k
      rw [List.range'_succ, List.map_cons, List.sum_cons]
      have := ih (k + 1)
      have := h k
      omega
  exact key 96 0
/-- how often a message can have taken a number of the line -/
def sm_wt (h : rb_S) (m : Nat) : Nat := if h 24 m = 0 then 0 else if h 29 m = 0 ∨ h 29 m = 6 then 0 else if h 29 m = 3 then 1 else if h 29 m = 4 then 2 else 3
theorem sm_wt_le (h : rb_S) (m : Nat) : sm_wt h m ≤ 3 := by
  unfold sm_wt
  split
  · omega
  split
  · omega
  split
  · omega
  split <;> omega
def sm_J (h : rb_S) : Prop :=
  (∀ u, u < 16 → h 21 u = 0 ∨ h 21 u = 1 ∨ h 21 u = 2 ∨ h 21 u = 3) ∧
  (∀ m, m < 96 → ¬ h 24 m = 0 → h 29 m = 4 → ¬ h 33 m = 0 ∧ (h 26 m = 0 ∨ h 26 m = 3 ∨ ¬ h 21 (rb_sub h m) = 0)) ∧
  (∀ m, m < 96 → ¬ h 24 m = 0 → h 29 m = 0 ∨ h 29 m = 3 → h 33 m = 0) ∧
  (∀ m, m < 96 → ¬ h 29 m = 1 → ¬ h 29 m = 2 → h 30 m = 0) ∧
  (∃ t, h 20 16 = Int32.ofNat t ∧ t ≤ su (sm_wt h)) ∧
  (∀ m, m < 96 → ¬ h 24 m = 0 → h 29 m = 3 ∨ h 29 m = 4 → h 34 m < h 20 16) ∧
  (¬ h 20 1 < 0 ∧ ¬ 100000 < h 20 1) ∧ ∀ m, m < 96 → ¬ h 31 m < 0 ∧ ¬ h 20 1 < h 31 m
def sm_xc (h : rb_S) (w : Int32) : Option Nat → Nat
  | none => 0
  | some m => if h 29 m = w then 1 else 0
def sm_done (h : rb_S) (w : Int32) (k : Nat) (A : List Nat) : Prop := A.length = cp (rb_q h w) ∧ (∀ i, i < A.length → h k i = Int32.ofNat (A.getD i 0)) ∧ ∀ m ∈ A, m < 96 ∧ ¬ h 24 m = 0 ∧ h 29 m = w
def sm_line (h : rb_S) (w : Int32) (x : Option Nat) (W : List Nat) : Prop := (∀ m, m ∈ W ↔ (m < 96 ∧ ¬ h 24 m = 0 ∧ h 29 m = w ∧ x ≠ some m)) ∧ W.Pairwise (fun a b => h 34 a < h 34 b) ∧ W.length + sm_xc h w x = cp (rb_q h w)
def sm_L (g : ca_S) (h : rb_S) (A D W F : List Nat) (x : Option Nat) : Prop :=
  (ca_ln g 0 = A.map (sm_j g) ∧ ca_ln g 1 = D.map (sm_j g) ∧ ca_ln g 2 = W.map (sm_j g) ∧ ca_ln g 3 = F.map (sm_j g)) ∧
  sm_done h 1 36 A ∧ sm_done h 5 37 D ∧ sm_line h 3 x W ∧ sm_line h 4 x F ∧ (∀ m ∈ W, ca_iv g 10 (sm_j g m) 7 = h 32 m) ∧ W.length ≤ 12
def sm_I (g : ca_S) (h : rb_S) : Prop := sm_ag (sm_ab g) h ∧ ca_iv g 0 0 7 = h 20 1 ∧ ca_iv g 0 0 8 = h 20 22 ∧ sm_inj g ∧ (∀ m j, m < 96 → sm_tb g m = some j → ca_iv g 10 j 0 = rb_name m) ∧ ca_ok g ∧ rb_ok h ∧ sm_J h
def sm_S (g : ca_S) (h : rb_S) (A D W F : List Nat) (x : Option Nat) : Prop := sm_I g h ∧ sm_L g h A D W F x
/-- what a turn leaves -/
theorem rb_dec_x (h : rb_S) (m k x : Nat) (hx : x ≠ m) (hk : k = 29 ∨ k = 30 ∨ k = 32 ∨ k = 33 ∨ k = 34) : (rb_dec h m).1 k x = h k x := by
  have n : ∀ {a i : Nat} (f : rb_S) (v : Int32), ¬ (k = a ∧ x = i) → mg_u f a i v k x = f k x := fun f v ha => mg_u_n _ _ _ _ ha
  rcases rb_dec_sh h m with ⟨e, -, -⟩ | ⟨e, -, -⟩ | ⟨e, -, -⟩ | ⟨e, -, -⟩ | ⟨e, -⟩
  · rw [e]
    show mg_u (mg_u h 29 m 2) 30 m _ k x = _
    rw [n _ _ (by omega), n _ _ (by omega)]
  · rw [e]
    show mg_u (mg_u (mg_u (mg_u h 29 m 3) 32 m _) 34 m _) 20 16 _ k x = _
    rw [n _ _ (by omega), n _ _ (by omega), n _ _ (by omega), n _ _ (by omega)]
  · rw [e]
    show mg_u (mg_u (mg_u (mg_u (mg_u h 35 (rb_fn h m) 0) 29 m 4) 33 m 1) 34 m _) 20 16 _ k x = _
    rw [n _ _ (by omega), n _ _ (by omega), n _ _ (by omega), n _ _ (by omega), n _ _ (by omega)]
  · rw [e]
    show mg_u (mg_u (mg_u (mg_u (mg_u (mg_u (mg_u h 35 (rb_fn h m) 0) 29 m 5) 37 _ _) 20 20 _) 33 m 1) 34 m _) 20 16 _ k x = _
    rw [n _ _ (by omega), n _ _ (by omega), n _ _ (by omega), n _ _ (by omega), n _ _ (by omega), n _ _ (by omega), n _ _ (by omega)]
  · rw [e]
    show rb_acts h m k x = _
    unfold rb_acts
    rw [n _ _ (by omega), n _ _ (by omega), n _ _ (by omega), n _ _ (by omega), n _ _ (by omega), n _ _ (by omega), n _ _ (by omega)]
theorem rb_dec_20 (h : rb_S) (m x : Nat) (hx : x = 0 ∨ x = 1 ∨ x = 22) : (rb_dec h m).1 20 x = h 20 x := by
  have n : ∀ {a i : Nat} (f : rb_S) (v : Int32), ¬ (20 = a ∧ x = i) → mg_u f a i v 20 x = f 20 x := fun f v ha => mg_u_n _ _ _ _ ha
  rcases rb_dec_sh h m with ⟨e, -, -⟩ | ⟨e, -, -⟩ | ⟨e, -, -⟩ | ⟨e, -, -⟩ | ⟨e, -⟩
  · rw [e]
    rfl
  · rw [e]
    show mg_u (mg_u (mg_u (mg_u h 29 m 3) 32 m _) 34 m _) 20 16 _ 20 x = _
    rw [n _ _ (by omega), n _ _ (by omega), n _ _ (by omega), n _ _ (by omega)]
  · rw [e]
    show mg_u (mg_u (mg_u (mg_u (mg_u h 35 (rb_fn h m) 0) 29 m 4) 33 m 1) 34 m _) 20 16 _ 20 x = _
    rw [n _ _ (by omega), n _ _ (by omega), n _ _ (by omega), n _ _ (by omega), n _ _ (by omega)]
  · rw [e]
    show mg_u (mg_u (mg_u (mg_u (mg_u (mg_u (mg_u h 35 (rb_fn h m) 0) 29 m 5) 37 _ _) 20 20 _) 33 m 1) 34 m _) 20 16 _ 20 x = _
    rw [n _ _ (by omega), n _ _ (by omega), n _ _ (by omega), n _ _ (by omega), n _ _ (by omega), n _ _ (by omega), n _ _ (by omega)]
  · rw [e]
    show rb_acts h m 20 x = _
    unfold rb_acts
    rw [n _ _ (by omega), n _ _ (by omega), n _ _ (by omega), n _ _ (by omega), n _ _ (by omega), n _ _ (by omega), n _ _ (by omega)]
theorem rb_dec_21r {h : rb_S} (hr : ∀ u, u < 16 → h 21 u = 0 ∨ h 21 u = 1 ∨ h 21 u = 2 ∨ h 21 u = 3) (m : Nat) : ∀ u, u < 16 → (rb_dec h m).1 21 u = 0 ∨ (rb_dec h m).1 21 u = 1 ∨ (rb_dec h m).1 21 u = 2 ∨ (rb_dec h m).1 21 u = 3 := by
  intro u hu
  rcases rb_dec_sh h m with ⟨e, -, -⟩ | ⟨e, -, -⟩ | ⟨e, -, -⟩ | ⟨e, -, -⟩ | ⟨e, -⟩
  · rw [e]; exact hr u hu
  · rw [e]; exact hr u hu
  · rw [e]; exact hr u hu
  · rw [e]; exact hr u hu
  · rw [e]
    have e2 : rb_acts h m 21 u = mg_u (mg_u (mg_u h 30 m (rb_x1 h m)) 22 (rb_sub h m) (rb_x2 h m)) 21 (rb_sub h m) (rb_x3 h m) 21 u := rfl
    show rb_acts h m 21 u = 0 ∨ rb_acts h m 21 u = 1 ∨ rb_acts h m 21 u = 2 ∨ rb_acts h m 21 u = 3
    rw [e2]
    by_cases hs : u = rb_sub h m
    · rw [← hs, mg_u_s]
      unfold rb_x3
      split
      · exact Or.inr (Or.inl rfl)
      split
      · exact Or.inr (Or.inr (Or.inr rfl))
      rw [← hs]
      exact hr u hu
    · rw [mg_u_n _ _ _ _ (fun z => hs z.2)]
      exact hr u hu
theorem sm_t1 {t : Nat} (ht : t ≤ 288) : Int32.ofNat t < Int32.ofNat t + 1 := by
  rw [mi_a1]
  exact (mi_lt (by omega) (by omega)).mpr (by omega)
/-- what may have a turn -/
abbrev sm_may (h : rb_S) (m : Nat) : Prop := h 29 m = 0 ∨ (h 29 m = 3 ∧ ¬ h 21 (rb_sub h m) = 0) ∨ h 29 m = 4
theorem sm_ns3 {h : rb_S} (J : sm_J h) (ho : rb_ok h) {m : Nat} (hm : m < 96) (hc : ¬ h 24 m = 0) (hst : sm_may h m) (hn : rb_ns h m = 3) : h 29 m = 0 ∧ h 21 (rb_sub h m) = 0 := by
  have h1 : h 21 (rb_sub h m) = 0 := Classical.byContradiction (fun z => rb_ns_3 z hn)
  rcases hst with h0 | ⟨-, h3⟩ | h4
  · exact ⟨h0, h1⟩
  · exact absurd h1 h3
  · exfalso
    obtain ⟨-, q⟩ := J.2.1 m hm hc h4
    rcases rb_dec_sh h m with ⟨-, n, -⟩ | ⟨-, n, n2⟩ | ⟨-, n, -⟩ | ⟨-, n, -⟩ | ⟨-, n⟩
    · rw [n] at hn; exact absurd hn (by decide)
    · rw [← (ho.1 m hm).2.1] at n2
      rcases q with q | q | q
      · exact n2.1 q
      · exact n2.2.1 q
      · exact q h1
    · rw [n] at hn; exact absurd hn (by decide)
    · rw [n] at hn; exact absurd hn (by decide)
    · rw [n] at hn; exact absurd hn (by decide)
theorem sm_decJ {h : rb_S} (J : sm_J h) (ho : rb_ok h) {m : Nat} (hm : m < 96) (hc : ¬ h 24 m = 0) (hst : sm_may h m) : sm_J (rb_dec h m).1 := by
  obtain ⟨J1, J2, J3, J4, ⟨t, J5, J6⟩, J7, J8, J9⟩ := J
  have J0 : sm_J h := ⟨J1, J2, J3, J4, ⟨t, J5, J6⟩, J7, J8, J9⟩
  have k24 : ∀ x, (rb_dec h m).1 24 x = h 24 x := fun x => rb_dec_k h m 24 x (by omega)
  have k26 : ∀ x, (rb_dec h m).1 26 x = h 26 x := fun x => rb_dec_k h m 26 x (by omega)
  have k31 : ∀ x, (rb_dec h m).1 31 x = h 31 x := fun x => rb_dec_k h m 31 x (by omega)
  have ksub : ∀ x, rb_sub (rb_dec h m).1 x = rb_sub h x := fun x => rb_sub_cg (rb_dec_k h m 27 x (by omega))
  have t288 : t ≤ 288 := Nat.le_trans J6 (su_le (sm_wt_le h))
  -- the weight
  have hwx : ∀ x, x ≠ m → sm_wt (rb_dec h m).1 x = sm_wt h x := fun x hx => by unfold sm_wt; rw [k24, rb_dec_29, if_neg hx]
  have hsum := su_set hm hwx
  have hw0 : sm_wt h m = if h 29 m = 0 ∨ h 29 m = 6 then 0 else if h 29 m = 3 then 1 else if h 29 m = 4 then 2 else 3 := if_neg hc
  have hw1 : sm_wt (rb_dec h m).1 m = if rb_ns h m = 0 ∨ rb_ns h m = 6 then 0 else if rb_ns h m = 3 then 1 else if rb_ns h m = 4 then 2 else 3 := by
    unfold sm_wt
    rw [k24, rb_dec_29, if_pos rfl, if_neg hc]
  have hwle : sm_wt h m ≤ 2 := by
    rw [hw0]
    rcases hst with h0 | ⟨h3, -⟩ | h4
    · rw [if_pos (Or.inl h0)]; omega
    · rw [h3]; decide
    · rw [h4]; decide
  -- the five ways
  have hT : ∃ t', (rb_dec h m).1 20 16 = Int32.ofNat t' ∧ t' ≤ su (sm_wt (rb_dec h m).1) ∧ (h 20 16 = Int32.ofNat t' ∨ h 20 16 < Int32.ofNat t') ∧ ((rb_ns h m = 3 ∨ rb_ns h m = 4) → (rb_dec h m).1 34 m < Int32.ofNat t') := by
    rcases rb_dec_sh h m with ⟨e, n, -⟩ | ⟨e, n, -⟩ | ⟨e, n, n2⟩ | ⟨e, n, n2⟩ | ⟨e, n⟩
    · refine ⟨t, by rw [e]; exact J5, ?_, Or.inl J5, fun z => by rw [n] at z; rcases z with z | z <;> exact absurd z (by decide)⟩
      rw [n] at hw1
      have : sm_wt (rb_dec h m).1 m = 3 := by rw [hw1]; decide
      omega
    · refine ⟨t + 1, by rw [e]; show h 20 16 + 1 = _; rw [J5, mi_a1], ?_, Or.inr (by rw [J5, ← mi_a1]; exact sm_t1 t288), fun _ => ?_⟩
      · have q := (sm_ns3 J0 ho hm hc hst n).1
        rw [n] at hw1
        rw [q] at hw0
        have a : sm_wt (rb_dec h m).1 m = 1 := by rw [hw1]; decide
        have b : sm_wt h m = 0 := by rw [hw0]; decide
        omega
      · rw [e]
        show mg_u (mg_u (mg_u h 29 m 3) 32 m (h 20 1)) 34 m (h 20 16) 34 m < _
        rw [mg_u_s, J5, ← mi_a1]
        exact sm_t1 t288
    · refine ⟨t + 1, by rw [e]; show h 20 16 + 1 = _; rw [J5, mi_a1], ?_, Or.inr (by rw [J5, ← mi_a1]; exact sm_t1 t288), fun _ => ?_⟩
      · have h4 : ¬ h 29 m = 4 := fun z => (J2 m hm hc z).1 n2
        rw [n] at hw1
        have a : sm_wt (rb_dec h m).1 m = 2 := by rw [hw1]; decide
        have b : sm_wt h m ≤ 1 := by
          rw [hw0]
          rcases hst with h0 | ⟨h3, -⟩ | h4'
          · rw [if_pos (Or.inl h0)]; omega
          · rw [h3]; decide
          · exact absurd h4' h4
        omega
      · rw [e]
        show mg_u (mg_u (mg_u (mg_u h 35 (rb_fn h m) 0) 29 m 4) 33 m 1) 34 m (h 20 16) 34 m < _
        rw [mg_u_s, J5, ← mi_a1]
        exact sm_t1 t288
    · refine ⟨t + 1, by rw [e]; show h 20 16 + 1 = _; rw [J5, mi_a1], ?_, Or.inr (by rw [J5, ← mi_a1]; exact sm_t1 t288), fun z => by rw [n] at z; rcases z with z | z <;> exact absurd z (by decide)⟩
      rw [n] at hw1
      have a : sm_wt (rb_dec h m).1 m = 3 := by rw [hw1]; decide
      omega
    · refine ⟨t, by rw [e]; exact J5, ?_, Or.inl J5, fun z => by rw [n] at z; rcases z with z | z <;> exact absurd z (by decide)⟩
      rw [n] at hw1
      have : sm_wt (rb_dec h m).1 m = 3 := by rw [hw1]; decide
      omega
  obtain ⟨t', T1, T2, T3, T4⟩ := hT
  refine ⟨rb_dec_21r J1 m, fun x hx hcx h4 => ?_, fun x hx hcx h03 => ?_, fun x hx n1 n2 => ?_, ⟨t', T1, T2⟩, fun x hx hcx h34 => ?_, ?_, fun x hx => ?_⟩
  · rw [k24] at hcx
    rw [rb_dec_29] at h4
    rw [k26, ksub]
    by_cases hxm : x = m
    · rw [if_pos hxm] at h4
      subst hxm
      rcases rb_dec_sh h x with ⟨e, n, -⟩ | ⟨e, n, -⟩ | ⟨e, n, n2⟩ | ⟨e, n, n2⟩ | ⟨e, n⟩
      · rw [n] at h4; exact absurd h4 (by decide)
      · rw [n] at h4; exact absurd h4 (by decide)
      · have e33 : (rb_dec h x).1 33 x = 1 := by rw [e]; exact mg_u_s (mg_u (mg_u h 35 (rb_fn h x) 0) 29 x 4) 33 x 1
        refine ⟨by rw [e33]; decide, ?_⟩
        refine Classical.byContradiction (fun z => ?_)
        have z1 : ¬ h 26 x = 0 := fun y => z (Or.inl y)
        have z2 : ¬ h 26 x = 3 := fun y => z (Or.inr (Or.inl y))
        have z3 : h 21 (rb_sub h x) = 0 := Classical.byContradiction (fun y => z (Or.inr (Or.inr (rb_dec_21 y))))
        unfold rb_ns at n
        rw [← (ho.1 x hx).2.1] at n
        split at n
        · exact absurd n (by decide)
        · rw [if_pos ⟨z1, z2, z3⟩] at n
          exact absurd n (by decide)
      · rw [n] at h4; exact absurd h4 (by decide)
      · rw [n] at h4; exact absurd h4 (by decide)
    · rw [if_neg hxm] at h4
      rw [rb_dec_x h m 33 x hxm (by omega)]
      obtain ⟨q1, q2⟩ := J2 x hx hcx h4
      exact ⟨q1, q2.imp_right (fun q => q.imp_right rb_dec_21)⟩
  · rw [k24] at hcx
    rw [rb_dec_29] at h03
    by_cases hxm : x = m
    · rw [if_pos hxm] at h03
      subst hxm
      rcases rb_dec_sh h x with ⟨e, n, -⟩ | ⟨e, n, -⟩ | ⟨e, n, n2⟩ | ⟨e, n, n2⟩ | ⟨e, n⟩
      · rw [n] at h03; rcases h03 with z | z <;> exact absurd z (by decide)
      · have e33 : (rb_dec h x).1 33 x = h 33 x := by rw [e]; rfl
        rw [e33]
        exact J3 x hx hcx (Or.inl (sm_ns3 J0 ho hx hcx hst n).1)
      · rw [n] at h03; rcases h03 with z | z <;> exact absurd z (by decide)
      · rw [n] at h03; rcases h03 with z | z <;> exact absurd z (by decide)
      · rw [n] at h03; rcases h03 with z | z <;> exact absurd z (by decide)
    · rw [if_neg hxm] at h03
      rw [rb_dec_x h m 33 x hxm (by omega)]
      exact J3 x hx hcx h03
  · rw [rb_dec_29] at n1 n2
    by_cases hxm : x = m
    · rw [if_pos hxm] at n1 n2
      subst hxm
      have old : h 30 x = 0 := J4 x hx (by rcases hst with q | ⟨q, -⟩ | q <;> rw [q] <;> decide) (by rcases hst with q | ⟨q, -⟩ | q <;> rw [q] <;> decide)
      rcases rb_dec_sh h x with ⟨e, n, -⟩ | ⟨e, n, -⟩ | ⟨e, n, -⟩ | ⟨e, n, -⟩ | ⟨e, n⟩
      · exact absurd n n2
      · rw [e]; exact old
      · rw [e]; exact old
      · rw [e]; exact old
      · exact absurd n n1
    · rw [if_neg hxm] at n1 n2
      rw [rb_dec_x h m 30 x hxm (by omega)]
      exact J4 x hx n1 n2
  · rw [k24] at hcx
    rw [rb_dec_29] at h34
    rw [T1]
    by_cases hxm : x = m
    · rw [if_pos hxm] at h34
      rw [hxm]
      exact T4 h34
    · rw [if_neg hxm] at h34
      rw [rb_dec_x h m 34 x hxm (by omega)]
      have := J7 x hx hcx h34
      rcases T3 with q | q
      · rw [← q]; exact this
      · exact Int32.lt_trans this q
  · rw [rb_dec_20 h m 1 (by omega)]; exact J8
  · rw [k31, rb_dec_20 h m 1 (by omega)]; exact J9 x hx
