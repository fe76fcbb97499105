/-! the class beside the reference: receive -/
def sm_H (h : rb_S) : Prop := ∀ s k, s < 4 → 1 ≤ k → k < rb_gap h s → ¬ h 24 (24 * s + k - 1) = 0 → ¬ h 29 (24 * s + k - 1) = 0
def sm_T (g : ca_S) (h : rb_S) : Prop := ∃ A D W F, sm_S g h A D W F none ∧ sm_K h W ∧ sm_H h
theorem rb_gap_loc {h h' : rb_S} {s : Nat} (hh : ∀ k, 1 ≤ k → k ≤ 24 → rb_here h' (24 * s + k - 1) = rb_here h (24 * s + k - 1) ∧ h' 25 (24 * s + k - 1) = h 25 (24 * s + k - 1)) : rb_gap h' s = rb_gap h s := by
  have key : ∀ f n, 1 ≤ n → n + f = 25 → rb_gapF h' s n f = rb_gapF h s n f := by
    intro f
    induction f with
    | zero => intros; rfl
    | succ f ih =>
      intro n h1 hn
      show (if rb_here h' (24 * s + n - 1) = true ∨ ¬ h' 25 (24 * s + n - 1) = 0 then rb_gapF h' s (n + 1) f else n) = if rb_here h (24 * s + n - 1) = true ∨ ¬ h 25 (24 * s + n - 1) = 0 then rb_gapF h s (n + 1) f else n
      rw [(hh n h1 (by omega)).1, (hh n h1 (by omega)).2, ih (n + 1) (by omega) (by omega)]
  exact key 24 1 (by omega) (by omega)
/-- what a turn makes of a status -/
def sm_c5 (h h' : rb_S) : Prop := ∀ x, h' 29 x = h 29 x ∨ h' 29 x = 1 ∨ h' 29 x = 2 ∨ h' 29 x = 3 ∨ h' 29 x = 4 ∨ h' 29 x = 5
theorem sm_c5.rf (h : rb_S) : sm_c5 h h := fun _ => Or.inl rfl
theorem sm_c5.tr {a b c : rb_S} (p : sm_c5 a b) (q : sm_c5 b c) : sm_c5 a c := fun x => by
  rcases q x with e | e
  · rw [e]; exact p x
  · exact Or.inr e
theorem sm_c5.dec (h : rb_S) (m : Nat) : sm_c5 h (rb_dec h m).1 := fun x => by
  rw [rb_dec_29]
  by_cases hx : x = m
  · rw [if_pos hx]; exact Or.inr (rb_ns_c h m)
  · rw [if_neg hx]; exact Or.inl rfl
theorem sm_c5.wake (u : Nat) : ∀ (n : Nat) (h : rb_S), sm_c5 h (rb_wake u n h)
  | 0, h => sm_c5.rf h
  | n + 1, h => by
    cases e : rb_first h 3 (Int32.ofNat u) (h 20 16) with
    | none => rw [rb_wake_N e]; exact sm_c5.rf h
    | some j => rw [rb_wake_S e]; exact (sm_c5.dec h j).tr (sm_c5.wake u n _)
theorem sm_c5.takes (h : rb_S) (m : Nat) : sm_c5 h (rb_takes h m) := by
  unfold rb_takes
  split
  · exact (sm_c5.dec h m).tr (sm_c5.wake _ _ _)
  · exact sm_c5.dec h m
theorem sm_c5.rel (s : Nat) : ∀ (f n : Nat) (h : rb_S), sm_c5 h (rb_relF s n f h)
  | 0, n, h => sm_c5.rf h
  | f + 1, n, h => by
    show sm_c5 h (rb_relF s (n + 1) f (if ¬ h 24 (24 * s + n - 1) = 0 ∧ h 29 (24 * s + n - 1) = 0 ∧ n < rb_gap h s then rb_takes h (24 * s + n - 1) else h))
    split
    · exact (sm_c5.takes h _).tr (sm_c5.rel s f (n + 1) _)
    · exact sm_c5.rel s f (n + 1) h
theorem rb_dec_n2 (h : rb_S) (m : Nat) : ¬ (rb_dec h m).2 = 2 := by
  rcases rb_dec_sh h m with ⟨e, -, -⟩ | ⟨e, -, -⟩ | ⟨e, -, -⟩ | ⟨e, -, -⟩ | ⟨e, -⟩
  · rw [e]
    show ¬ -rb_rule h m = 2
    rcases rb_rule_c h m with q | q | q | q | q | q <;> rw [q] <;> decide
  · rw [e]; show ¬ (4 : Int32) = 2; decide
  · rw [e]; show ¬ (5 : Int32) = 2; decide
  · rw [e]; show ¬ (5 : Int32) = 2; decide
  · rw [e]; show ¬ (1 : Int32) = 2; decide
/-- one comes, on both sides -/
theorem sm_comeT {g g' : ca_S} {h q : rb_S} {A D W F : List Nat} (S : sm_S g h A D W F none) (K : sm_K h W) (H : sm_H h) {s n j : Nat} (hs : s < 4) (h1 : 1 ≤ n) (h24 : n ≤ 24) (hnh : ¬ rb_hs h (24 * s + n - 1)) (hq : ∀ k x, ¬ (x = 24 * s + n - 1 ∧ (k = 26 ∨ k = 27 ∨ k = 28)) → ¬ (k = 20 ∧ x = 0) → q k x = h k x) (S2 : sm_S g' (rb_put q (24 * s + n - 1)) A D W F none) (K2 : sm_K (rb_put q (24 * s + n - 1)) W) (ht : sm_tb g' (24 * s + n - 1) = some j) :
    sm_T (ca_turns (if ca_iv g' 10 j 1 = 3 then ca_turn g' j false else g') s) (rb_comes q (24 * s + n - 1)).1 ∧ sm_n5 (rb_put q (24 * s + n - 1)) (rb_comes q (24 * s + n - 1)).1 ∧ sm_c5 (rb_put q (24 * s + n - 1)) (rb_comes q (24 * s + n - 1)).1 ∧ ((rb_comes q (24 * s + n - 1)).2 = 2 → (rb_comes q (24 * s + n - 1)).1 29 (24 * s + n - 1) = 0) := by
  have hm : 24 * s + n - 1 < 96 := by omega
  obtain ⟨d1, d2⟩ := sm_mi (s := s) h1 h24
  have px : ∀ k x, (k = 24 ∨ k = 29) → x ≠ 24 * s + n - 1 → rb_put q (24 * s + n - 1) k x = h k x := fun k x hk hx => by
    rw [← hq k x (by omega) (by omega)]
    unfold rb_put
    rw [mg_u_n _ _ _ _ (fun z => hx z.2), mg_u_n _ _ _ _ (fun z => hx z.2), mg_u_n _ _ _ _ (fun z => hx z.2), mg_u_n _ _ _ _ (fun z => hx z.2), mg_u_n _ _ _ _ (fun z => hx z.2)]
  have p25 : ∀ x, rb_put q (24 * s + n - 1) 25 x = h 25 x := fun x => hq 25 x (by omega) (by omega)
  have phere : ∀ x, x ≠ 24 * s + n - 1 → rb_here (rb_put q (24 * s + n - 1)) x = rb_here h x := fun x hx => by
    unfold rb_here
    rw [px 24 x (Or.inl rfl) hx, px 29 x (Or.inr rfl) hx]
  have HH : ∀ k, 1 ≤ k → k < n → k < rb_gap (rb_put q (24 * s + n - 1)) s → ¬ rb_put q (24 * s + n - 1) 24 (24 * s + k - 1) = 0 → ¬ rb_put q (24 * s + n - 1) 29 (24 * s + k - 1) = 0 := fun k k1 kn kg kc => by
    rw [px 24 _ (Or.inl rfl) (by omega)] at kc
    rw [px 29 _ (Or.inr rfl) (by omega)]
    refine H s k hs k1 (Classical.byContradiction (fun z => ?_)) kc
    have ge := rb_gap_ge h s
    have a := (rb_gap_sp h s).2 (by omega)
    have b := (rb_gap_sp (rb_put q (24 * s + n - 1)) s).1 (rb_gap h s) ge (by omega)
    unfold rb_hs at a b
    rw [phere _ (by omega), p25] at b
    exact a b
  have C := sm_come2 S2 K2 hs h1 h24 ht (rb_put_29 q _) HH
  have e26 : rb_put q (24 * s + n - 1) 26 (24 * s + n - 1) = q 26 (24 * s + n - 1) := rfl
  rw [e26] at C
  have eC : (rb_comes q (24 * s + n - 1)).1 = if ¬ q 26 (24 * s + n - 1) = 3 ∧ rb_gap (rb_put q (24 * s + n - 1)) s < n then rb_put q (24 * s + n - 1) else rb_rel (rb_takes (rb_put q (24 * s + n - 1)) (24 * s + n - 1)) s := by
    rcases rb_comes_c q (24 * s + n - 1) with ⟨e, c⟩ | ⟨e, c⟩
    · rw [d1, d2] at c
      rw [if_pos c]
      simp only [e]
    · rw [d1, d2] at c
      rw [if_neg c]
      simp only [e, d1]
  rw [eC]
  obtain ⟨⟨A', D', W', F', c1, c2, c3, c4, c5⟩, c6⟩ := C
  refine ⟨⟨A', D', W', F', c1, c2, fun s' k hs' k1 kg kc z => ?_⟩, c5, ?_, fun hz => ?_⟩
  · rw [c4.gap s'] at kg
    by_cases hss : s' = s
    · subst hss
      exact c6 k k1 kg kc z
    · have hk25 := rb_gap_le (rb_put q (24 * s + n - 1)) s'
      have gl : rb_gap (rb_put q (24 * s + n - 1)) s' = rb_gap h s' := rb_gap_loc (fun k a b => ⟨phere _ (by omega), p25 _⟩)
      rw [gl] at kg hk25
      rw [c4.1 24 _ (by omega), px 24 _ (Or.inl rfl) (by omega)] at kc
      have z2 := c4.2.1 _ z
      rw [px 29 _ (Or.inr rfl) (by omega)] at z2
      exact H s' k hs' k1 kg kc z2
  · split
    · exact sm_c5.rf _
    · exact (sm_c5.takes _ _).tr (sm_c5.rel s 24 1 _)
  · rcases rb_comes_c q (24 * s + n - 1) with ⟨e, c⟩ | ⟨e, c⟩
    · rw [d1, d2] at c
      rw [if_pos c]
      exact rb_put_29 q _
    · exfalso
      simp only [e] at hz
      exact rb_dec_n2 _ _ hz
theorem sm_say {R : rb_S} {m : Nat} {got st an : Int32} (h2 : got = 2 → st = 0) (hst : R 29 m = st) (han : R 30 m = an) (h5 : st = 0 ∨ st = 1 ∨ st = 2 ∨ st = 3 ∨ st = 4) : (if st = 1 then 1 else if st = 3 then 4 else if st = 4 then 5 else if st = 2 then an else 2) = rb_say R m got := by
  unfold rb_say
  rw [hst, han]
  rcases h5 with rfl | rfl | rfl | rfl | rfl
  · rw [if_pos (Or.inr rfl)]; rfl
  · rw [if_neg (show ¬ (got = 2 ∨ (1 : Int32) = 0) from fun z => z.elim (fun y => absurd (h2 y) (by decide)) (by decide))]; rfl
  · rw [if_neg (show ¬ (got = 2 ∨ (2 : Int32) = 0) from fun z => z.elim (fun y => absurd (h2 y) (by decide)) (by decide))]; rfl
  · rw [if_neg (show ¬ (got = 2 ∨ (3 : Int32) = 0) from fun z => z.elim (fun y => absurd (h2 y) (by decide)) (by decide))]; rfl
  · rw [if_neg (show ¬ (got = 2 ∨ (4 : Int32) = 0) from fun z => z.elim (fun y => absurd (h2 y) (by decide)) (by decide))]; rfl
theorem sm_nm {s n : Nat} (h1 : 1 ≤ n) (h24 : n ≤ 24) : rb_name (24 * s + n - 1) = 1000 * Int32.ofNat s + Int32.ofNat n := by
  unfold rb_name
  rw [show (24 * s + n - 1) / 24 = s by omega, show (24 * s + n - 1) % 24 = n - 1 by omega, Int32.add_assoc, mi_a1, show n - 1 + 1 = n by omega]
/-- the new message, before it comes -/
theorem sm_mkS {g : ca_S} {h : rb_S} {A D W F : List Nat} (S : sm_S g h A D W F none) (K : sm_K h W) {s n f u : Nat} (v : Int32) (hs : s < 4) (h1 : 1 ≤ n) (h24 : n ≤ 24) (hf : f < 5) (hu : u < 16) (hnh : rb_here h (24 * s + n - 1) = false) :
    sm_S (ca_si (ca_si (ca_mk g s n (1000 * Int32.ofNat s + Int32.ofNat n) (Int32.ofNat f) u v) 10 (ca_nm g) 4 0) 10 (ca_nm g) 6 (ca_iv g 0 0 7)) (rb_put (rb_new (mg_u h 20 0 0) (24 * s + n - 1) f u v) (24 * s + n - 1)) A D W F none ∧ sm_K (rb_put (rb_new (mg_u h 20 0 0) (24 * s + n - 1) f u v) (24 * s + n - 1)) W := by
  have hm : 24 * s + n - 1 < 96 := by omega
  obtain ⟨d1, d2⟩ := sm_mi (s := s) h1 h24
  have I := S.1
  have hok := I.2.2.2.2.2.1
  have ok1 := ca_ok.mk hok s n (1000 * Int32.ofNat s + Int32.ofNat n) (Int32.ofNat f) u v hu (mi_nn (by omega)) (by rw [mi_tn (by omega)]; exact hf)
  have to2 := ca_to.si ok1 10 (ca_nm g) 4 0 (by omega)
  have to3 := to2.tr (ca_to.si to2.ok 10 (ca_nm g) 6 (ca_iv g 0 0 7) (by omega))
  have tb : ∀ x, x < 96 → sm_tb (ca_si (ca_si (ca_mk g s n (1000 * Int32.ofNat s + Int32.ofNat n) (Int32.ofNat f) u v) 10 (ca_nm g) 4 0) 10 (ca_nm g) 6 (ca_iv g 0 0 7)) x = if x = 24 * s + n - 1 then some (ca_nm g) else sm_tb g x := fun x hx => by
    show (if x / 24 = s ∧ x % 24 + 1 = n then some (ca_nm g) else ca_tb g (x / 24) (x % 24 + 1)) = _
    by_cases hq : x = 24 * s + n - 1
    · rw [if_pos hq, if_pos (by omega)]
    · rw [if_neg hq, if_neg (by omega)]; rfl
  have lt : ∀ x j, sm_tb g x = some j → j < ca_nm g := fun x j hj => hok.1 _ _ _ hj
  have iv : ∀ k b c, ¬ (k = 10 ∧ b = ca_nm g) → ca_iv (ca_si (ca_si (ca_mk g s n (1000 * Int32.ofNat s + Int32.ofNat n) (Int32.ofNat f) u v) 10 (ca_nm g) 4 0) 10 (ca_nm g) 6 (ca_iv g 0 0 7)) k b c = ca_iv g k b c := fun k b c hz => by
    rw [ca_iv_n _ _ _ _ _ (by omega), ca_iv_n _ _ _ _ _ (by omega)]
    exact if_neg hz
  refine sm_put S K hm hnh (fun k x a b => ?_) (rb_new_ok (I.2.2.2.2.2.2.1.t 0 0 (Or.inl rfl)) _ v hf hu) (fun k x hx hk => ?_) (iv 0 0 7 (by omega)) (iv 0 0 8 (by omega)) (fun x y j hx hy => ?_) (fun x j hx => ?_) to3.ok (fun x => rfl) (fun x hx hxm => ?_) (fun x hx hxm hc => ?_)
  · unfold rb_new
    by_cases k26 : k = 26
    · rw [mg_u_n _ _ _ _ (by omega), mg_u_n _ _ _ _ (by omega), mg_u_n _ _ _ _ (by omega), mg_u_n _ _ _ _ (by omega)]
    · rw [mg_u_n _ _ _ _ (by omega), mg_u_n _ _ _ _ (by omega), mg_u_n _ _ _ _ (by omega), mg_u_n _ _ _ _ (by omega)]
  · unfold sm_ab
    rw [tb x hx, iv 7 x 0 (by omega), iv 7 x 1 (by omega), iv 7 x 2 (by omega), iv 6 _ _ (by omega), iv 3 0 x (by omega)]
    by_cases hxm : x = 24 * s + n - 1
    · rw [if_pos hxm, hxm]
      have nn : ∀ {a i : Nat} (F : rb_S) (v : Int32), k ≠ a → mg_u F a i v k (24 * s + n - 1) = F k (24 * s + n - 1) := fun F v ha => mg_u_n _ _ _ _ (fun z => ha z.1)
      have old := I.1 k (24 * s + n - 1) hm hk
      unfold sm_ab at old
      have base : (k = 21 ∨ k = 22 ∨ k = 23 ∨ k = 25 ∨ k = 35) → rb_put (rb_new (mg_u h 20 0 0) (24 * s + n - 1) f u v) (24 * s + n - 1) k (24 * s + n - 1) = h k (24 * s + n - 1) := fun hz => by
        unfold rb_put rb_new
        rw [nn _ _ (by omega), nn _ _ (by omega), nn _ _ (by omega), nn _ _ (by omega), nn _ _ (by omega), nn _ _ (by omega), nn _ _ (by omega), nn _ _ (by omega), nn _ _ (by omega)]
      by_cases k21 : k = 21
      · rw [if_pos k21]; rw [if_pos k21] at old; rw [old, base (by omega)]
      rw [if_neg k21]; rw [if_neg k21] at old
      by_cases k22 : k = 22
      · rw [if_pos k22]; rw [if_pos k22] at old; rw [old, base (by omega)]
      rw [if_neg k22]; rw [if_neg k22] at old
      by_cases k23 : k = 23
      · rw [if_pos k23]; rw [if_pos k23] at old; rw [old, base (by omega)]
      rw [if_neg k23]; rw [if_neg k23] at old
      by_cases k25 : k = 25
      · rw [if_pos k25]; rw [if_pos k25] at old; rw [old, base (by omega)]
      rw [if_neg k25]; rw [if_neg k25] at old
      by_cases k35 : k = 35
      · rw [if_pos k35]; rw [if_pos k35] at old; rw [old, base (by omega)]
      rw [if_neg k35]
      have c24 : k = 24 ∨ k = 26 ∨ k = 27 ∨ k = 28 ∨ k = 29 ∨ k = 30 ∨ k = 31 := by omega
      rcases c24 with rfl | rfl | rfl | rfl | rfl | rfl | rfl
      · rw [rb_put_24]; rfl
      · show ca_iv (ca_si (ca_si (ca_mk g s n (1000 * Int32.ofNat s + Int32.ofNat n) (Int32.ofNat f) u v) 10 (ca_nm g) 4 0) 10 (ca_nm g) 6 (ca_iv g 0 0 7)) 10 (ca_nm g) 1 = mg_u (mg_u h 20 0 0) 26 (24 * s + n - 1) (Int32.ofNat f) 26 (24 * s + n - 1)
        rw [mg_u_s, ca_iv_n _ _ _ _ _ (by omega), ca_iv_n _ _ _ _ _ (by omega)]
        show (if (10 : Nat) = 10 ∧ ca_nm g = ca_nm g then _ else _) = _
        rw [if_pos ⟨rfl, rfl⟩]; rfl
      · show Int32.ofNat (if ca_nm g = ca_nm g then u else _) = mg_u (mg_u (mg_u h 20 0 0) 26 (24 * s + n - 1) (Int32.ofNat f)) 27 (24 * s + n - 1) (Int32.ofNat u) 27 (24 * s + n - 1)
        rw [mg_u_s, if_pos rfl]
      · show ca_iv (ca_si (ca_si (ca_mk g s n (1000 * Int32.ofNat s + Int32.ofNat n) (Int32.ofNat f) u v) 10 (ca_nm g) 4 0) 10 (ca_nm g) 6 (ca_iv g 0 0 7)) 10 (ca_nm g) 3 = mg_u (mg_u (mg_u (mg_u h 20 0 0) 26 (24 * s + n - 1) (Int32.ofNat f)) 27 (24 * s + n - 1) (Int32.ofNat u)) 28 (24 * s + n - 1) v 28 (24 * s + n - 1)
        rw [mg_u_s, ca_iv_n _ _ _ _ _ (by omega), ca_iv_n _ _ _ _ _ (by omega)]
        show (if (10 : Nat) = 10 ∧ ca_nm g = ca_nm g then _ else _) = _
        rw [if_pos ⟨rfl, rfl⟩]; rfl
      · rw [rb_put_29]
        show ca_iv (ca_si (ca_si (ca_mk g s n (1000 * Int32.ofNat s + Int32.ofNat n) (Int32.ofNat f) u v) 10 (ca_nm g) 4 0) 10 (ca_nm g) 6 (ca_iv g 0 0 7)) 10 (ca_nm g) 4 = 0
        rw [ca_iv_n _ _ _ _ _ (by omega), ca_iv_s]
      · show ca_iv (ca_si (ca_si (ca_mk g s n (1000 * Int32.ofNat s + Int32.ofNat n) (Int32.ofNat f) u v) 10 (ca_nm g) 4 0) 10 (ca_nm g) 6 (ca_iv g 0 0 7)) 10 (ca_nm g) 5 = mg_u (mg_u (mg_u (rb_new (mg_u h 20 0 0) (24 * s + n - 1) f u v) 24 (24 * s + n - 1) 1) 29 (24 * s + n - 1) 0) 30 (24 * s + n - 1) 0 30 (24 * s + n - 1)
        rw [mg_u_s, ca_iv_n _ _ _ _ _ (by omega), ca_iv_n _ _ _ _ _ (by omega)]
        show (if (10 : Nat) = 10 ∧ ca_nm g = ca_nm g then _ else _) = _
        rw [if_pos ⟨rfl, rfl⟩]; rfl
      · show ca_iv (ca_si (ca_si (ca_mk g s n (1000 * Int32.ofNat s + Int32.ofNat n) (Int32.ofNat f) u v) 10 (ca_nm g) 4 0) 10 (ca_nm g) 6 (ca_iv g 0 0 7)) 10 (ca_nm g) 6 = mg_u (mg_u (mg_u (mg_u (rb_new (mg_u h 20 0 0) (24 * s + n - 1) f u v) 24 (24 * s + n - 1) 1) 29 (24 * s + n - 1) 0) 30 (24 * s + n - 1) 0) 31 (24 * s + n - 1) (h 20 1) 31 (24 * s + n - 1)
        rw [mg_u_s, ca_iv_s]
        exact I.2.1
    · rw [if_neg hxm]
      have e : rb_put (rb_new (mg_u h 20 0 0) (24 * s + n - 1) f u v) (24 * s + n - 1) k x = h k x := by
        unfold rb_put rb_new
        rw [mg_u_n _ _ _ _ (fun z => hxm z.2), mg_u_n _ _ _ _ (fun z => hxm z.2), mg_u_n _ _ _ _ (fun z => hxm z.2), mg_u_n _ _ _ _ (fun z => hxm z.2), mg_u_n _ _ _ _ (fun z => hxm z.2), mg_u_n _ _ _ _ (fun z => hxm z.2), mg_u_n _ _ _ _ (fun z => hxm z.2), mg_u_n _ _ _ _ (fun z => hxm z.2), mg_u_n _ _ _ _ (by omega)]
      rw [e, ← I.1 k x hx hk]
      unfold sm_ab
      have eo : sm_of (ca_si (ca_si (ca_mk g s n (1000 * Int32.ofNat s + Int32.ofNat n) (Int32.ofNat f) u v) 10 (ca_nm g) 4 0) 10 (ca_nm g) 6 (ca_iv g 0 0 7)) k (sm_tb g x) = sm_of g k (sm_tb g x) := by
        cases et : sm_tb g x with
        | none => rfl
        | some j =>
          have hj := lt x j et
          have ems : ca_ms (ca_si (ca_si (ca_mk g s n (1000 * Int32.ofNat s + Int32.ofNat n) (Int32.ofNat f) u v) 10 (ca_nm g) 4 0) 10 (ca_nm g) 6 (ca_iv g 0 0 7)) j = ca_ms g j := if_neg (by omega)
          unfold sm_of
          simp only
          rw [iv 10 j 1 (by omega), iv 10 j 3 (by omega), iv 10 j 4 (by omega), iv 10 j 5 (by omega), iv 10 j 6 (by omega), ems]
      rw [eo]
  · rw [tb x hx, tb y hy]
    by_cases a : x = 24 * s + n - 1
    · rw [if_pos a]
      by_cases b : y = 24 * s + n - 1
      · intro _ _; omega
      · rw [if_neg b]
        intro e1 e2
        cases e1
        exact absurd (lt y _ e2) (by omega)
    · rw [if_neg a]
      by_cases b : y = 24 * s + n - 1
      · rw [if_pos b]
        intro e1 e2
        cases e2
        exact absurd (lt x _ e1) (by omega)
      · rw [if_neg b]
        exact I.2.2.2.1 x y j hx hy
  · rw [tb x hx]
    by_cases a : x = 24 * s + n - 1
    · rw [if_pos a]
      intro e
      cases e
      rw [a, sm_nm h1 h24, ca_iv_n _ _ _ _ _ (by omega), ca_iv_n _ _ _ _ _ (by omega)]
      show (if (10 : Nat) = 10 ∧ ca_nm g = ca_nm g then _ else _) = _
      rw [if_pos ⟨rfl, rfl⟩]; rfl
    · rw [if_neg a]
      intro e
      have hj := lt x j e
      rw [iv 10 j 0 (by omega)]
      exact I.2.2.2.2.1 x j hx e
  · unfold sm_j
    rw [tb x hx, if_neg hxm]
  · obtain ⟨j, e1, e2⟩ := sm_came I.1 hx hc
    have hj := lt x j e1
    rw [e2, iv 10 j 7 (by omega)]
theorem sm_recv {g : ca_S} {h : rb_S} (T : sm_T g h) {s n f u : Nat} (v : Int32) (hs : s < 4) (h1 : 1 ≤ n) (h24 : n ≤ 24) (hf : f < 5) (hu : u < 16) :
    (ca_recv g s n (Int32.ofNat f) u v).2 = (rb_recv h (24 * s + n - 1) f u v).2 ∧ sm_T (ca_recv g s n (Int32.ofNat f) u v).1 (rb_recv h (24 * s + n - 1) f u v).1 := by
  obtain ⟨A, D, W, F, S, K, H⟩ := T
  have hm : 24 * s + n - 1 < 96 := by omega
  have hg := sm_gapb S.1.1 hs h1 h24
  by_cases hq : rb_hs h (24 * s + n - 1)
  · have e1 : ca_recv g s n (Int32.ofNat f) u v = (ca_si g 0 0 8 (ca_iv g 0 0 8 + 1), 3) := if_neg (fun z => hg.mp z hq)
    have e2 : rb_recv h (24 * s + n - 1) f u v = (mg_u (mg_u h 20 0 0) 20 22 (h 20 22 + 1), 3) := if_pos hq
    rw [e1, e2]
    refine ⟨rfl, A, D, W, F, ?_, K, ?_⟩
    · obtain ⟨⟨I1, I2, I3, I4, I5, I6, I7, I8⟩, L⟩ := S
      refine ⟨⟨(((I1.l (fun k x _ _ => sm_ab_0 g 8 _ k x)).s 20 0 0 (by omega)).s 20 22 _ (by omega)), ?_, ?_, I4, I5, (ca_to.si I6 0 0 8 _ (by omega)).ok, (I7.t 0 0 (Or.inl rfl)).t 22 _ (by omega), I8⟩, L⟩
      · rw [ca_iv_n _ _ _ _ _ (by omega)]; exact I2
      · rw [ca_iv_s, I3]; exact (mg_u_s (mg_u h 20 0 0) 20 22 _).symm
    · exact H
  · have hnh : rb_here h (24 * s + n - 1) = false := by
      cases e : rb_here h (24 * s + n - 1) with
      | true => exact absurd (Or.inl e) hq
      | false => rfl
    obtain ⟨S2, K2⟩ := sm_mkS S K v hs h1 h24 hf hu hnh
    have ht : sm_tb (ca_si (ca_si (ca_mk g s n (1000 * Int32.ofNat s + Int32.ofNat n) (Int32.ofNat f) u v) 10 (ca_nm g) 4 0) 10 (ca_nm g) 6 (ca_iv g 0 0 7)) (24 * s + n - 1) = some (ca_nm g) := by
      rw [sm_tbm _ h1 h24]
      show (if s = s ∧ n = n then some (ca_nm g) else ca_tb g s n) = _
      rw [if_pos ⟨rfl, rfl⟩]
    obtain ⟨T2, n5, c5, g2⟩ := sm_comeT S K H hs h1 h24 hq (fun k x a b => by
      unfold rb_new
      by_cases k26 : k = 26
      · rw [mg_u_n _ _ _ _ (by omega), mg_u_n _ _ _ _ (by omega), mg_u_n _ _ _ _ (by omega), mg_u_n _ _ _ _ (by omega)]
      · rw [mg_u_n _ _ _ _ (by omega), mg_u_n _ _ _ _ (by omega), mg_u_n _ _ _ _ (by omega), mg_u_n _ _ _ _ (by omega)]) S2 K2 ht
    have e07 : ca_iv (ca_mk g s n (1000 * Int32.ofNat s + Int32.ofNat n) (Int32.ofNat f) u v) 0 0 7 = ca_iv g 0 0 7 := rfl
    have e01 : ca_iv (ca_si (ca_si (ca_mk g s n (1000 * Int32.ofNat s + Int32.ofNat n) (Int32.ofNat f) u v) 10 (ca_nm g) 4 0) 10 (ca_nm g) 6 (ca_iv g 0 0 7)) 10 (ca_nm g) 1 = ca_iv (ca_mk g s n (1000 * Int32.ofNat s + Int32.ofNat n) (Int32.ofNat f) u v) 10 (ca_nm g) 1 := by
      rw [ca_iv_n _ _ _ _ _ (by omega), ca_iv_n _ _ _ _ _ (by omega)]
    have eG : ca_come (ca_mk g s n (1000 * Int32.ofNat s + Int32.ofNat n) (Int32.ofNat f) u v) s (ca_nm g) = ca_turns (if ca_iv (ca_si (ca_si (ca_mk g s n (1000 * Int32.ofNat s + Int32.ofNat n) (Int32.ofNat f) u v) 10 (ca_nm g) 4 0) 10 (ca_nm g) 6 (ca_iv g 0 0 7)) 10 (ca_nm g) 1 = 3 then ca_turn (ca_si (ca_si (ca_mk g s n (1000 * Int32.ofNat s + Int32.ofNat n) (Int32.ofNat f) u v) 10 (ca_nm g) 4 0) 10 (ca_nm g) 6 (ca_iv g 0 0 7)) (ca_nm g) false else ca_si (ca_si (ca_mk g s n (1000 * Int32.ofNat s + Int32.ofNat n) (Int32.ofNat f) u v) 10 (ca_nm g) 4 0) 10 (ca_nm g) 6 (ca_iv g 0 0 7)) s := by
      rw [e01]
      unfold ca_come
      simp only
      rw [e07]
    rw [← eG] at T2
    have e1 : ca_recv g s n (Int32.ofNat f) u v = (ca_come (ca_mk g s n (1000 * Int32.ofNat s + Int32.ofNat n) (Int32.ofNat f) u v) s (ca_nm g), ca_recd (ca_come (ca_mk g s n (1000 * Int32.ofNat s + Int32.ofNat n) (Int32.ofNat f) u v) s (ca_nm g)) (ca_nm g)) := if_pos (hg.mpr hq)
    have e2 : rb_recv h (24 * s + n - 1) f u v = ((rb_comes (rb_new (mg_u h 20 0 0) (24 * s + n - 1) f u v) (24 * s + n - 1)).1, rb_say (rb_comes (rb_new (mg_u h 20 0 0) (24 * s + n - 1) f u v) (24 * s + n - 1)).1 (24 * s + n - 1) (rb_comes (rb_new (mg_u h 20 0 0) (24 * s + n - 1) f u v) (24 * s + n - 1)).2) := if_neg hq
    rw [e1, e2]
    refine ⟨?_, T2⟩
    have to1 := ca_to.come (ca_ok.mk S.1.2.2.2.2.2.1 s n (1000 * Int32.ofNat s + Int32.ofNat n) (Int32.ofNat f) u v hu (mi_nn (by omega)) (by rw [mi_tn (by omega)]; exact hf)) s (j := ca_nm g) (Nat.lt_succ_self _)
    have ht2 : sm_tb (ca_come (ca_mk g s n (1000 * Int32.ofNat s + Int32.ofNat n) (Int32.ofNat f) u v) s (ca_nm g)) (24 * s + n - 1) = some (ca_nm g) := by
      unfold sm_tb at ht ⊢
      rw [to1.1]
      exact ht
    obtain ⟨A', D', W', F', S', -, -⟩ := T2
    have val := sm_val S'.1.1 hm ht2
    have p0 := rb_put_29 (rb_new (mg_u h 20 0 0) (24 * s + n - 1) f u v) (24 * s + n - 1)
    refine (sm_say (st := ca_iv (ca_come (ca_mk g s n (1000 * Int32.ofNat s + Int32.ofNat n) (Int32.ofNat f) u v) s (ca_nm g)) 10 (ca_nm g) 4) (an := ca_iv (ca_come (ca_mk g s n (1000 * Int32.ofNat s + Int32.ofNat n) (Int32.ofNat f) u v) s (ca_nm g)) 10 (ca_nm g) 5) (fun z => ?_) val.2.2.2.2.1 val.2.2.2.2.2.1 ?_)
    · rw [← val.2.2.2.2.1]; exact g2 z
    · rw [← val.2.2.2.2.1]
      rcases c5 (24 * s + n - 1) with q | q | q | q | q | q
      · rw [q, p0]; exact Or.inl rfl
      · exact Or.inr (Or.inl q)
      · exact Or.inr (Or.inr (Or.inl q))
      · exact Or.inr (Or.inr (Or.inr (Or.inl q)))
      · exact Or.inr (Or.inr (Or.inr (Or.inr q)))
      · have := n5 _ q
        rw [p0] at this
        exact absurd this (by decide)
