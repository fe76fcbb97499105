/-! the reference: receive, skip, replay, tick -/
theorem rb_ok.cg {h h' : rb_S} (ho : rb_ok h) (h1 : ∀ x, h' 26 x = h 26 x ∧ h' 27 x = h 27 x) (h2 : ∀ x, h' 24 x = h 24 x ∧ h' 29 x = h 29 x) (h3 : h' 20 18 = h 20 18 ∧ h' 20 20 = h 20 20) (h4 : ∀ x, h' 36 x = h 36 x ∧ h' 37 x = h 37 x) : rb_ok h' := by
  have key : ∀ w, cp (rb_q h' w) = cp (rb_q h w) := fun w => cp_cg (fun x _ => by unfold rb_q; rw [(h2 x).1, (h2 x).2])
  refine ⟨ho.1.cg h1, ?_, ?_, ?_, ?_⟩
  · rw [key, h3.1]; exact ho.2.1
  · rw [key, h3.2]; exact ho.2.2.1
  · rw [key]; intro x hx; rw [(h4 x).1]; exact ho.2.2.2.1 x hx
  · rw [key]; intro x hx; rw [(h4 x).2]; exact ho.2.2.2.2 x hx
theorem rb_ok.t {h : rb_S} (ho : rb_ok h) (f : Nat) (v : Int32) (hf : f = 0 ∨ f = 1 ∨ f = 16 ∨ f = 22) : rb_ok (mg_u h 20 f v) :=
  ho.cg (fun _ => ⟨rfl, rfl⟩) (fun _ => ⟨rfl, rfl⟩) ⟨mg_u_n _ _ _ _ (by omega), mg_u_n _ _ _ _ (by omega)⟩ (fun _ => ⟨rfl, rfl⟩)
def rb_new (h : rb_S) (m f u : Nat) (v : Int32) : rb_S := mg_u (mg_u (mg_u h 26 m (Int32.ofNat f)) 27 m (Int32.ofNat u)) 28 m v
theorem rb_new_ok {h : rb_S} (ho : rb_ok h) (m : Nat) {f u : Nat} (v : Int32) (hf : f < 5) (hu : u < 16) : rb_ok (rb_new h m f u v) := by
  have key : ∀ w, cp (rb_q (rb_new h m f u v) w) = cp (rb_q h w) := fun w => cp_cg (fun x _ => rfl)
  refine ⟨fun x hx => ?_, ?_, ?_, ?_, ?_⟩
  · by_cases hm : x = m
    · subst hm
      have e1 : rb_new h x f u v 27 x = Int32.ofNat u := mg_u_s (mg_u h 26 x (Int32.ofNat f)) 27 x _
      have e2 : rb_new h x f u v 26 x = Int32.ofNat f := mg_u_s h 26 x _
      have e3 : rb_sub (rb_new h x f u v) x = u := by unfold rb_sub; rw [e1, mi_tn (by omega)]
      have e4 : rb_fn (rb_new h x f u v) x = f := by unfold rb_fn; rw [e2, mi_tn (by omega)]
      rw [e1, e2, e3, e4]
      exact ⟨⟨rfl, hu⟩, rfl, hf⟩
    · have e1 : rb_new h m f u v 27 x = h 27 x := mg_u_n (mg_u h 26 m (Int32.ofNat f)) 27 m _ (fun z => hm z.2)
      have e2 : rb_new h m f u v 26 x = h 26 x := mg_u_n h 26 m _ (fun z => hm z.2)
      have e3 : rb_sub (rb_new h m f u v) x = rb_sub h x := by unfold rb_sub; rw [e1]
      have e4 : rb_fn (rb_new h m f u v) x = rb_fn h x := by unfold rb_fn; rw [e2]
      rw [e1, e2, e3, e4]
      exact ho.1 x hx
  · rw [key]; exact ho.2.1
  · rw [key]; exact ho.2.2.1
  · rw [key]; exact ho.2.2.2.1
  · rw [key]; exact ho.2.2.2.2
def rb_say (h : rb_S) (m : Nat) (got : Int32) : Int32 := if got = 2 ∨ h 29 m = 0 then 2 else if h 29 m = 1 then 1 else if h 29 m = 2 then h 30 m else if h 29 m = 3 then 4 else 5
abbrev rb_hs (h : rb_S) (m : Nat) : Prop := rb_here h m = true ∨ ¬ h 25 m = 0
def rb_recv (h : rb_S) (m f u : Nat) (v : Int32) : rb_S × Int32 :=
  if rb_hs h m then (mg_u (mg_u h 20 0 0) 20 22 (h 20 22 + 1), 3)
  else ((rb_comes (rb_new (mg_u h 20 0 0) m f u v) m).1, rb_say (rb_comes (rb_new (mg_u h 20 0 0) m f u v) m).1 m (rb_comes (rb_new (mg_u h 20 0 0) m f u v) m).2)
theorem rb_nh {h : rb_S} {m : Nat} (hn : ¬ rb_here h m = true) (f u : Nat) (v : Int32) : rb_here (rb_new (mg_u h 20 0 0) m f u v) m = false := by
  have e : rb_here (rb_new (mg_u h 20 0 0) m f u v) m = rb_here h m := rfl
  rw [e]
  cases hq : rb_here h m with
  | true => exact absurd hq hn
  | false => rfl
theorem rb_gap_ge (h : rb_S) (s : Nat) : 1 ≤ rb_gap h s := by
  have key : ∀ f n, n ≤ rb_gapF h s n f := by
    intro f
    induction f with
    | zero => intro n; exact Nat.le_refl _
    | succ f ih =>
      intro n
      show n ≤ (if rb_here h (24 * s + n - 1) = true ∨ ¬ h 25 (24 * s + n - 1) = 0 then rb_gapF h s (n + 1) f else n)
      split
      · have := ih (n + 1); omega
      · omega
  exact key 24 1
def rb_mayF (h : rb_S) (s : Nat) : Nat → Nat → Bool → Bool
  | _, 0, b => b
  | k, f + 1, b => rb_mayF h s (k + 1) f (b || (rb_here h (24 * s + k - 1) && decide (¬ h 20 1 - h 31 (24 * s + k - 1) ≤ 100)))
def rb_may (h : rb_S) (s : Nat) : Bool := rb_mayF h s (rb_gap h s + 1) (24 - rb_gap h s) false
def rb_skip (h : rb_S) (s : Nat) : rb_S × Int32 :=
  if rb_may h s = true then (rb_rel (mg_u (mg_u h 20 0 0) 25 (24 * s + rb_gap h s - 1) 1) s, Int32.ofNat (rb_gap h s)) else (mg_u h 20 0 0, -1)
theorem rb_may_lt {h : rb_S} {s : Nat} (hm : rb_may h s = true) : rb_gap h s < 24 := by
  refine Classical.byContradiction (fun z => ?_)
  unfold rb_may at hm
  rw [show 24 - rb_gap h s = 0 by omega] at hm
  cases hm
abbrev rb_rpP (h : rb_S) (m : Nat) : Prop := ¬ h 24 m = 0 ∧ h 29 m = 6 ∧ h 25 m = 0
def rb_repF (s : Nat) : Nat → Nat → rb_S → Nat → rb_S × Nat
  | _, 0, h, a => (h, a)
  | n, f + 1, h, a => if rb_rpP h (24 * s + n - 1) then rb_repF s (n + 1) f (rb_comes h (24 * s + n - 1)).1 (a + 1) else rb_repF s (n + 1) f h a
theorem rb_here6 {h : rb_S} {m : Nat} (e : h 29 m = 6) : rb_here h m = false := by
  unfold rb_here
  rw [decide_eq_false (p := ¬ h 29 m = 6) (fun z => z e), Bool.and_false]
def rb_again (t : Int32) : Nat → rb_S → rb_S
  | 0, h => h
  | n + 1, h => match rb_first h 4 (-1) t with
    | none => h
    | some j => rb_again t n (rb_takes h j)
theorem rb_again_N {t : Int32} {n : Nat} {h : rb_S} (e : rb_first h 4 (-1) t = none) : rb_again t (n + 1) h = h := by
  show (match rb_first h 4 (-1) t with | none => h | some j => rb_again t n (rb_takes h j)) = h
  rw [e]
theorem rb_again_S {t : Int32} {n j : Nat} {h : rb_S} (e : rb_first h 4 (-1) t = some j) : rb_again t (n + 1) h = rb_again t n (rb_takes h j) := by
  show (match rb_first h 4 (-1) t with | none => h | some j => rb_again t n (rb_takes h j)) = _
  rw [e]
theorem rb_ag_ok {h : rb_S} (ho : rb_ok h) {t : Int32} {j : Nat} (e : rb_first h 4 (-1) t = some j) : j < 96 ∧ ¬ h 24 j = 0 ∧ h 29 j = 4 ∧ rb_ok (rb_takes h j) := by
  obtain ⟨hj, h1, h2, -⟩ := rb_first_is e
  exact ⟨hj, h1, h2, rb_takes_ok ho hj h1 (by rw [h2]; decide) (by rw [h2]; decide)⟩
theorem rb_again_ok (t : Int32) : ∀ (n : Nat) {h : rb_S}, rb_ok h → rb_ok (rb_again t n h)
  | 0, h, ho => ho
  | n + 1, h, ho => by
    cases e : rb_first h 4 (-1) t with
    | none => rw [rb_again_N e]; exact ho
    | some j => rw [rb_again_S e]; exact rb_again_ok t n (rb_ag_ok ho e).2.2.2
def rb_die (h : rb_S) (j : Nat) : rb_S := mg_u (mg_u (mg_u h 29 j 5) 37 (h 20 20).toNatClampNeg (Int32.ofNat j)) 20 20 (h 20 20 + 1)
theorem rb_die_ok {h : rb_S} (ho : rb_ok h) {j : Nat} (hj : j < 96) (hc : ¬ h 24 j = 0) (h3 : h 29 j = 3) : rb_ok (rb_die h j) ∧ cp (rb_q (rb_die h j) 3) + 1 = cp (rb_q h 3) := by
  have e29 : ∀ x, rb_die h j 29 x = if x = j then 5 else h 29 x := fun x => by
    show mg_u h 29 j 5 29 x = _
    by_cases hx : x = j
    · subst hx; rw [mg_u_s, if_pos rfl]
    · rw [mg_u_n _ _ _ _ (fun z => hx z.2), if_neg hx]
  have key : ∀ w : Int32, cp (rb_q (rb_die h j) w) + (if (3 : Int32) = w then 1 else 0) = cp (rb_q h w) + (if (5 : Int32) = w then 1 else 0) := fun w => by
    have h1 := cp_set (p := rb_q h w) (p' := rb_q (rb_die h j) w) (m := j) hj (fun x hx => by
      unfold rb_q
      rw [e29, if_neg hx]
      rfl)
    have q1 : rb_q h w j = decide ((3 : Int32) = w) := by
      unfold rb_q
      rw [h3]
      by_cases hq : (3 : Int32) = w
      · rw [decide_eq_true hq, decide_eq_true (⟨hc, hq⟩ : ¬ h 24 j = 0 ∧ (3 : Int32) = w)]
      · rw [decide_eq_false hq, decide_eq_false (fun z => hq z.2)]
    have q2 : rb_q (rb_die h j) w j = decide ((5 : Int32) = w) := by
      unfold rb_q
      rw [e29, if_pos rfl]
      by_cases hq : (5 : Int32) = w
      · rw [decide_eq_true hq, decide_eq_true (⟨hc, hq⟩ : ¬ rb_die h j 24 j = 0 ∧ (5 : Int32) = w)]
      · rw [decide_eq_false hq, decide_eq_false (fun z => hq z.2)]
    rw [q1, q2] at h1
    simpa using h1
  have k1 := key 1
  have k3 := key 3
  have k5 := key 5
  rw [if_neg (by decide), if_neg (by decide), Nat.add_zero, Nat.add_zero] at k1
  rw [if_pos rfl, if_neg (by decide), Nat.add_zero] at k3
  rw [if_neg (by decide), if_pos rfl, Nat.add_zero] at k5
  refine ⟨⟨ho.1.cg (fun x => ⟨rfl, rfl⟩), ?_, ?_, ?_, fun x hx => ?_⟩, k3⟩
  · rw [k1]; exact ho.2.1
  · rw [k5]
    show h 20 20 + 1 = _
    rw [ho.2.2.1, mi_a1]
  · rw [k1]; exact ho.2.2.2.1
  · rw [k5] at hx
    have l5 : cp (rb_q h 5) ≤ 96 := cp_le _
    show ∃ y, y < 96 ∧ mg_u (mg_u h 29 j 5) 37 (h 20 20).toNatClampNeg (Int32.ofNat j) 37 x = Int32.ofNat y
    have ht : (h 20 20).toNatClampNeg = cp (rb_q h 5) := by rw [ho.2.2.1, mi_tn (by omega)]
    rw [ht]
    by_cases hxc : x = cp (rb_q h 5)
    · rw [hxc, mg_u_s]; exact ⟨j, hj, rfl⟩
    · rw [mg_u_n _ _ _ _ (fun z => hxc z.2)]
      exact ho.2.2.2.2 x (by omega)
def rb_long : Nat → rb_S → rb_S
  | 0, h => h
  | n + 1, h => match rb_first h 3 (-1) (h 20 16) with
    | none => h
    | some j => if h 20 1 - h 32 j ≤ 50 then h else rb_long n (rb_die h j)
theorem rb_long_N {n : Nat} {h : rb_S} (e : rb_first h 3 (-1) (h 20 16) = none) : rb_long (n + 1) h = h := by
  show (match rb_first h 3 (-1) (h 20 16) with | none => h | some j => if h 20 1 - h 32 j ≤ 50 then h else rb_long n (rb_die h j)) = h
  rw [e]
theorem rb_long_S {n j : Nat} {h : rb_S} (e : rb_first h 3 (-1) (h 20 16) = some j) : rb_long (n + 1) h = if h 20 1 - h 32 j ≤ 50 then h else rb_long n (rb_die h j) := by
  show (match rb_first h 3 (-1) (h 20 16) with | none => h | some j => if h 20 1 - h 32 j ≤ 50 then h else rb_long n (rb_die h j)) = _
  rw [e]
def rb_tick (h : rb_S) (t : Int32) : rb_S := rb_long 97 (rb_again (h 20 16) 400 (mg_u (mg_u h 20 0 0) 20 1 t))
section RB6
variable {l : Launch} {D : va_G} {Z : Nat × Cell} {tys : List (ClassId × FieldType)} {ad : mg_Ad}
theorem cx_B_receive (hty : tys.map (·.2) = ma_ty) (g : ca_S) (h : rb_S) (o : Int64) (x y f1 u1 v : Int32) (hn : ¬ ((¬ x < 0 ∧ ¬ 4 ≤ x) ∧ (¬ y < 1 ∧ ¬ 24 < y) ∧ (¬ f1 < 0 ∧ ¬ 4 < f1) ∧ (¬ u1 < 0 ∧ ¬ 15 < u1) ∧ (¬ v < -1000 ∧ ¬ 1000 < v))) : mr_M l my_B_receive mc_B_receive 9 (some .int) 7 D mn_cl Z mb_B tys ma_sh [va_rf (some (ad 20 0)), .int x, .int y, .int f1, .int u1, .int v] ad (ma_R g (rb_R h o)) (some (.int 0)) (ma_R g (rb_R (mg_u h 20 0 1) o)) := by
  refine mg_M.of (cc := mc_B_receive) (maxL := 9) (ret := (some .int)) (by decide) rfl (Nat.le_of_ble_eq_true rfl) (mg_caS rfl (mg_caS rfl (mg_caS rfl (mg_caS rfl (mg_caS rfl (mg_caS rfl mg_ca0)))))) ?_
  intro p e s m args below meth c K hret hlk hnm hA
  by_cases a0 : ¬ x < 0 ∧ ¬ 4 ≤ x
  case neg =>
    refine mg_iload_n K md_B_receive_0 rfl ?_
    refine mr_cP K hA (ct_B_isSender x) ms_B_118 (by decide) md_B_receive_1 rfl (Nat.le_of_ble_eq_true rfl) ⟨Nat.zero_le _, Nat.zero_le _⟩ ?_
    rw [if_neg a0]
    refine mg_if_eq K 48 md_B_receive_4 rfl (fun h4 => ?_) (fun h4 => ?_)
    · refine mg_aload_n K md_B_receive_48 rfl ?_
      refine mg_iconst K (v := 1) md_B_receive_49 (by decide) ?_
      refine mr_cV K hA (ct_B_refuse hty g h o 1) ms_B_124 (by decide) md_B_receive_50 rfl rfl Nat.zero_lt_one rfl (Nat.le_of_ble_eq_true rfl) ⟨Nat.zero_le _, Nat.zero_le _⟩ ?_
      exact mg_iret K hret hlk md_B_receive_53 (Nat.le_refl _) (Nat.le_refl _) ⟨rfl, rfl, rfl⟩
    · exact absurd rfl h4
  by_cases a1 : ¬ y < 1 ∧ ¬ 24 < y
  case neg =>
    refine mg_iload_n K md_B_receive_0 rfl ?_
    refine mr_cP K hA (ct_B_isSender x) ms_B_118 (by decide) md_B_receive_1 rfl (Nat.le_of_ble_eq_true rfl) ⟨Nat.zero_le _, Nat.zero_le _⟩ ?_
    rw [if_pos a0]
    refine mg_if_eq K 48 md_B_receive_4 rfl (fun h4 => ?_) (fun h4 => ?_)
    · exact absurd h4 (by decide)
    · refine mg_iload_n K md_B_receive_7 rfl ?_
      refine mr_cP K hA (ct_B_isNumber y) ms_B_121 (by decide) md_B_receive_8 rfl (Nat.le_of_ble_eq_true rfl) ⟨Nat.zero_le _, Nat.zero_le _⟩ ?_
      rw [if_neg a1]
      refine mg_if_eq K 48 md_B_receive_11 rfl (fun h11 => ?_) (fun h11 => ?_)
      · refine mg_aload_n K md_B_receive_48 rfl ?_
        refine mg_iconst K (v := 1) md_B_receive_49 (by decide) ?_
        refine mr_cV K hA (ct_B_refuse hty g h o 1) ms_B_124 (by decide) md_B_receive_50 rfl rfl Nat.zero_lt_one rfl (Nat.le_of_ble_eq_true rfl) ⟨Nat.zero_le _, Nat.zero_le _⟩ ?_
        exact mg_iret K hret hlk md_B_receive_53 (Nat.le_refl _) (Nat.le_refl _) ⟨rfl, rfl, rfl⟩
      · exact absurd rfl h11
  by_cases a2 : ¬ f1 < 0 ∧ ¬ 4 < f1
  case neg =>
    refine mg_iload_n K md_B_receive_0 rfl ?_
    refine mr_cP K hA (ct_B_isSender x) ms_B_118 (by decide) md_B_receive_1 rfl (Nat.le_of_ble_eq_true rfl) ⟨Nat.zero_le _, Nat.zero_le _⟩ ?_
    rw [if_pos a0]
    refine mg_if_eq K 48 md_B_receive_4 rfl (fun h4 => ?_) (fun h4 => ?_)
    · exact absurd h4 (by decide)
    · refine mg_iload_n K md_B_receive_7 rfl ?_
      refine mr_cP K hA (ct_B_isNumber y) ms_B_121 (by decide) md_B_receive_8 rfl (Nat.le_of_ble_eq_true rfl) ⟨Nat.zero_le _, Nat.zero_le _⟩ ?_
      rw [if_pos a1]
      refine mg_if_eq K 48 md_B_receive_11 rfl (fun h11 => ?_) (fun h11 => ?_)
      · exact absurd h11 (by decide)
      · refine mg_iload_n K md_B_receive_14 rfl ?_
        refine mg_iconst K (v := 0) md_B_receive_15 (by decide) ?_
        refine mg_iconst K (v := 4) md_B_receive_16 (by decide) ?_
        refine mr_cP K hA (ct_B_in f1 0 4) ms_B_76 (by decide) md_B_receive_17 rfl (Nat.le_of_ble_eq_true rfl) ⟨Nat.zero_le _, Nat.zero_le _⟩ ?_
        rw [if_neg a2]
        refine mg_if_eq K 48 md_B_receive_20 rfl (fun h20 => ?_) (fun h20 => ?_)
        · refine mg_aload_n K md_B_receive_48 rfl ?_
          refine mg_iconst K (v := 1) md_B_receive_49 (by decide) ?_
          refine mr_cV K hA (ct_B_refuse hty g h o 1) ms_B_124 (by decide) md_B_receive_50 rfl rfl Nat.zero_lt_one rfl (Nat.le_of_ble_eq_true rfl) ⟨Nat.zero_le _, Nat.zero_le _⟩ ?_
          exact mg_iret K hret hlk md_B_receive_53 (Nat.le_refl _) (Nat.le_refl _) ⟨rfl, rfl, rfl⟩
        · exact absurd rfl h20
  by_cases a3 : ¬ u1 < 0 ∧ ¬ 15 < u1
  case neg =>
    refine mg_iload_n K md_B_receive_0 rfl ?_
    refine mr_cP K hA (ct_B_isSender x) ms_B_118 (by decide) md_B_receive_1 rfl (Nat.le_of_ble_eq_true rfl) ⟨Nat.zero_le _, Nat.zero_le _⟩ ?_
    rw [if_pos a0]
    refine mg_if_eq K 48 md_B_receive_4 rfl (fun h4 => ?_) (fun h4 => ?_)
    · exact absurd h4 (by decide)
    · refine mg_iload_n K md_B_receive_7 rfl ?_
      refine mr_cP K hA (ct_B_isNumber y) ms_B_121 (by decide) md_B_receive_8 rfl (Nat.le_of_ble_eq_true rfl) ⟨Nat.zero_le _, Nat.zero_le _⟩ ?_
      rw [if_pos a1]
      refine mg_if_eq K 48 md_B_receive_11 rfl (fun h11 => ?_) (fun h11 => ?_)
      · exact absurd h11 (by decide)
      · refine mg_iload_n K md_B_receive_14 rfl ?_
        refine mg_iconst K (v := 0) md_B_receive_15 (by decide) ?_
        refine mg_iconst K (v := 4) md_B_receive_16 (by decide) ?_
        refine mr_cP K hA (ct_B_in f1 0 4) ms_B_76 (by decide) md_B_receive_17 rfl (Nat.le_of_ble_eq_true rfl) ⟨Nat.zero_le _, Nat.zero_le _⟩ ?_
        rw [if_pos a2]
        refine mg_if_eq K 48 md_B_receive_20 rfl (fun h20 => ?_) (fun h20 => ?_)
        · exact absurd h20 (by decide)
        · refine mg_iload K md_B_receive_23 rfl ?_
          refine mg_iconst K (v := 0) md_B_receive_25 (by decide) ?_
          refine mg_bipush K (v := 15) md_B_receive_26 (by decide) ?_
          refine mr_cP K hA (ct_B_in u1 0 15) ms_B_76 (by decide) md_B_receive_28 rfl (Nat.le_of_ble_eq_true rfl) ⟨Nat.zero_le _, Nat.zero_le _⟩ ?_
          rw [if_neg a3]
          refine mg_if_eq K 48 md_B_receive_31 rfl (fun h31 => ?_) (fun h31 => ?_)
          · refine mg_aload_n K md_B_receive_48 rfl ?_
            refine mg_iconst K (v := 1) md_B_receive_49 (by decide) ?_
            refine mr_cV K hA (ct_B_refuse hty g h o 1) ms_B_124 (by decide) md_B_receive_50 rfl rfl Nat.zero_lt_one rfl (Nat.le_of_ble_eq_true rfl) ⟨Nat.zero_le _, Nat.zero_le _⟩ ?_
            exact mg_iret K hret hlk md_B_receive_53 (Nat.le_refl _) (Nat.le_refl _) ⟨rfl, rfl, rfl⟩
          · exact absurd rfl h31
  by_cases a4 : ¬ v < -1000 ∧ ¬ 1000 < v
  case neg =>
    refine mg_iload_n K md_B_receive_0 rfl ?_
    refine mr_cP K hA (ct_B_isSender x) ms_B_118 (by decide) md_B_receive_1 rfl (Nat.le_of_ble_eq_true rfl) ⟨Nat.zero_le _, Nat.zero_le _⟩ ?_
    rw [if_pos a0]
    refine mg_if_eq K 48 md_B_receive_4 rfl (fun h4 => ?_) (fun h4 => ?_)
    · exact absurd h4 (by decide)
    · refine mg_iload_n K md_B_receive_7 rfl ?_
      refine mr_cP K hA (ct_B_isNumber y) ms_B_121 (by decide) md_B_receive_8 rfl (Nat.le_of_ble_eq_true rfl) ⟨Nat.zero_le _, Nat.zero_le _⟩ ?_
      rw [if_pos a1]
      refine mg_if_eq K 48 md_B_receive_11 rfl (fun h11 => ?_) (fun h11 => ?_)
      · exact absurd h11 (by decide)
      · refine mg_iload_n K md_B_receive_14 rfl ?_
        refine mg_iconst K (v := 0) md_B_receive_15 (by decide) ?_
        refine mg_iconst K (v := 4) md_B_receive_16 (by decide) ?_
        refine mr_cP K hA (ct_B_in f1 0 4) ms_B_76 (by decide) md_B_receive_17 rfl (Nat.le_of_ble_eq_true rfl) ⟨Nat.zero_le _, Nat.zero_le _⟩ ?_
        rw [if_pos a2]
        refine mg_if_eq K 48 md_B_receive_20 rfl (fun h20 => ?_) (fun h20 => ?_)
        · exact absurd h20 (by decide)
        · refine mg_iload K md_B_receive_23 rfl ?_
          refine mg_iconst K (v := 0) md_B_receive_25 (by decide) ?_
          refine mg_bipush K (v := 15) md_B_receive_26 (by decide) ?_
          refine mr_cP K hA (ct_B_in u1 0 15) ms_B_76 (by decide) md_B_receive_28 rfl (Nat.le_of_ble_eq_true rfl) ⟨Nat.zero_le _, Nat.zero_le _⟩ ?_
          rw [if_pos a3]
          refine mg_if_eq K 48 md_B_receive_31 rfl (fun h31 => ?_) (fun h31 => ?_)
          · exact absurd h31 (by decide)
          · refine mg_iload K md_B_receive_34 rfl ?_
            refine mg_sipush K (v := (-1000)) md_B_receive_36 (by decide) ?_
            refine mg_sipush K (v := 1000) md_B_receive_39 (by decide) ?_
            refine mr_cP K hA (ct_B_in v (-1000) 1000) ms_B_76 (by decide) md_B_receive_42 rfl (Nat.le_of_ble_eq_true rfl) ⟨Nat.zero_le _, Nat.zero_le _⟩ ?_
            rw [if_neg a4]
            refine mg_if_ne K 54 md_B_receive_45 rfl (fun h45 => ?_) (fun h45 => ?_)
            · exact absurd rfl h45
            · refine mg_aload_n K md_B_receive_48 rfl ?_
              refine mg_iconst K (v := 1) md_B_receive_49 (by decide) ?_
              refine mr_cV K hA (ct_B_refuse hty g h o 1) ms_B_124 (by decide) md_B_receive_50 rfl rfl Nat.zero_lt_one rfl (Nat.le_of_ble_eq_true rfl) ⟨Nat.zero_le _, Nat.zero_le _⟩ ?_
              exact mg_iret K hret hlk md_B_receive_53 (Nat.le_refl _) (Nat.le_refl _) ⟨rfl, rfl, rfl⟩
  exact absurd ⟨a0, a1, a2, a3, a4⟩ hn
theorem ct_B_receive (hty : tys.map (·.2) = ma_ty) (g : ca_S) (h : rb_S) (o : Int64) {s0 n f1 u1 : Nat} (v : Int32) (hs : s0 < 4) (h1 : 1 ≤ n) (h24 : n ≤ 24) (hf : f1 < 5) (hu : u1 < 16) (hv : ¬ v < -1000 ∧ ¬ 1000 < v) (ho : rb_ok h) : mr_M l my_B_receive mc_B_receive 9 (some .int) 7 D mn_cl Z mb_B tys ma_sh [va_rf (some (ad 20 0)), .int (Int32.ofNat s0), .int (Int32.ofNat n), .int (Int32.ofNat f1), .int (Int32.ofNat u1), .int v] ad (ma_R g (rb_R h o)) (some (.int (rb_recv h (24 * s0 + n - 1) f1 u1 v).2)) (ma_R g (rb_R (rb_recv h (24 * s0 + n - 1) f1 u1 v).1 o)) := by
  have hfx : ¬ Int32.ofNat f1 < 0 ∧ ¬ 4 < Int32.ofNat f1 := ⟨mi_nn (by omega), fun z => by have := (mi_lt (a := 4) (b := f1) (by omega) (by omega)).mp z; omega⟩
  have hux : ¬ Int32.ofNat u1 < 0 ∧ ¬ 15 < Int32.ofNat u1 := ⟨mi_nn (by omega), fun z => by have := (mi_lt (a := 15) (b := u1) (by omega) (by omega)).mp z; omega⟩
  have hm : (24 * s0 + n - 1) < 96 := by omega
  refine mg_M.of (cc := mc_B_receive) (maxL := 9) (ret := (some .int)) (by decide) rfl (Nat.le_of_ble_eq_true rfl) (mg_caS rfl (mg_caS rfl (mg_caS rfl (mg_caS rfl (mg_caS rfl (mg_caS rfl mg_ca0)))))) ?_
  intro p e s m args below meth c K hret hlk hnm hA
  refine mg_iload_n K md_B_receive_0 rfl ?_
  refine mr_cP K hA (ct_B_isSender (Int32.ofNat s0)) ms_B_118 (by decide) md_B_receive_1 rfl (Nat.le_of_ble_eq_true rfl) ⟨Nat.zero_le _, Nat.zero_le _⟩ ?_
  rw [if_pos (mi_vs hs)]
  refine mg_if_eq K 48 md_B_receive_4 rfl (fun h4 => ?_) (fun h4 => ?_)
  · exact absurd h4 (by decide)
  · refine mg_iload_n K md_B_receive_7 rfl ?_
    refine mr_cP K hA (ct_B_isNumber (Int32.ofNat n)) ms_B_121 (by decide) md_B_receive_8 rfl (Nat.le_of_ble_eq_true rfl) ⟨Nat.zero_le _, Nat.zero_le _⟩ ?_
    rw [if_pos (mi_vN h1 h24)]
    refine mg_if_eq K 48 md_B_receive_11 rfl (fun h11 => ?_) (fun h11 => ?_)
    · exact absurd h11 (by decide)
    · refine mg_iload_n K md_B_receive_14 rfl ?_
      refine mg_iconst K (v := 0) md_B_receive_15 (by decide) ?_
      refine mg_iconst K (v := 4) md_B_receive_16 (by decide) ?_
      refine mr_cP K hA (ct_B_in (Int32.ofNat f1) 0 4) ms_B_76 (by decide) md_B_receive_17 rfl (Nat.le_of_ble_eq_true rfl) ⟨Nat.zero_le _, Nat.zero_le _⟩ ?_
      rw [if_pos hfx]
      refine mg_if_eq K 48 md_B_receive_20 rfl (fun h20 => ?_) (fun h20 => ?_)
      · exact absurd h20 (by decide)
      · refine mg_iload K md_B_receive_23 rfl ?_
        refine mg_iconst K (v := 0) md_B_receive_25 (by decide) ?_
        refine mg_bipush K (v := 15) md_B_receive_26 (by decide) ?_
        refine mr_cP K hA (ct_B_in (Int32.ofNat u1) 0 15) ms_B_76 (by decide) md_B_receive_28 rfl (Nat.le_of_ble_eq_true rfl) ⟨Nat.zero_le _, Nat.zero_le _⟩ ?_
        rw [if_pos hux]
        refine mg_if_eq K 48 md_B_receive_31 rfl (fun h31 => ?_) (fun h31 => ?_)
        · exact absurd h31 (by decide)
        · refine mg_iload K md_B_receive_34 rfl ?_
          refine mg_sipush K (v := (-1000)) md_B_receive_36 (by decide) ?_
          refine mg_sipush K (v := 1000) md_B_receive_39 (by decide) ?_
          refine mr_cP K hA (ct_B_in v (-1000) 1000) ms_B_76 (by decide) md_B_receive_42 rfl (Nat.le_of_ble_eq_true rfl) ⟨Nat.zero_le _, Nat.zero_le _⟩ ?_
          rw [if_pos hv]
          refine mg_if_ne K 54 md_B_receive_45 rfl (fun h45 => ?_) (fun h45 => ?_)
          · refine mg_aload_n K md_B_receive_54 rfl ?_
            refine mg_iconst K (v := 0) md_B_receive_55 (by decide) ?_
            refine mr_putI K mf_B_62 md_B_receive_56 Nat.zero_lt_one ?_
            refine mr_eqr (rb_sI _ _ _ _ _ _ (by decide)) ?_
            refine mg_bipush K (v := 24) md_B_receive_59 (by decide) ?_
            refine mg_iload_n K md_B_receive_61 rfl ?_
            refine mg_imul K md_B_receive_62 ?_
            refine mg_iload_n K md_B_receive_63 rfl ?_
            refine mg_iadd K md_B_receive_64 ?_
            refine mg_iconst K (v := 1) md_B_receive_65 (by decide) ?_
            refine mg_isub K md_B_receive_66 ?_
            rw [mi_ix h1]
            refine mg_istore K md_B_receive_67 (by decide) ?_
            refine mg_aload_n K md_B_receive_69 rfl ?_
            refine mg_iload K md_B_receive_70 rfl ?_
            refine mr_cV K hA (ct_B_isHere hty g (mg_u h 20 0 0) o hm) ms_B_66 (by decide) md_B_receive_72 rfl rfl Nat.zero_lt_one rfl (Nat.le_of_ble_eq_true rfl) ⟨Nat.zero_le _, Nat.zero_le _⟩ ?_
            refine mg_if_ne K 88 md_B_receive_75 rfl (fun h75 => ?_) (fun h75 => ?_)
            · have hh : rb_here h (24 * s0 + n - 1) = true := by cases hq : rb_here h (24 * s0 + n - 1) with | true => rfl | false => (exfalso; rw [show rb_here (mg_u h 20 0 0) (24 * s0 + n - 1) = rb_here h (24 * s0 + n - 1) from rfl, hq] at h75; exact h75 rfl)
              have hR : (rb_recv h (24 * s0 + n - 1) f1 u1 v) = (mg_u (mg_u h 20 0 0) 20 22 (h 20 22 + 1), 3) := if_pos (Or.inl hh)
              refine mg_aload_n K md_B_receive_88 rfl ?_
              refine mg_dup K md_B_receive_89 rfl ?_
              refine mr_getI (v := h 20 22) K mf_B_127 md_B_receive_90 (by decide) Nat.zero_lt_one rfl ?_
              refine mg_iconst K (v := 1) md_B_receive_93 (by decide) ?_
              refine mg_iadd K md_B_receive_94 ?_
              refine mr_putI K mf_B_127 md_B_receive_95 Nat.zero_lt_one ?_
              refine mr_eqr (rb_sI _ _ _ _ _ _ (by decide)) ?_
              refine mg_iconst K (v := 3) md_B_receive_98 (by decide) ?_
              exact mg_iret K hret hlk md_B_receive_99 (Nat.le_refl _) (Nat.le_refl _) ⟨by rw [hR], rfl, by rw [hR]⟩
            · have hh : ¬ rb_here h (24 * s0 + n - 1) = true := fun hq => by rw [show rb_here (mg_u h 20 0 0) (24 * s0 + n - 1) = rb_here h (24 * s0 + n - 1) from rfl, hq] at h75; exact absurd h75 (by decide)
              refine mg_aload_n K md_B_receive_78 rfl ?_
              refine mr_getS (k2 := 25) (i2 := 0) K mf_B_23 md_B_receive_79 Nat.zero_lt_one rfl ?_
              refine mg_iload K md_B_receive_82 rfl ?_
              refine mr_zald (v := h 25 (24 * s0 + n - 1)) K rfl (ma_t hty 2) md_B_receive_84 Nat.zero_lt_one (mi_vn (by omega) (by omega)) (by rw [mi_tn (by omega)]; rfl) ?_
              refine mg_if_eq K 100 md_B_receive_85 rfl (fun h85 => ?_) (fun h85 => ?_)
              · have hq : ¬ rb_hs h (24 * s0 + n - 1) := fun z => z.elim hh (fun y => y h85)
                have hR : (rb_recv h (24 * s0 + n - 1) f1 u1 v) = ((rb_comes (rb_new (mg_u h 20 0 0) (24 * s0 + n - 1) f1 u1 v) (24 * s0 + n - 1)).1, rb_say (rb_comes (rb_new (mg_u h 20 0 0) (24 * s0 + n - 1) f1 u1 v) (24 * s0 + n - 1)).1 (24 * s0 + n - 1) (rb_comes (rb_new (mg_u h 20 0 0) (24 * s0 + n - 1) f1 u1 v) (24 * s0 + n - 1)).2) := if_neg hq
                refine mg_aload_n K md_B_receive_100 rfl ?_
                refine mr_getS (k2 := 26) (i2 := 0) K mf_B_26 md_B_receive_101 Nat.zero_lt_one rfl ?_
                refine mg_iload K md_B_receive_104 rfl ?_
                refine mg_iload_n K md_B_receive_106 rfl ?_
                refine mr_iast K rfl (ma_t hty 4) md_B_receive_107 Nat.zero_lt_one (mi_vn (by omega) (by omega)) ?_
                rw [mi_tn (by omega)]
                refine mr_eqr (rb_sI _ _ _ _ _ _ (by decide)) ?_
                refine mg_aload_n K md_B_receive_108 rfl ?_
                refine mr_getS (k2 := 27) (i2 := 0) K mf_B_29 md_B_receive_109 Nat.zero_lt_one rfl ?_
                refine mg_iload K md_B_receive_112 rfl ?_
                refine mg_iload K md_B_receive_114 rfl ?_
                refine mr_iast K rfl (ma_t hty 4) md_B_receive_116 Nat.zero_lt_one (mi_vn (by omega) (by omega)) ?_
                rw [mi_tn (by omega)]
                refine mr_eqr (rb_sI _ _ _ _ _ _ (by decide)) ?_
                refine mg_aload_n K md_B_receive_117 rfl ?_
                refine mr_getS (k2 := 28) (i2 := 0) K mf_B_32 md_B_receive_118 Nat.zero_lt_one rfl ?_
                refine mg_iload K md_B_receive_121 rfl ?_
                refine mg_iload K md_B_receive_123 rfl ?_
                refine mr_iast K rfl (ma_t hty 4) md_B_receive_125 Nat.zero_lt_one (mi_vn (by omega) (by omega)) ?_
                rw [mi_tn (by omega)]
                refine mr_eqr (rb_sI _ _ _ _ _ _ (by decide)) ?_
                rw [show mg_u (mg_u (mg_u (mg_u h 20 0 0) 26 (24 * s0 + n - 1) (Int32.ofNat f1)) 27 (24 * s0 + n - 1) (Int32.ofNat u1)) 28 (24 * s0 + n - 1) v = (rb_new (mg_u h 20 0 0) (24 * s0 + n - 1) f1 u1 v) from rfl]
                refine mg_aload_n K md_B_receive_126 rfl ?_
                refine mg_iload K md_B_receive_127 rfl ?_
                refine mr_cV K hA (ct_B_comes hty g (rb_new (mg_u h 20 0 0) (24 * s0 + n - 1) f1 u1 v) o hm (rb_new_ok (ho.t 0 0 (Or.inl rfl)) _ v hf hu) (rb_nh hh f1 u1 v)) ms_B_130 (by decide) md_B_receive_129 rfl rfl Nat.zero_lt_one rfl (Nat.le_of_ble_eq_true rfl) ⟨Nat.zero_le _, Nat.zero_le _⟩ ?_
                refine mg_istore K md_B_receive_132 (by decide) ?_
                refine mg_aload_n K md_B_receive_134 rfl ?_
                refine mr_getS (k2 := 29) (i2 := 0) K mf_B_35 md_B_receive_135 Nat.zero_lt_one rfl ?_
                refine mg_iload K md_B_receive_138 rfl ?_
                refine mr_iald (v := (rb_comes (rb_new (mg_u h 20 0 0) (24 * s0 + n - 1) f1 u1 v) (24 * s0 + n - 1)).1 29 (24 * s0 + n - 1)) K rfl (ma_t hty 4) md_B_receive_140 Nat.zero_lt_one (mi_vn (by omega) (by omega)) (by rw [mi_tn (by omega)]; rfl) ?_
                refine mg_istore K md_B_receive_141 (by decide) ?_
                refine mg_iload K md_B_receive_143 rfl ?_
                refine mg_iconst K (v := 2) md_B_receive_145 (by decide) ?_
                refine mg_icmp_eq K 154 md_B_receive_146 rfl (fun h146 => ?_) (fun h146 => ?_)
                · refine mg_iconst K (v := 2) md_B_receive_154 (by decide) ?_
                  refine mg_goto K 195 md_B_receive_155 rfl ?_
                  exact mg_iret K hret hlk md_B_receive_195 (Nat.le_refl _) (Nat.le_refl _) ⟨by rw [hR]; show _ = some (Value.int (rb_say (rb_comes (rb_new (mg_u h 20 0 0) (24 * s0 + n - 1) f1 u1 v) (24 * s0 + n - 1)).1 (24 * s0 + n - 1) (rb_comes (rb_new (mg_u h 20 0 0) (24 * s0 + n - 1) f1 u1 v) (24 * s0 + n - 1)).2)); unfold rb_say; simp only [h146, if_true, if_false, true_or, or_true, or_self, or_false, false_or] <;> rfl, rfl, by rw [hR]⟩
                · refine mg_iload K md_B_receive_149 rfl ?_
                  refine mg_if_ne K 158 md_B_receive_151 rfl (fun h151 => ?_) (fun h151 => ?_)
                  · refine mg_iload K md_B_receive_158 rfl ?_
                    refine mg_iconst K (v := 1) md_B_receive_160 (by decide) ?_
                    refine mg_icmp_ne K 168 md_B_receive_161 rfl (fun h161 => ?_) (fun h161 => ?_)
                    · refine mg_iload K md_B_receive_168 rfl ?_
                      refine mg_iconst K (v := 2) md_B_receive_170 (by decide) ?_
                      refine mg_icmp_ne K 184 md_B_receive_171 rfl (fun h171 => ?_) (fun h171 => ?_)
                      · refine mg_iload K md_B_receive_184 rfl ?_
                        refine mg_iconst K (v := 3) md_B_receive_186 (by decide) ?_
                        refine mg_icmp_ne K 194 md_B_receive_187 rfl (fun h187 => ?_) (fun h187 => ?_)
                        · refine mg_iconst K (v := 5) md_B_receive_194 (by decide) ?_
                          exact mg_iret K hret hlk md_B_receive_195 (Nat.le_refl _) (Nat.le_refl _) ⟨by rw [hR]; show _ = some (Value.int (rb_say (rb_comes (rb_new (mg_u h 20 0 0) (24 * s0 + n - 1) f1 u1 v) (24 * s0 + n - 1)).1 (24 * s0 + n - 1) (rb_comes (rb_new (mg_u h 20 0 0) (24 * s0 + n - 1) f1 u1 v) (24 * s0 + n - 1)).2)); unfold rb_say; simp only [h146, h151, h161, h171, h187, if_true, if_false, true_or, or_true, or_self, or_false, false_or] <;> rfl, rfl, by rw [hR]⟩
                        · refine mg_iconst K (v := 4) md_B_receive_190 (by decide) ?_
                          refine mg_goto K 195 md_B_receive_191 rfl ?_
                          exact mg_iret K hret hlk md_B_receive_195 (Nat.le_refl _) (Nat.le_refl _) ⟨by rw [hR]; show _ = some (Value.int (rb_say (rb_comes (rb_new (mg_u h 20 0 0) (24 * s0 + n - 1) f1 u1 v) (24 * s0 + n - 1)).1 (24 * s0 + n - 1) (rb_comes (rb_new (mg_u h 20 0 0) (24 * s0 + n - 1) f1 u1 v) (24 * s0 + n - 1)).2)); unfold rb_say; simp only [h146, h151, h161, h171, h187, if_true, if_false, true_or, or_true, or_self, or_false, false_or] <;> rfl, rfl, by rw [hR]⟩
                      · refine mg_aload_n K md_B_receive_174 rfl ?_
                        refine mr_getS (k2 := 30) (i2 := 0) K mf_B_38 md_B_receive_175 Nat.zero_lt_one rfl ?_
                        refine mg_iload K md_B_receive_178 rfl ?_
                        refine mr_iald (v := (rb_comes (rb_new (mg_u h 20 0 0) (24 * s0 + n - 1) f1 u1 v) (24 * s0 + n - 1)).1 30 (24 * s0 + n - 1)) K rfl (ma_t hty 4) md_B_receive_180 Nat.zero_lt_one (mi_vn (by omega) (by omega)) (by rw [mi_tn (by omega)]; rfl) ?_
                        refine mg_goto K 195 md_B_receive_181 rfl ?_
                        exact mg_iret K hret hlk md_B_receive_195 (Nat.le_refl _) (Nat.le_refl _) ⟨by rw [hR]; show _ = some (Value.int (rb_say (rb_comes (rb_new (mg_u h 20 0 0) (24 * s0 + n - 1) f1 u1 v) (24 * s0 + n - 1)).1 (24 * s0 + n - 1) (rb_comes (rb_new (mg_u h 20 0 0) (24 * s0 + n - 1) f1 u1 v) (24 * s0 + n - 1)).2)); unfold rb_say; simp only [h146, h151, h161, h171, if_true, if_false, true_or, or_true, or_self, or_false, false_or] <;> rfl, rfl, by rw [hR]⟩
                    · refine mg_iconst K (v := 1) md_B_receive_164 (by decide) ?_
                      refine mg_goto K 195 md_B_receive_165 rfl ?_
                      exact mg_iret K hret hlk md_B_receive_195 (Nat.le_refl _) (Nat.le_refl _) ⟨by rw [hR]; show _ = some (Value.int (rb_say (rb_comes (rb_new (mg_u h 20 0 0) (24 * s0 + n - 1) f1 u1 v) (24 * s0 + n - 1)).1 (24 * s0 + n - 1) (rb_comes (rb_new (mg_u h 20 0 0) (24 * s0 + n - 1) f1 u1 v) (24 * s0 + n - 1)).2)); unfold rb_say; simp only [h146, h151, h161, if_true, if_false, true_or, or_true, or_self, or_false, false_or] <;> rfl, rfl, by rw [hR]⟩
                  · refine mg_iconst K (v := 2) md_B_receive_154 (by decide) ?_
                    refine mg_goto K 195 md_B_receive_155 rfl ?_
                    exact mg_iret K hret hlk md_B_receive_195 (Nat.le_refl _) (Nat.le_refl _) ⟨by rw [hR]; show _ = some (Value.int (rb_say (rb_comes (rb_new (mg_u h 20 0 0) (24 * s0 + n - 1) f1 u1 v) (24 * s0 + n - 1)).1 (24 * s0 + n - 1) (rb_comes (rb_new (mg_u h 20 0 0) (24 * s0 + n - 1) f1 u1 v) (24 * s0 + n - 1)).2)); unfold rb_say; simp only [h146, h151, if_true, if_false, true_or, or_true, or_self, or_false, false_or] <;> rfl, rfl, by rw [hR]⟩
              · have hR : (rb_recv h (24 * s0 + n - 1) f1 u1 v) = (mg_u (mg_u h 20 0 0) 20 22 (h 20 22 + 1), 3) := if_pos (Or.inr h85)
                refine mg_aload_n K md_B_receive_88 rfl ?_
                refine mg_dup K md_B_receive_89 rfl ?_
                refine mr_getI (v := h 20 22) K mf_B_127 md_B_receive_90 (by decide) Nat.zero_lt_one rfl ?_
                refine mg_iconst K (v := 1) md_B_receive_93 (by decide) ?_
                refine mg_iadd K md_B_receive_94 ?_
                refine mr_putI K mf_B_127 md_B_receive_95 Nat.zero_lt_one ?_
                refine mr_eqr (rb_sI _ _ _ _ _ _ (by decide)) ?_
                refine mg_iconst K (v := 3) md_B_receive_98 (by decide) ?_
                exact mg_iret K hret hlk md_B_receive_99 (Nat.le_refl _) (Nat.le_refl _) ⟨by rw [hR], rfl, by rw [hR]⟩
          · exact absurd h45 (by decide)
theorem cx_B_skip (hty : tys.map (·.2) = ma_ty) (g : ca_S) (h : rb_S) (o : Int64) (x : Int32) (hn : ¬ (¬ x < 0 ∧ ¬ 4 ≤ x)) : mr_M l my_B_skip mc_B_skip 6 (some .int) 6 D mn_cl Z mb_B tys ma_sh [va_rf (some (ad 20 0)), .int x] ad (ma_R g (rb_R h o)) (some (.int 0)) (ma_R g (rb_R (mg_u h 20 0 1) o)) := by
  refine mg_M.of (cc := mc_B_skip) (maxL := 6) (ret := (some .int)) (by decide) rfl (Nat.le_of_ble_eq_true rfl) (mg_caS rfl (mg_caS rfl mg_ca0)) ?_
  intro p e s m args below meth c K hret hlk hnm hA
  refine mg_iload_n K md_B_skip_0 rfl ?_
  refine mr_cP K hA (ct_B_isSender x) ms_B_118 (by decide) md_B_skip_1 rfl (Nat.le_of_ble_eq_true rfl) ⟨Nat.zero_le _, Nat.zero_le _⟩ ?_
  rw [if_neg hn]
  refine mg_if_ne K 13 md_B_skip_4 rfl (fun h4 => ?_) (fun h4 => ?_)
  · exact absurd rfl h4
  · refine mg_aload_n K md_B_skip_7 rfl ?_
    refine mg_iconst K (v := 1) md_B_skip_8 (by decide) ?_
    refine mr_cV K hA (ct_B_refuse hty g h o 1) ms_B_124 (by decide) md_B_skip_9 rfl rfl Nat.zero_lt_one rfl (Nat.le_of_ble_eq_true rfl) ⟨Nat.zero_le _, Nat.zero_le _⟩ ?_
    exact mg_iret K hret hlk md_B_skip_12 (Nat.le_refl _) (Nat.le_refl _) ⟨rfl, rfl, rfl⟩
theorem ct_B_skip (hty : tys.map (·.2) = ma_ty) (g : ca_S) (h : rb_S) (o : Int64) {s0 : Nat} (hs : s0 < 4) (ho : rb_ok h) : mr_M l my_B_skip mc_B_skip 6 (some .int) 6 D mn_cl Z mb_B tys ma_sh [va_rf (some (ad 20 0)), .int (Int32.ofNat s0)] ad (ma_R g (rb_R h o)) (some (.int (rb_skip h s0).2)) (ma_R g (rb_R (rb_skip h s0).1 o)) := by
  have hgl := rb_gap_le h s0
  have hg1 : 1 ≤ rb_gap h s0 := rb_gap_ge h s0
  have hge : rb_gap (mg_u h 20 0 0) s0 = rb_gap h s0 := rb_gap_cg (fun _ => ⟨rfl, rfl, rfl⟩)
  refine mg_M.of (cc := mc_B_skip) (maxL := 6) (ret := (some .int)) (by decide) rfl (Nat.le_of_ble_eq_true rfl) (mg_caS rfl (mg_caS rfl mg_ca0)) ?_
  intro p e s m args below meth c K hret hlk hnm hA
  have loop : ∀ (f k : Nat) (b : Bool), k = 25 - f ∨ (f = 0 ∧ k = 26) → 1 ≤ k → rb_mayF h s0 k f b = rb_may h s0 → mg_G p l e (mg_rm 6 0 0) s m args below meth c D mn_cl Z (mg_A ad (mr_C tys ma_sh ad (ma_R g (rb_R h o))) s.heap.size) s.heap 6 (MQ below (mg_Qc D mn_cl Z ad (mr_C tys ma_sh ad (ma_R g (rb_R h o))) s.heap.size (mg_Po tys ma_sh ad (some (.int (rb_skip h s0).2)) (ma_R g (rb_R (rb_skip h s0).1 o)))) args s 0 0 (mg_A ad (mr_C tys ma_sh ad (ma_R g (rb_R h o))) s.heap.size)) ad (mr_C tys ma_sh ad (ma_R g (rb_R (mg_u h 20 0 0) o))) [some (va_rf (some (ad 20 0))), some (.int (Int32.ofNat s0)), some (.int (Int32.ofNat (rb_gap h s0))), some (.int (if b = true then (1 : Int32) else 0)), some (.int (Int32.ofNat k))] 0 0 [] 31 := by
    intro f
    induction f with
    | zero =>
      intro k b hk h1 hT
      have hb : b = rb_may h s0 := hT
      subst hb
      refine mg_iload K md_B_skip_31 rfl ?_
      refine mg_bipush K (v := 24) md_B_skip_33 (by decide) ?_
      refine mg_icmp_gt K 91 md_B_skip_35 rfl (fun h35 => ?_) (fun h35 => ?_)
      · refine mg_iload_n K md_B_skip_91 rfl ?_
        refine mg_if_ne K 97 md_B_skip_92 rfl (fun h92 => ?_) (fun h92 => ?_)
        · have hb : rb_may h s0 = true := by cases hq : rb_may h s0 with | true => rfl | false => (rw [hq] at h92; exact absurd rfl h92)
          have hgl2 := rb_may_lt hb
          have hkok : rb_ok (mg_u (mg_u h 20 0 0) 25 (24 * s0 + rb_gap h s0 - 1) 1) := (ho.t 0 0 (Or.inl rfl)).cg (fun _ => ⟨rfl, rfl⟩) (fun _ => ⟨rfl, rfl⟩) ⟨rfl, rfl⟩ (fun _ => ⟨rfl, rfl⟩)
          have hR : (rb_skip h s0) = (rb_rel (mg_u (mg_u h 20 0 0) 25 (24 * s0 + rb_gap h s0 - 1) 1) s0, Int32.ofNat (rb_gap h s0)) := if_pos hb
          refine mg_aload_n K md_B_skip_97 rfl ?_
          refine mr_getS (k2 := 25) (i2 := 0) K mf_B_23 md_B_skip_98 Nat.zero_lt_one rfl ?_
          refine mg_bipush K (v := 24) md_B_skip_101 (by decide) ?_
          refine mg_iload_n K md_B_skip_103 rfl ?_
          refine mg_imul K md_B_skip_104 ?_
          refine mg_iload_n K md_B_skip_105 rfl ?_
          refine mg_iadd K md_B_skip_106 ?_
          refine mg_iconst K (v := 1) md_B_skip_107 (by decide) ?_
          refine mg_isub K md_B_skip_108 ?_
          rw [mi_ix hg1]
          refine mg_iconst K (v := 1) md_B_skip_109 (by decide) ?_
          refine mr_zast (v := 1) K rfl (ma_t hty 2) md_B_skip_110 Nat.zero_lt_one (mi_vn (by omega) (by omega)) (by decide) ?_
          rw [mi_tn (by omega)]
          refine mr_eqr (rb_sI _ _ _ _ _ _ (by decide)) ?_
          refine mg_aload_n K md_B_skip_111 rfl ?_
          refine mg_iload_n K md_B_skip_112 rfl ?_
          refine mr_cV K hA (ct_B_releases hty g (mg_u (mg_u h 20 0 0) 25 (24 * s0 + rb_gap h s0 - 1) 1) o hs hkok) ms_B_115 (by decide) md_B_skip_113 rfl rfl Nat.zero_lt_one rfl (Nat.le_of_ble_eq_true rfl) ⟨Nat.zero_le _, Nat.zero_le _⟩ ?_
          refine mg_iload_n K md_B_skip_116 rfl ?_
          exact mg_iret K hret hlk md_B_skip_117 (Nat.le_refl _) (Nat.le_refl _) ⟨by rw [hR], rfl, by rw [hR]⟩
        · have hb : ¬ rb_may h s0 = true := fun hq => by rw [if_pos hq] at h92; exact absurd h92 (by decide)
          have hR : (rb_skip h s0) = ((mg_u h 20 0 0), -1) := if_neg hb
          refine mg_iconst K (v := -1) md_B_skip_95 (by decide) ?_
          exact mg_iret K hret hlk md_B_skip_96 (Nat.le_refl _) (Nat.le_refl _) ⟨by rw [hR], rfl, by rw [hR]⟩
      · exact absurd ((mi_lt (a := 24) (b := k) (by omega) (by omega)).mpr (by omega)) h35
    | succ f ih =>
      intro k b hk h1 hT
      have hS : rb_mayF h s0 (k + 1) f (b || (rb_here h (24 * s0 + k - 1) && decide (¬ h 20 1 - h 31 (24 * s0 + k - 1) ≤ 100))) = rb_may h s0 := hT
      have nxt : ∀ (b2 : Bool), b2 = (b || (rb_here h (24 * s0 + k - 1) && decide (¬ h 20 1 - h 31 (24 * s0 + k - 1) ≤ 100))) → mg_G p l e (mg_rm 6 0 0) s m args below meth c D mn_cl Z (mg_A ad (mr_C tys ma_sh ad (ma_R g (rb_R h o))) s.heap.size) s.heap 6 (MQ below (mg_Qc D mn_cl Z ad (mr_C tys ma_sh ad (ma_R g (rb_R h o))) s.heap.size (mg_Po tys ma_sh ad (some (.int (rb_skip h s0).2)) (ma_R g (rb_R (rb_skip h s0).1 o)))) args s 0 0 (mg_A ad (mr_C tys ma_sh ad (ma_R g (rb_R h o))) s.heap.size)) ad (mr_C tys ma_sh ad (ma_R g (rb_R (mg_u h 20 0 0) o))) [some (va_rf (some (ad 20 0))), some (.int (Int32.ofNat s0)), some (.int (Int32.ofNat (rb_gap h s0))), some (.int (if b = true then (1 : Int32) else 0)), some (.int (Int32.ofNat k)), some (.int (Int32.ofNat (24 * s0 + k - 1)))] 0 0 [.int (if b2 = true then (1 : Int32) else 0)] 84 := by
        rintro b2 rfl
        refine mg_istore_n K md_B_skip_84 (by decide) ?_
        refine mg_iinc K (v := Int32.ofNat (k + 1)) md_B_skip_85 rfl (mi_a1 k) (by decide) ?_
        refine mg_goto K 31 md_B_skip_88 rfl ?_
        refine mg_take 5 ?_
        exact ih (k + 1) _ (by omega) (by omega) hS
      refine mg_iload K md_B_skip_31 rfl ?_
      refine mg_bipush K (v := 24) md_B_skip_33 (by decide) ?_
      refine mg_icmp_gt K 91 md_B_skip_35 rfl (fun h35 => ?_) (fun h35 => ?_)
      · exact absurd ((mi_lt (a := 24) (b := k) (by omega) (by omega)).mp h35) (by omega)
      · refine mg_bipush K (v := 24) md_B_skip_38 (by decide) ?_
        refine mg_iload_n K md_B_skip_40 rfl ?_
        refine mg_imul K md_B_skip_41 ?_
        refine mg_iload K md_B_skip_42 rfl ?_
        refine mg_iadd K md_B_skip_44 ?_
        refine mg_iconst K (v := 1) md_B_skip_45 (by decide) ?_
        refine mg_isub K md_B_skip_46 ?_
        rw [mi_ix h1]
        refine mg_istore K md_B_skip_47 (by decide) ?_
        refine mg_iload_n K md_B_skip_49 rfl ?_
        refine mg_if_ne K 79 md_B_skip_50 rfl (fun h50 => ?_) (fun h50 => ?_)
        · refine mg_iconst K (v := 1) md_B_skip_79 (by decide) ?_
          refine mg_goto K 84 md_B_skip_80 rfl ?_
          exact nxt true (by cases b with | true => rfl | false => exact absurd rfl h50)
        · have hbf : b = false := by cases b with | true => exact absurd h50 (by decide) | false => rfl
          refine mg_aload_n K md_B_skip_53 rfl ?_
          refine mg_iload K md_B_skip_54 rfl ?_
          refine mr_cV K hA (ct_B_isHere hty g (mg_u h 20 0 0) o (m0 := (24 * s0 + k - 1)) (by omega)) ms_B_66 (by decide) md_B_skip_56 rfl rfl Nat.zero_lt_one rfl (Nat.le_of_ble_eq_true rfl) ⟨Nat.zero_le _, Nat.zero_le _⟩ ?_
          refine mg_if_eq K 83 md_B_skip_59 rfl (fun h59 => ?_) (fun h59 => ?_)
          · refine mg_iconst K (v := 0) md_B_skip_83 (by decide) ?_
            exact nxt false (by rw [hbf]; cases hq : rb_here h (24 * s0 + k - 1) with | true => (rw [show rb_here (mg_u h 20 0 0) (24 * s0 + k - 1) = rb_here h (24 * s0 + k - 1) from rfl] at h59; rw [hq] at h59; exact absurd h59 (by decide)) | false => rfl)
          · refine mg_aload_n K md_B_skip_62 rfl ?_
            refine mr_getI (v := h 20 1) K mf_B_90 md_B_skip_63 (by decide) Nat.zero_lt_one rfl ?_
            refine mg_aload_n K md_B_skip_66 rfl ?_
            refine mr_getS (k2 := 31) (i2 := 0) K mf_B_41 md_B_skip_67 Nat.zero_lt_one rfl ?_
            refine mg_iload K md_B_skip_70 rfl ?_
            refine mr_iald (v := h 31 (24 * s0 + k - 1)) K rfl (ma_t hty 4) md_B_skip_72 Nat.zero_lt_one (mi_vn (by omega) (by omega)) (by rw [mi_tn (by omega)]; rfl) ?_
            refine mg_isub K md_B_skip_73 ?_
            refine mg_bipush K (v := 100) md_B_skip_74 (by decide) ?_
            refine mg_icmp_le K 83 md_B_skip_76 rfl (fun h76 => ?_) (fun h76 => ?_)
            · refine mg_iconst K (v := 0) md_B_skip_83 (by decide) ?_
              exact nxt false (by rw [hbf, decide_eq_false (fun z => z h76), Bool.and_false]; rfl)
            · refine mg_iconst K (v := 1) md_B_skip_79 (by decide) ?_
              refine mg_goto K 84 md_B_skip_80 rfl ?_
              exact nxt true (by cases hq : rb_here h (24 * s0 + k - 1) with | true => (rw [hbf, decide_eq_true h76]; rfl) | false => (exfalso; rw [show rb_here (mg_u h 20 0 0) (24 * s0 + k - 1) = rb_here h (24 * s0 + k - 1) from rfl] at h59; rw [hq] at h59; exact h59 rfl))
  refine mg_iload_n K md_B_skip_0 rfl ?_
  refine mr_cP K hA (ct_B_isSender (Int32.ofNat s0)) ms_B_118 (by decide) md_B_skip_1 rfl (Nat.le_of_ble_eq_true rfl) ⟨Nat.zero_le _, Nat.zero_le _⟩ ?_
  rw [if_pos (mi_vs hs)]
  refine mg_if_ne K 13 md_B_skip_4 rfl (fun h4 => ?_) (fun h4 => ?_)
  · refine mg_aload_n K md_B_skip_13 rfl ?_
    refine mg_iconst K (v := 0) md_B_skip_14 (by decide) ?_
    refine mr_putI K mf_B_62 md_B_skip_15 Nat.zero_lt_one ?_
    refine mr_eqr (rb_sI _ _ _ _ _ _ (by decide)) ?_
    refine mg_aload_n K md_B_skip_18 rfl ?_
    refine mg_iload_n K md_B_skip_19 rfl ?_
    refine mr_cV K hA (ct_B_gap hty g (mg_u h 20 0 0) o hs) ms_B_109 (by decide) md_B_skip_20 rfl rfl Nat.zero_lt_one rfl (Nat.le_of_ble_eq_true rfl) ⟨Nat.zero_le _, Nat.zero_le _⟩ ?_
    rw [hge]
    refine mg_istore_n K md_B_skip_23 (by decide) ?_
    refine mg_iconst K (v := 0) md_B_skip_24 (by decide) ?_
    refine mg_istore_n K md_B_skip_25 (by decide) ?_
    refine mg_iload_n K md_B_skip_26 rfl ?_
    refine mg_iconst K (v := 1) md_B_skip_27 (by decide) ?_
    refine mg_iadd K md_B_skip_28 ?_
    rw [mi_a1]
    refine mg_istore K md_B_skip_29 (by decide) ?_
    exact loop (24 - rb_gap h s0) (rb_gap h s0 + 1) false (by omega) (by omega) rfl
  · exact absurd h4 (by decide)
theorem cx_B_replay (hty : tys.map (·.2) = ma_ty) (g : ca_S) (h : rb_S) (o : Int64) (x y : Int32) (hn : ¬ ((¬ x < 0 ∧ ¬ 4 ≤ x) ∧ (¬ y < 1 ∧ ¬ 24 < y))) : mr_M l my_B_replay mc_B_replay 7 (some .int) 7 D mn_cl Z mb_B tys ma_sh [va_rf (some (ad 20 0)), .int x, .int y] ad (ma_R g (rb_R h o)) (some (.int 0)) (ma_R g (rb_R (mg_u h 20 0 1) o)) := by
  refine mg_M.of (cc := mc_B_replay) (maxL := 7) (ret := (some .int)) (by decide) rfl (Nat.le_of_ble_eq_true rfl) (mg_caS rfl (mg_caS rfl (mg_caS rfl mg_ca0))) ?_
  intro p e s m args below meth c K hret hlk hnm hA
  by_cases hx : ¬ x < 0 ∧ ¬ 4 ≤ x
  · refine mg_iload_n K md_B_replay_0 rfl ?_
    refine mr_cP K hA (ct_B_isSender x) ms_B_118 (by decide) md_B_replay_1 rfl (Nat.le_of_ble_eq_true rfl) ⟨Nat.zero_le _, Nat.zero_le _⟩ ?_
    rw [if_pos hx]
    refine mg_if_eq K 14 md_B_replay_4 rfl (fun h4 => ?_) (fun h4 => ?_)
    · exact absurd h4 (by decide)
    · refine mg_iload_n K md_B_replay_7 rfl ?_
      refine mr_cP K hA (ct_B_isNumber y) ms_B_121 (by decide) md_B_replay_8 rfl (Nat.le_of_ble_eq_true rfl) ⟨Nat.zero_le _, Nat.zero_le _⟩ ?_
      rw [if_neg (fun z => hn ⟨hx, z⟩)]
      refine mg_if_ne K 20 md_B_replay_11 rfl (fun h11 => ?_) (fun h11 => ?_)
      · exact absurd rfl h11
      · refine mg_aload_n K md_B_replay_14 rfl ?_
        refine mg_iconst K (v := 1) md_B_replay_15 (by decide) ?_
        refine mr_cV K hA (ct_B_refuse hty g h o 1) ms_B_124 (by decide) md_B_replay_16 rfl rfl Nat.zero_lt_one rfl (Nat.le_of_ble_eq_true rfl) ⟨Nat.zero_le _, Nat.zero_le _⟩ ?_
        exact mg_iret K hret hlk md_B_replay_19 (Nat.le_refl _) (Nat.le_refl _) ⟨rfl, rfl, rfl⟩
  · refine mg_iload_n K md_B_replay_0 rfl ?_
    refine mr_cP K hA (ct_B_isSender x) ms_B_118 (by decide) md_B_replay_1 rfl (Nat.le_of_ble_eq_true rfl) ⟨Nat.zero_le _, Nat.zero_le _⟩ ?_
    rw [if_neg hx]
    refine mg_if_eq K 14 md_B_replay_4 rfl (fun h4 => ?_) (fun h4 => ?_)
    · refine mg_aload_n K md_B_replay_14 rfl ?_
      refine mg_iconst K (v := 1) md_B_replay_15 (by decide) ?_
      refine mr_cV K hA (ct_B_refuse hty g h o 1) ms_B_124 (by decide) md_B_replay_16 rfl rfl Nat.zero_lt_one rfl (Nat.le_of_ble_eq_true rfl) ⟨Nat.zero_le _, Nat.zero_le _⟩ ?_
      exact mg_iret K hret hlk md_B_replay_19 (Nat.le_refl _) (Nat.le_refl _) ⟨rfl, rfl, rfl⟩
    · exact absurd rfl h4
theorem ct_B_replay (hty : tys.map (·.2) = ma_ty) (g : ca_S) (h : rb_S) (o : Int64) {s0 n0 : Nat} (hs : s0 < 4) (h1 : 1 ≤ n0) (h24 : n0 ≤ 24) (ho : rb_ok h) : mr_M l my_B_replay mc_B_replay 7 (some .int) 7 D mn_cl Z mb_B tys ma_sh [va_rf (some (ad 20 0)), .int (Int32.ofNat s0), .int (Int32.ofNat n0)] ad (ma_R g (rb_R h o)) (some (.int (Int32.ofNat (rb_repF s0 n0 (25 - n0) (mg_u h 20 0 0) 0).2))) (ma_R g (rb_R (rb_repF s0 n0 (25 - n0) (mg_u h 20 0 0) 0).1 o)) := by
  refine mg_M.of (cc := mc_B_replay) (maxL := 7) (ret := (some .int)) (by decide) rfl (Nat.le_of_ble_eq_true rfl) (mg_caS rfl (mg_caS rfl (mg_caS rfl mg_ca0))) ?_
  intro p e s m args below meth c K hret hlk hnm hA
  have loop : ∀ (f n : Nat) (h' : rb_S) (a : Nat), n + f = 25 → 1 ≤ n → rb_ok h' → rb_repF s0 n f h' a = (rb_repF s0 n0 (25 - n0) (mg_u h 20 0 0) 0) → mg_G p l e (mg_rm 7 0 0) s m args below meth c D mn_cl Z (mg_A ad (mr_C tys ma_sh ad (ma_R g (rb_R h o))) s.heap.size) s.heap 7 (MQ below (mg_Qc D mn_cl Z ad (mr_C tys ma_sh ad (ma_R g (rb_R h o))) s.heap.size (mg_Po tys ma_sh ad (some (.int (Int32.ofNat (rb_repF s0 n0 (25 - n0) (mg_u h 20 0 0) 0).2))) (ma_R g (rb_R (rb_repF s0 n0 (25 - n0) (mg_u h 20 0 0) 0).1 o)))) args s 0 0 (mg_A ad (mr_C tys ma_sh ad (ma_R g (rb_R h o))) s.heap.size)) ad (mr_C tys ma_sh ad (ma_R g (rb_R h' o))) [some (va_rf (some (ad 20 0))), some (.int (Int32.ofNat s0)), some (.int (Int32.ofNat n0)), some (.int (Int32.ofNat a)), some (.int (Int32.ofNat n))] 0 0 [] 30 := by
    intro f
    induction f with
    | zero =>
      intro n h' a hn h1 ho' hT
      refine mg_iload K md_B_replay_30 rfl ?_
      refine mg_bipush K (v := 24) md_B_replay_32 (by decide) ?_
      refine mg_icmp_gt K 109 md_B_replay_34 rfl (fun h34 => ?_) (fun h34 => ?_)
      · refine mg_iload_n K md_B_replay_109 rfl ?_
        exact mg_iret K hret hlk md_B_replay_110 (Nat.le_refl _) (Nat.le_refl _) ⟨by rw [← hT]; rfl, rfl, by rw [← hT]; rfl⟩
      · exact absurd ((mi_lt (a := 24) (b := n) (by omega) (by omega)).mpr (by omega)) h34
    | succ f ih =>
      intro n h' a hn h1 ho' hT
      have hS : (if rb_rpP h' (24 * s0 + n - 1) then rb_repF s0 (n + 1) f (rb_comes h' (24 * s0 + n - 1)).1 (a + 1) else rb_repF s0 (n + 1) f h' a) = (rb_repF s0 n0 (25 - n0) (mg_u h 20 0 0) 0) := hT
      have hm : (24 * s0 + n - 1) < 96 := by omega
      refine mg_iload K md_B_replay_30 rfl ?_
      refine mg_bipush K (v := 24) md_B_replay_32 (by decide) ?_
      refine mg_icmp_gt K 109 md_B_replay_34 rfl (fun h34 => ?_) (fun h34 => ?_)
      · exact absurd ((mi_lt (a := 24) (b := n) (by omega) (by omega)).mp h34) (by omega)
      · refine mg_bipush K (v := 24) md_B_replay_37 (by decide) ?_
        refine mg_iload_n K md_B_replay_39 rfl ?_
        refine mg_imul K md_B_replay_40 ?_
        refine mg_iload K md_B_replay_41 rfl ?_
        refine mg_iadd K md_B_replay_43 ?_
        refine mg_iconst K (v := 1) md_B_replay_44 (by decide) ?_
        refine mg_isub K md_B_replay_45 ?_
        rw [mi_ix h1]
        refine mg_istore K md_B_replay_46 (by decide) ?_
        refine mg_aload_n K md_B_replay_48 rfl ?_
        refine mr_getS (k2 := 24) (i2 := 0) K mf_B_19 md_B_replay_49 Nat.zero_lt_one rfl ?_
        refine mg_iload K md_B_replay_52 rfl ?_
        refine mr_zald (v := h' 24 (24 * s0 + n - 1)) K rfl (ma_t hty 2) md_B_replay_54 Nat.zero_lt_one (mi_vn (by omega) (by omega)) (by rw [mi_tn (by omega)]; rfl) ?_
        refine mg_if_eq K 103 md_B_replay_55 rfl (fun h55 => ?_) (fun h55 => ?_)
        · refine mg_iinc K (v := Int32.ofNat (n + 1)) md_B_replay_103 rfl (mi_a1 n) (by decide) ?_
          refine mg_goto K 30 md_B_replay_106 rfl ?_
          rw [if_neg (fun z => z.1 h55)] at hS
          refine mg_take 5 ?_
          exact ih (n + 1) h' a (by omega) (by omega) ho' hS
        · refine mg_aload_n K md_B_replay_58 rfl ?_
          refine mr_getS (k2 := 29) (i2 := 0) K mf_B_35 md_B_replay_59 Nat.zero_lt_one rfl ?_
          refine mg_iload K md_B_replay_62 rfl ?_
          refine mr_iald (v := h' 29 (24 * s0 + n - 1)) K rfl (ma_t hty 4) md_B_replay_64 Nat.zero_lt_one (mi_vn (by omega) (by omega)) (by rw [mi_tn (by omega)]; rfl) ?_
          refine mg_bipush K (v := 6) md_B_replay_65 (by decide) ?_
          refine mg_icmp_ne K 103 md_B_replay_67 rfl (fun h67 => ?_) (fun h67 => ?_)
          · refine mg_iinc K (v := Int32.ofNat (n + 1)) md_B_replay_103 rfl (mi_a1 n) (by decide) ?_
            refine mg_goto K 30 md_B_replay_106 rfl ?_
            rw [if_neg (fun z => h67 z.2.1)] at hS
            refine mg_take 5 ?_
            exact ih (n + 1) h' a (by omega) (by omega) ho' hS
          · refine mg_aload_n K md_B_replay_70 rfl ?_
            refine mr_getS (k2 := 25) (i2 := 0) K mf_B_23 md_B_replay_71 Nat.zero_lt_one rfl ?_
            refine mg_iload K md_B_replay_74 rfl ?_
            refine mr_zald (v := h' 25 (24 * s0 + n - 1)) K rfl (ma_t hty 2) md_B_replay_76 Nat.zero_lt_one (mi_vn (by omega) (by omega)) (by rw [mi_tn (by omega)]; rfl) ?_
            refine mg_if_ne K 103 md_B_replay_77 rfl (fun h77 => ?_) (fun h77 => ?_)
            · refine mg_iinc K (v := Int32.ofNat (n + 1)) md_B_replay_103 rfl (mi_a1 n) (by decide) ?_
              refine mg_goto K 30 md_B_replay_106 rfl ?_
              rw [if_neg (fun z => h77 z.2.2)] at hS
              refine mg_take 5 ?_
              exact ih (n + 1) h' a (by omega) (by omega) ho' hS
            · refine mg_aload_n K md_B_replay_80 rfl ?_
              refine mg_iload K md_B_replay_81 rfl ?_
              refine mr_cV K hA (ct_B_comes hty g h' o hm ho' (rb_here6 h67)) ms_B_130 (by decide) md_B_replay_83 rfl rfl Nat.zero_lt_one rfl (Nat.le_of_ble_eq_true rfl) ⟨Nat.zero_le _, Nat.zero_le _⟩ ?_
              refine mg_istore K md_B_replay_86 (by decide) ?_
              refine mg_iload_n K md_B_replay_88 rfl ?_
              refine mg_iload K md_B_replay_89 rfl ?_
              refine mg_bipush K (v := 6) md_B_replay_91 (by decide) ?_
              refine mg_icmp_ge K 100 md_B_replay_93 rfl (fun h93 => ?_) (fun h93 => ?_)
              · exact absurd h93 (rb_comes_lt _ _)
              · refine mg_iconst K (v := 1) md_B_replay_96 (by decide) ?_
                refine mg_goto K 101 md_B_replay_97 rfl ?_
                refine mg_iadd K md_B_replay_101 ?_
                rw [mi_a1]
                refine mg_istore_n K md_B_replay_102 (by decide) ?_
                refine mg_iinc K (v := Int32.ofNat (n + 1)) md_B_replay_103 rfl (mi_a1 n) (by decide) ?_
                refine mg_goto K 30 md_B_replay_106 rfl ?_
                rw [if_pos ⟨h55, h67, h77⟩] at hS
                refine mg_take 5 ?_
                exact ih (n + 1) _ (a + 1) (by omega) (by omega) (rb_comes_ok ho' hm (rb_here6 h67)) hS
  refine mg_iload_n K md_B_replay_0 rfl ?_
  refine mr_cP K hA (ct_B_isSender (Int32.ofNat s0)) ms_B_118 (by decide) md_B_replay_1 rfl (Nat.le_of_ble_eq_true rfl) ⟨Nat.zero_le _, Nat.zero_le _⟩ ?_
  rw [if_pos (mi_vs hs)]
  refine mg_if_eq K 14 md_B_replay_4 rfl (fun h4 => ?_) (fun h4 => ?_)
  · exact absurd h4 (by decide)
  · refine mg_iload_n K md_B_replay_7 rfl ?_
    refine mr_cP K hA (ct_B_isNumber (Int32.ofNat n0)) ms_B_121 (by decide) md_B_replay_8 rfl (Nat.le_of_ble_eq_true rfl) ⟨Nat.zero_le _, Nat.zero_le _⟩ ?_
    rw [if_pos (mi_vN h1 h24)]
    refine mg_if_ne K 20 md_B_replay_11 rfl (fun h11 => ?_) (fun h11 => ?_)
    · refine mg_aload_n K md_B_replay_20 rfl ?_
      refine mg_iconst K (v := 0) md_B_replay_21 (by decide) ?_
      refine mr_putI K mf_B_62 md_B_replay_22 Nat.zero_lt_one ?_
      refine mr_eqr (rb_sI _ _ _ _ _ _ (by decide)) ?_
      refine mg_iconst K (v := 0) md_B_replay_25 (by decide) ?_
      refine mg_istore_n K md_B_replay_26 (by decide) ?_
      refine mg_iload_n K md_B_replay_27 rfl ?_
      refine mg_istore K md_B_replay_28 (by decide) ?_
      exact loop (25 - n0) n0 (mg_u h 20 0 0) 0 (by omega) h1 (ho.t 0 0 (Or.inl rfl)) rfl
    · exact absurd h11 (by decide)
theorem cx_B_tick (hty : tys.map (·.2) = ma_ty) (g : ca_S) (h : rb_S) (o : Int64) (t : Int32) (hn : ¬ (¬ t < h 20 1 ∧ ¬ 100000 < t)) : mr_M l my_B_tick mc_B_tick 6 (some .int) 5 D mn_cl Z mb_B tys ma_sh [va_rf (some (ad 20 0)), .int t] ad (ma_R g (rb_R h o)) (some (.int 0)) (ma_R g (rb_R (mg_u h 20 0 1) o)) := by
  refine mg_M.of (cc := mc_B_tick) (maxL := 6) (ret := (some .int)) (by decide) rfl (Nat.le_of_ble_eq_true rfl) (mg_caS rfl (mg_caS rfl mg_ca0)) ?_
  intro p e s m args below meth c K hret hlk hnm hA
  refine mg_iload_n K md_B_tick_0 rfl ?_
  refine mg_aload_n K md_B_tick_1 rfl ?_
  refine mr_getI (v := h 20 1) K mf_B_90 md_B_tick_2 (by decide) Nat.zero_lt_one rfl ?_
  refine mg_ldc K md_B_tick_5 mk_B_137 ?_
  refine mr_cP K hA (ct_B_in t (h 20 1) 100000) ms_B_76 (by decide) md_B_tick_7 rfl (Nat.le_of_ble_eq_true rfl) ⟨Nat.zero_le _, Nat.zero_le _⟩ ?_
  rw [if_neg hn]
  refine mg_if_ne K 19 md_B_tick_10 rfl (fun h10 => ?_) (fun h10 => ?_)
  · exact absurd rfl h10
  · refine mg_aload_n K md_B_tick_13 rfl ?_
    refine mg_iconst K (v := 1) md_B_tick_14 (by decide) ?_
    refine mr_cV K hA (ct_B_refuse hty g h o 1) ms_B_124 (by decide) md_B_tick_15 rfl rfl Nat.zero_lt_one rfl (Nat.le_of_ble_eq_true rfl) ⟨Nat.zero_le _, Nat.zero_le _⟩ ?_
    exact mg_iret K hret hlk md_B_tick_18 (Nat.le_refl _) (Nat.le_refl _) ⟨rfl, rfl, rfl⟩
theorem ct_B_tick (hty : tys.map (·.2) = ma_ty) (g : ca_S) (h : rb_S) (o : Int64) (t : Int32) (ht : ¬ t < h 20 1 ∧ ¬ 100000 < t) (ho : rb_ok h) (hfin : rb_first (rb_again (h 20 16) 400 (mg_u (mg_u h 20 0 0) 20 1 t)) 4 (-1) (h 20 16) = none) : mr_M l my_B_tick mc_B_tick 6 (some .int) 5 D mn_cl Z mb_B tys ma_sh [va_rf (some (ad 20 0)), .int t] ad (ma_R g (rb_R h o)) (some (.int ((rb_tick h t) 20 20 - h 20 20))) (ma_R g (rb_R (rb_tick h t) o)) := by
  refine mg_M.of (cc := mc_B_tick) (maxL := 6) (ret := (some .int)) (by decide) rfl (Nat.le_of_ble_eq_true rfl) (mg_caS rfl (mg_caS rfl mg_ca0)) ?_
  intro p e s m args below meth c K hret hlk hnm hA
  have loop2 : ∀ (f : Nat) (h' : rb_S), rb_ok h' → cp (rb_q h' 3) ≤ f → rb_long (f + 1) h' = rb_tick h t → mg_G p l e (mg_rm 5 0 0) s m args below meth c D mn_cl Z (mg_A ad (mr_C tys ma_sh ad (ma_R g (rb_R h o))) s.heap.size) s.heap 6 (MQ below (mg_Qc D mn_cl Z ad (mr_C tys ma_sh ad (ma_R g (rb_R h o))) s.heap.size (mg_Po tys ma_sh ad (some (.int ((rb_tick h t) 20 20 - h 20 20))) (ma_R g (rb_R (rb_tick h t) o)))) args s 0 0 (mg_A ad (mr_C tys ma_sh ad (ma_R g (rb_R h o))) s.heap.size)) ad (mr_C tys ma_sh ad (ma_R g (rb_R h' o))) [some (va_rf (some (ad 20 0))), some (.int t), some (.int (h 20 20)), some (.int (h 20 16)), some (.int (rb_on (rb_first h' 3 (-1) (h' 20 16))))] 0 0 [] 96 := by
    intro f
    induction f with
    | zero =>
      intro h' ho' hz hT
      have e : (rb_first h' 3 (-1) (h' 20 16)) = none := rb_first_0 (Nat.le_zero.mp hz)
      rw [e]
      rw [rb_long_N e] at hT
      rw [show rb_on none = -1 from rfl]
      refine mg_iload K md_B_tick_96 rfl ?_
      refine mg_if_lt K 162 md_B_tick_98 rfl (fun h98 => ?_) (fun h98 => ?_)
      · refine mg_aload_n K md_B_tick_162 rfl ?_
        refine mr_getI (v := h' 20 20) K mf_B_96 md_B_tick_163 (by decide) Nat.zero_lt_one rfl ?_
        refine mg_iload_n K md_B_tick_166 rfl ?_
        refine mg_isub K md_B_tick_167 ?_
        exact mg_iret K hret hlk md_B_tick_168 (Nat.le_refl _) (Nat.le_refl _) ⟨by rw [hT], rfl, by rw [hT]⟩
      · exact absurd (by decide) h98
    | succ f ih =>
      intro h' ho' hz hT
      cases e : (rb_first h' 3 (-1) (h' 20 16)) with
      | none =>
        rw [rb_long_N e] at hT
        rw [show rb_on none = -1 from rfl]
        refine mg_iload K md_B_tick_96 rfl ?_
        refine mg_if_lt K 162 md_B_tick_98 rfl (fun h98 => ?_) (fun h98 => ?_)
        · refine mg_aload_n K md_B_tick_162 rfl ?_
          refine mr_getI (v := h' 20 20) K mf_B_96 md_B_tick_163 (by decide) Nat.zero_lt_one rfl ?_
          refine mg_iload_n K md_B_tick_166 rfl ?_
          refine mg_isub K md_B_tick_167 ?_
          exact mg_iret K hret hlk md_B_tick_168 (Nat.le_refl _) (Nat.le_refl _) ⟨by rw [hT], rfl, by rw [hT]⟩
        · exact absurd (by decide) h98
      | some j =>
        rw [rb_long_S e] at hT
        rw [show rb_on (some j) = Int32.ofNat j from rfl]
        obtain ⟨hj, j1, j2, -⟩ := rb_first_is e
        obtain ⟨d1, d2⟩ := rb_die_ok ho' hj j1 j2
        have l5 : cp (rb_q h' 5) < 96 := (ho'.cnt hj (by rw [j2]; decide) (by rw [j2]; decide)).2
        have hnd := ho'.2.2.1
        have htd : (h' 20 20).toNatClampNeg = cp (rb_q h' 5) := by rw [hnd, mi_tn (by omega)]
        refine mg_iload K md_B_tick_96 rfl ?_
        refine mg_if_lt K 162 md_B_tick_98 rfl (fun h98 => ?_) (fun h98 => ?_)
        · exact absurd h98 (mi_nn (by omega))
        · refine mg_aload_n K md_B_tick_101 rfl ?_
          refine mr_getI (v := h' 20 1) K mf_B_90 md_B_tick_102 (by decide) Nat.zero_lt_one rfl ?_
          refine mg_aload_n K md_B_tick_105 rfl ?_
          refine mr_getS (k2 := 32) (i2 := 0) K mf_B_44 md_B_tick_106 Nat.zero_lt_one rfl ?_
          refine mg_iload K md_B_tick_109 rfl ?_
          refine mr_iald (v := h' 32 j) K rfl (ma_t hty 4) md_B_tick_111 Nat.zero_lt_one (mi_vn (by omega) (by omega)) (by rw [mi_tn (by omega)]; rfl) ?_
          refine mg_isub K md_B_tick_112 ?_
          refine mg_bipush K (v := 50) md_B_tick_113 (by decide) ?_
          refine mg_icmp_le K 162 md_B_tick_115 rfl (fun h115 => ?_) (fun h115 => ?_)
          · rw [if_pos h115] at hT
            refine mg_aload_n K md_B_tick_162 rfl ?_
            refine mr_getI (v := Int32.ofNat (cp (rb_q h' 5))) K mf_B_96 md_B_tick_163 (by decide) Nat.zero_lt_one hnd ?_
            refine mg_iload_n K md_B_tick_166 rfl ?_
            refine mg_isub K md_B_tick_167 ?_
            exact mg_iret K hret hlk md_B_tick_168 (Nat.le_refl _) (Nat.le_refl _) ⟨by rw [← hT, hnd], rfl, by rw [← hT]⟩
          · rw [if_neg h115] at hT
            refine mg_aload_n K md_B_tick_118 rfl ?_
            refine mr_getS (k2 := 29) (i2 := 0) K mf_B_35 md_B_tick_119 Nat.zero_lt_one rfl ?_
            refine mg_iload K md_B_tick_122 rfl ?_
            refine mg_iconst K (v := 5) md_B_tick_124 (by decide) ?_
            refine mr_iast K rfl (ma_t hty 4) md_B_tick_125 Nat.zero_lt_one (mi_vn (by omega) (by omega)) ?_
            rw [mi_tn (by omega)]
            refine mr_eqr (rb_sI _ _ _ _ _ _ (by decide)) ?_
            refine mg_aload_n K md_B_tick_126 rfl ?_
            refine mr_getS (k2 := 37) (i2 := 0) K mf_B_59 md_B_tick_127 Nat.zero_lt_one rfl ?_
            refine mg_aload_n K md_B_tick_130 rfl ?_
            refine mr_getI (v := Int32.ofNat (cp (rb_q h' 5))) K mf_B_96 md_B_tick_131 (by decide) Nat.zero_lt_one hnd ?_
            refine mg_iload K md_B_tick_134 rfl ?_
            refine mr_iast K rfl (ma_t hty 4) md_B_tick_136 Nat.zero_lt_one (mi_vn (by omega) (by omega)) ?_
            rw [mi_tn (by omega)]
            refine mr_eqr (rb_sI _ _ _ _ _ _ (by decide)) ?_
            refine mg_aload_n K md_B_tick_137 rfl ?_
            refine mg_dup K md_B_tick_138 rfl ?_
            refine mr_getI (v := Int32.ofNat (cp (rb_q h' 5))) K mf_B_96 md_B_tick_139 (by decide) Nat.zero_lt_one hnd ?_
            refine mg_iconst K (v := 1) md_B_tick_142 (by decide) ?_
            refine mg_iadd K md_B_tick_143 ?_
            refine mr_putI K mf_B_96 md_B_tick_144 Nat.zero_lt_one ?_
            refine mr_eqr (rb_sI _ _ _ _ _ _ (by decide)) ?_
            rw [show mg_u (mg_u (mg_u h' 29 j 5) 37 (cp (rb_q h' 5)) (Int32.ofNat j)) 20 20 (Int32.ofNat (cp (rb_q h' 5)) + 1) = rb_die h' j by unfold rb_die; rw [htd, hnd]]
            refine mg_aload_n K md_B_tick_147 rfl ?_
            refine mg_iconst K (v := 3) md_B_tick_148 (by decide) ?_
            refine mg_iconst K (v := -1) md_B_tick_149 (by decide) ?_
            refine mg_aload_n K md_B_tick_150 rfl ?_
            refine mr_getI (v := (rb_die h' j) 20 16) K mf_B_93 md_B_tick_151 (by decide) Nat.zero_lt_one rfl ?_
            refine mr_cV K hA (ct_B_first hty g (rb_die h' j) o 3 (-1) ((rb_die h' j) 20 16)) ms_B_105 (by decide) md_B_tick_154 rfl rfl Nat.zero_lt_one rfl (Nat.le_of_ble_eq_true rfl) ⟨Nat.zero_le _, Nat.zero_le _⟩ ?_
            refine mg_istore K md_B_tick_157 (by decide) ?_
            refine mg_goto K 96 md_B_tick_159 rfl ?_
            exact ih (rb_die h' j) d1 (by omega) hT
  have loop1 : ∀ (f : Nat) (h' : rb_S), rb_ok h' → rb_first (rb_again (h 20 16) f h') 4 (-1) (h 20 16) = none → rb_again (h 20 16) f h' = rb_again (h 20 16) 400 (mg_u (mg_u h 20 0 0) 20 1 t) → mg_G p l e (mg_rm 5 0 0) s m args below meth c D mn_cl Z (mg_A ad (mr_C tys ma_sh ad (ma_R g (rb_R h o))) s.heap.size) s.heap 6 (MQ below (mg_Qc D mn_cl Z ad (mr_C tys ma_sh ad (ma_R g (rb_R h o))) s.heap.size (mg_Po tys ma_sh ad (some (.int ((rb_tick h t) 20 20 - h 20 20))) (ma_R g (rb_R (rb_tick h t) o)))) args s 0 0 (mg_A ad (mr_C tys ma_sh ad (ma_R g (rb_R h o))) s.heap.size)) ad (mr_C tys ma_sh ad (ma_R g (rb_R h' o))) [some (va_rf (some (ad 20 0))), some (.int t), some (.int (h 20 20)), some (.int (h 20 16)), some (.int (rb_on (rb_first h' 4 (-1) (h 20 16))))] 0 0 [] 48 := by
    have go2 : ∀ (h' : rb_S), rb_ok h' → h' = rb_again (h 20 16) 400 (mg_u (mg_u h 20 0 0) 20 1 t) → mg_G p l e (mg_rm 5 0 0) s m args below meth c D mn_cl Z (mg_A ad (mr_C tys ma_sh ad (ma_R g (rb_R h o))) s.heap.size) s.heap 6 (MQ below (mg_Qc D mn_cl Z ad (mr_C tys ma_sh ad (ma_R g (rb_R h o))) s.heap.size (mg_Po tys ma_sh ad (some (.int ((rb_tick h t) 20 20 - h 20 20))) (ma_R g (rb_R (rb_tick h t) o)))) args s 0 0 (mg_A ad (mr_C tys ma_sh ad (ma_R g (rb_R h o))) s.heap.size)) ad (mr_C tys ma_sh ad (ma_R g (rb_R h' o))) [some (va_rf (some (ad 20 0))), some (.int t), some (.int (h 20 20)), some (.int (h 20 16)), some (.int (-1))] 0 0 [] 84 := by
      intro h' ho' hE
      refine mg_aload_n K md_B_tick_84 rfl ?_
      refine mg_iconst K (v := 3) md_B_tick_85 (by decide) ?_
      refine mg_iconst K (v := -1) md_B_tick_86 (by decide) ?_
      refine mg_aload_n K md_B_tick_87 rfl ?_
      refine mr_getI (v := h' 20 16) K mf_B_93 md_B_tick_88 (by decide) Nat.zero_lt_one rfl ?_
      refine mr_cV K hA (ct_B_first hty g h' o 3 (-1) (h' 20 16)) ms_B_105 (by decide) md_B_tick_91 rfl rfl Nat.zero_lt_one rfl (Nat.le_of_ble_eq_true rfl) ⟨Nat.zero_le _, Nat.zero_le _⟩ ?_
      refine mg_istore K md_B_tick_94 (by decide) ?_
      exact loop2 96 h' ho' (cp_le _) (by rw [hE]; rfl)
    intro f
    induction f with
    | zero =>
      intro h' ho' hfn hT
      have e : (rb_first h' 4 (-1) (h 20 16)) = none := hfn
      rw [e]
      rw [show rb_on none = -1 from rfl]
      refine mg_iload K md_B_tick_48 rfl ?_
      refine mg_if_lt K 84 md_B_tick_50 rfl (fun h50 => ?_) (fun h50 => ?_)
      · exact go2 h' ho' hT
      · exact absurd (by decide) h50
    | succ f ih =>
      intro h' ho' hfn hT
      cases e : (rb_first h' 4 (-1) (h 20 16)) with
      | none =>
        rw [rb_again_N e] at hT
        rw [show rb_on none = -1 from rfl]
        refine mg_iload K md_B_tick_48 rfl ?_
        refine mg_if_lt K 84 md_B_tick_50 rfl (fun h50 => ?_) (fun h50 => ?_)
        · exact go2 h' ho' hT
        · exact absurd (by decide) h50
      | some j =>
        rw [rb_again_S e] at hT hfn
        rw [show rb_on (some j) = Int32.ofNat j from rfl]
        obtain ⟨hj, j1, j2, j3⟩ := rb_ag_ok ho' e
        refine mg_iload K md_B_tick_48 rfl ?_
        refine mg_if_lt K 84 md_B_tick_50 rfl (fun h50 => ?_) (fun h50 => ?_)
        · exact absurd h50 (mi_nn (by omega))
        · refine mg_aload_n K md_B_tick_53 rfl ?_
          refine mg_iload K md_B_tick_54 rfl ?_
          refine mr_cV K hA (ct_B_takes hty g h' o hj ho' j1 (by rw [j2]; decide) (by rw [j2]; decide)) ms_B_112 (by decide) md_B_tick_56 rfl rfl Nat.zero_lt_one rfl (Nat.le_of_ble_eq_true rfl) ⟨Nat.zero_le _, Nat.zero_le _⟩ ?_
          refine mg_istore K md_B_tick_59 (by decide) ?_
          refine mg_iload K md_B_tick_61 rfl ?_
          refine mg_bipush K (v := 6) md_B_tick_63 (by decide) ?_
          refine mg_icmp_ge K 78 md_B_tick_65 rfl (fun h65 => ?_) (fun h65 => ?_)
          · exact absurd h65 (rb_dec_lt _ _)
          · refine mg_aload_n K md_B_tick_68 rfl ?_
            refine mg_iconst K (v := 4) md_B_tick_69 (by decide) ?_
            refine mg_iconst K (v := -1) md_B_tick_70 (by decide) ?_
            refine mg_iload_n K md_B_tick_71 rfl ?_
            refine mr_cV K hA (ct_B_first hty g (rb_takes h' j) o 4 (-1) (h 20 16)) ms_B_105 (by decide) md_B_tick_72 rfl rfl Nat.zero_lt_one rfl (Nat.le_of_ble_eq_true rfl) ⟨Nat.zero_le _, Nat.zero_le _⟩ ?_
            refine mg_goto K 79 md_B_tick_75 rfl ?_
            refine mg_istore K md_B_tick_79 (by decide) ?_
            refine mg_goto K 48 md_B_tick_81 rfl ?_
            refine mg_take 5 ?_
            exact ih (rb_takes h' j) j3 hfn hT
  refine mg_iload_n K md_B_tick_0 rfl ?_
  refine mg_aload_n K md_B_tick_1 rfl ?_
  refine mr_getI (v := h 20 1) K mf_B_90 md_B_tick_2 (by decide) Nat.zero_lt_one rfl ?_
  refine mg_ldc K md_B_tick_5 mk_B_137 ?_
  refine mr_cP K hA (ct_B_in t (h 20 1) 100000) ms_B_76 (by decide) md_B_tick_7 rfl (Nat.le_of_ble_eq_true rfl) ⟨Nat.zero_le _, Nat.zero_le _⟩ ?_
  rw [if_pos ht]
  refine mg_if_ne K 19 md_B_tick_10 rfl (fun h10 => ?_) (fun h10 => ?_)
  · refine mg_aload_n K md_B_tick_19 rfl ?_
    refine mg_iconst K (v := 0) md_B_tick_20 (by decide) ?_
    refine mr_putI K mf_B_62 md_B_tick_21 Nat.zero_lt_one ?_
    refine mr_eqr (rb_sI _ _ _ _ _ _ (by decide)) ?_
    refine mg_aload_n K md_B_tick_24 rfl ?_
    refine mg_iload_n K md_B_tick_25 rfl ?_
    refine mr_putI K mf_B_90 md_B_tick_26 Nat.zero_lt_one ?_
    refine mr_eqr (rb_sI _ _ _ _ _ _ (by decide)) ?_
    refine mg_aload_n K md_B_tick_29 rfl ?_
    refine mr_getI (v := h 20 20) K mf_B_96 md_B_tick_30 (by decide) Nat.zero_lt_one rfl ?_
    refine mg_istore_n K md_B_tick_33 (by decide) ?_
    refine mg_aload_n K md_B_tick_34 rfl ?_
    refine mr_getI (v := h 20 16) K mf_B_93 md_B_tick_35 (by decide) Nat.zero_lt_one rfl ?_
    refine mg_istore_n K md_B_tick_38 (by decide) ?_
    refine mg_aload_n K md_B_tick_39 rfl ?_
    refine mg_iconst K (v := 4) md_B_tick_40 (by decide) ?_
    refine mg_iconst K (v := -1) md_B_tick_41 (by decide) ?_
    refine mg_iload_n K md_B_tick_42 rfl ?_
    refine mr_cV K hA (ct_B_first hty g (mg_u (mg_u h 20 0 0) 20 1 t) o 4 (-1) (h 20 16)) ms_B_105 (by decide) md_B_tick_43 rfl rfl Nat.zero_lt_one rfl (Nat.le_of_ble_eq_true rfl) ⟨Nat.zero_le _, Nat.zero_le _⟩ ?_
    refine mg_istore K md_B_tick_46 (by decide) ?_
    exact loop1 400 (mg_u (mg_u h 20 0 0) 20 1 t) ((ho.t 0 0 (Or.inl rfl)).t 1 t (Or.inr (Or.inl rfl))) hfin rfl
  · exact absurd h10 (by decide)
end RB6
