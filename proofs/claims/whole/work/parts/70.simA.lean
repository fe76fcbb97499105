/-! the class beside the reference: what both hold -/
/-- the least of a set, as the reference finds it -/
theorem rb_fF_min (h : rb_S) (w s t : Int32) : ∀ (f k : Nat) (x : Option Nat), (∀ j, x = some j → ∀ m, m < k → rb_is h w s t m → h 34 j ≤ h 34 m) → (x = none → ∀ m, m < k → ¬ rb_is h w s t m) → ∀ j, rb_fF h w s t k f x = some j → ∀ m, m < k + f → rb_is h w s t m → h 34 j ≤ h 34 m
  | 0, k, x, hx, _, j, hj, m, hm, hi => hx j hj m hm hi
  | f + 1, k, x, hx, hn, j, hj, m, hm, hi => by
    refine rb_fF_min h w s t f (k + 1) (rb_f1 h w s t k x) (fun i hi => ?_) (fun he => ?_) j hj m (by omega) hi
    · intro m' hm' his
      cases x with
      | none =>
        have hi : (if rb_is h w s t k then some k else none) = some i := hi
        split at hi
        · cases hi
          by_cases hk : m' = k
          · rw [hk]; exact Int32.le_refl _
          · exact absurd his (hn rfl m' (by omega))
        · cases hi
      | some y =>
        have hi : (if rb_is h w s t k ∧ ¬ h 34 y ≤ h 34 k then some k else some y) = some i := hi
        split at hi
        · next h1 =>
          cases hi
          by_cases hk : m' = k
          · rw [hk]; exact Int32.le_refl _
          · have := hx y rfl m' (by omega) his
            have h2 : h 34 k < h 34 y := Int32.not_le.mp h1.2
            exact Int32.le_trans (Int32.le_of_lt h2) this
        · next h1 =>
          cases hi
          by_cases hk : m' = k
          · subst hk
            exact Classical.byContradiction (fun z => h1 ⟨his, z⟩)
          · exact hx _ rfl m' (by omega) his
    · intro m' hm' his
      cases x with
      | none =>
        have he : (if rb_is h w s t k then some k else none) = none := he
        by_cases hk : m' = k
        · subst hk
          rw [if_pos his] at he
          cases he
        · exact hn rfl m' (by omega) his
      | some y =>
        have he : (if rb_is h w s t k ∧ ¬ h 34 y ≤ h 34 k then some k else some y) = none := he
        split at he <;> cases he
theorem rb_first_min {h : rb_S} {w s t : Int32} {j : Nat} (hj : rb_first h w s t = some j) {m : Nat} (hm : m < 96) (hi : rb_is h w s t m) : h 34 j ≤ h 34 m :=
  rb_fF_min h w s t 96 0 none (fun _ h => by cases h) (fun _ m hm => absurd hm (by omega)) j hj m (by omega) hi
/-- the first of a list that is in order is what the reference finds -/
theorem sl_split (P : Nat → Bool) : ∀ W : List Nat, (∀ x ∈ W, P x = false) ∨ ∃ W1 m W2, W = W1 ++ m :: W2 ∧ P m = true ∧ ∀ x ∈ W1, P x = false
  | [] => Or.inl (fun _ h => by cases h)
  | a :: l => by
    cases ha : P a with
    | true => exact Or.inr ⟨[], a, l, rfl, ha, fun _ h => by cases h⟩
    | false =>
      rcases sl_split P l with h | ⟨W1, m, W2, e, h1, h2⟩
      · exact Or.inl (fun x hx => by
          rcases List.mem_cons.mp hx with rfl | hx
          · exact ha
          · exact h x hx)
      · refine Or.inr ⟨a :: W1, m, W2, by rw [e]; rfl, h1, fun x hx => ?_⟩
        rcases List.mem_cons.mp hx with rfl | hx
        · exact ha
        · exact h2 x hx
theorem sl_first {h : rb_S} {w s t : Int32} {W W1 W2 : List Nat} {m : Nat} {P : Nat → Bool} (hs : W.Pairwise (fun a b => h 34 a < h 34 b)) (hi : ∀ x, (x < 96 ∧ rb_is h w s t x) ↔ (x ∈ W ∧ P x = true)) (hW : W = W1 ++ m :: W2) (hm : P m = true) (h1 : ∀ x ∈ W1, P x = false) : rb_first h w s t = some m := by
  have hin : m ∈ W := by rw [hW]; simp
  have hmi := (hi m).mpr ⟨hin, hm⟩
  cases e : rb_first h w s t with
  | none => exact absurd hmi.2 (rb_first_none e hmi.1)
  | some j =>
    have hj := rb_first_is e
    obtain ⟨hjW, hjP⟩ := (hi j).mp hj
    have hle := rb_first_min e hmi.1 hmi.2
    rw [hW] at hjW hs
    rcases List.mem_append.mp hjW with hq | hq
    · rw [h1 j hq] at hjP; cases hjP
    · rcases List.mem_cons.mp hq with rfl | hq
      · rfl
      · have := (List.pairwise_cons.mp (List.pairwise_append.mp hs).2.1).1 j hq
        exact absurd hle (Int32.not_le.mpr this)
theorem sl_none {h : rb_S} {w s t : Int32} {W : List Nat} {P : Nat → Bool} (hi : ∀ x, (x < 96 ∧ rb_is h w s t x) ↔ (x ∈ W ∧ P x = true)) (h1 : ∀ x ∈ W, P x = false) : rb_first h w s t = none := by
  cases e : rb_first h w s t with
  | none => rfl
  | some j =>
    obtain ⟨a, b⟩ := (hi j).mp (rb_first_is e)
    rw [h1 j a] at b
    cases b
/-- the class's search of a line -/
theorem sl_idx (f : Nat → Nat) (p P : Nat → Bool) : ∀ (W1 : List Nat) (m : Nat) (W2 : List Nat), (∀ x ∈ W1, p (f x) = false) → p (f m) = true → ((W1 ++ m :: W2).map f).findIdx? p = some W1.length
  | [], m, W2, _, hm => by
    simp [List.findIdx?_cons, hm]
  | a :: l, m, W2, h, hm => by
    have ih := sl_idx f p P l m W2 (fun x hx => h x (List.mem_cons_of_mem _ hx)) hm
    have ha := h a List.mem_cons_self
    simp only [List.cons_append, List.map_cons, List.findIdx?_cons, ha]
    rw [ih]
    rfl
theorem sl_idxN (f : Nat → Nat) (p : Nat → Bool) (W : List Nat) (h : ∀ x ∈ W, p (f x) = false) : (W.map f).findIdx? p = none := by
  rw [List.findIdx?_eq_none_iff]
  intro x hx
  obtain ⟨y, hy, rfl⟩ := List.mem_map.mp hx
  exact h y hy
theorem sl_erase (f : Nat → Nat) : ∀ (W1 : List Nat) (m : Nat) (W2 : List Nat), ((W1 ++ m :: W2).map f).eraseIdx W1.length = (W1 ++ W2).map f
  | [], m, W2 => rfl
  | a :: l, m, W2 => by
    show f a :: (((l ++ m :: W2).map f).eraseIdx l.length) = _
    rw [sl_erase f l m W2]
    rfl
theorem sl_get (f : Nat → Nat) : ∀ (W1 : List Nat) (m : Nat) (W2 : List Nat), ((W1 ++ m :: W2).map f).getD W1.length 0 = f m
  | [], m, W2 => rfl
  | a :: l, m, W2 => sl_get f l m W2
/-! the class's state as the reference would hold it -/
def sm_tb (g : ca_S) (m : Nat) : Option Nat := ca_tb g (m / 24) (m % 24 + 1)
def sm_j (g : ca_S) (m : Nat) : Nat := (sm_tb g m).getD 0
def sm_of (g : ca_S) (k : Nat) : Option Nat → Int32
  | none => 0
  | some j => if k = 24 then 1 else if k = 26 then ca_iv g 10 j 1 else if k = 27 then Int32.ofNat (ca_ms g j) else if k = 28 then ca_iv g 10 j 3 else if k = 29 then ca_iv g 10 j 4 else if k = 30 then ca_iv g 10 j 5 else if k = 31 then ca_iv g 10 j 6 else 0
def sm_ab (g : ca_S) (k x : Nat) : Int32 :=
  if k = 21 then ca_iv g 7 x 0 else if k = 22 then ca_iv g 7 x 1 else if k = 23 then ca_iv g 7 x 2 else if k = 25 then ca_iv g 6 (x / 24) (x % 24 + 1) else if k = 35 then ca_iv g 3 0 x else sm_of g k (sm_tb g x)
abbrev sm_sh (k : Nat) : Prop := (21 ≤ k ∧ k ≤ 31) ∨ k = 35
def sm_ag (a : Nat → Nat → Int32) (h : rb_S) : Prop := ∀ k x, x < 96 → sm_sh k → a k x = h k x
theorem sm_ag.u {a : Nat → Nat → Int32} {h : rb_S} (H : sm_ag a h) (i j : Nat) (v : Int32) : sm_ag (mg_u a i j v) (mg_u h i j v) := fun k x hx hk => by
  by_cases hz : k = i ∧ x = j
  · obtain ⟨rfl, rfl⟩ := hz
    rw [mg_u_s, mg_u_s]
  · rw [mg_u_n _ _ _ _ hz, mg_u_n _ _ _ _ hz]
    exact H k x hx hk
theorem sm_ag.s {a : Nat → Nat → Int32} {h : rb_S} (H : sm_ag a h) (i j : Nat) (v : Int32) (hi : ¬ sm_sh i) : sm_ag a (mg_u h i j v) := fun k x hx hk => by
  rw [mg_u_n _ _ _ _ (fun z : k = i ∧ x = j => hi (z.1 ▸ hk))]
  exact H k x hx hk
theorem sm_ag.l {a b : Nat → Nat → Int32} {h : rb_S} (H : sm_ag a h) (e : ∀ k x, x < 96 → sm_sh k → b k x = a k x) : sm_ag b h := fun k x hx hk => (e k x hx hk).trans (H k x hx hk)
/-- a write that changes nothing -/
theorem sm_ag.i {a : Nat → Nat → Int32} {h : rb_S} (H : sm_ag a h) {i j : Nat} {v : Int32} (hv : h i j = v) : sm_ag a (mg_u h i j v) := fun k x hx hk => by
  by_cases hz : k = i ∧ x = j
  · obtain ⟨rfl, rfl⟩ := hz
    rw [mg_u_s, ← hv]
    exact H k x hx hk
  · rw [mg_u_n _ _ _ _ hz]
    exact H k x hx hk
def sm_inj (g : ca_S) : Prop := ∀ m m' j, m < 96 → m' < 96 → sm_tb g m = some j → sm_tb g m' = some j → m = m'
/-- a write to a message -/
theorem sm_ab_m {g : ca_S} (hj : sm_inj g) {m j : Nat} (hm : m < 96) (ht : sm_tb g m = some j) (f : Nat) (v : Int32) (hf : f = 4 ∨ f = 5 ∨ f = 6) : ∀ k x, x < 96 → sm_sh k → sm_ab (ca_si g 10 j f v) k x = mg_u (sm_ab g) (25 + f) m v k x := by
  intro k x hx hk
  have n : ∀ {a b c : Nat}, ¬ (a = 10 ∧ b = j ∧ c = f) → ca_iv (ca_si g 10 j f v) a b c = ca_iv g a b c := fun hh => ca_iv_n _ _ _ _ _ hh
  have hne : ∀ {y : Int32}, ¬ (k = 25 + f ∧ x = m) → y = sm_ab g k x → y = mg_u (sm_ab g) (25 + f) m v k x := fun hh e => by rw [mg_u_n _ _ _ _ hh]; exact e
  by_cases hz : k = 25 + f ∧ x = m
  · obtain ⟨rfl, rfl⟩ := hz
    rw [mg_u_s]
    unfold sm_ab
    rw [if_neg (by omega), if_neg (by omega), if_neg (by omega), if_neg (by omega), if_neg (by omega)]
    show sm_of (ca_si g 10 j f v) (25 + f) (sm_tb g x) = v
    rw [ht]
    unfold sm_of
    rcases hf with rfl | rfl | rfl <;> simp [ca_iv_s]
  · refine hne hz ?_
    unfold sm_ab
    rw [n (by omega), n (by omega), n (by omega), n (by omega), n (by omega)]
    split
    · rfl
    split
    · rfl
    split
    · rfl
    split
    · rfl
    split
    · rfl
    show sm_of (ca_si g 10 j f v) k (sm_tb g x) = sm_of g k (sm_tb g x)
    cases e : sm_tb g x with
    | none => rfl
    | some j2 =>
      have hj2 : j2 = j → ¬ k = 25 + f := fun e2 hk2 => hz ⟨hk2, hj x m j hx hm (e2 ▸ e) ht⟩
      unfold sm_of
      have n2 : ∀ c, (c ≠ f ∨ j2 ≠ j) → ca_iv (ca_si g 10 j f v) 10 j2 c = ca_iv g 10 j2 c := fun c hc => n (fun z => hc.elim (fun q => q z.2.2) (fun q => q z.2.1))
      simp only
      split
      · rfl
      split
      · exact n2 1 (by omega)
      split
      · rfl
      split
      · exact n2 3 (by omega)
      split
      · exact n2 4 (by omega)
      split
      · exact n2 5 (by omega)
      split
      · exact n2 6 (by omega)
      rfl
theorem sm_ab_7 (g : ca_S) (j : Nat) (v : Int32) : ∀ k x, sm_ab (ca_si g 10 j 7 v) k x = sm_ab g k x := by
  intro k x
  have n : ∀ {a b c : Nat}, ¬ (a = 10 ∧ b = j ∧ c = 7) → ca_iv (ca_si g 10 j 7 v) a b c = ca_iv g a b c := fun hh => ca_iv_n _ _ _ _ _ hh
  unfold sm_ab
  rw [n (by omega), n (by omega), n (by omega), n (by omega), n (by omega)]
  have e : sm_of (ca_si g 10 j 7 v) k (sm_tb g x) = sm_of g k (sm_tb g x) := by
    cases sm_tb g x with
    | none => rfl
    | some j2 =>
      unfold sm_of
      simp only
      rw [n (by omega), n (by omega), n (by omega), n (by omega), n (by omega)]
      rfl
  show (if k = 21 then _ else if k = 22 then _ else if k = 23 then _ else if k = 25 then _ else if k = 35 then _ else sm_of (ca_si g 10 j 7 v) k (sm_tb g x)) = _
  rw [e]
/-- a write to a subject, to the failing functions, to the skipped numbers -/
theorem sm_of_n (g : ca_S) (a i f k : Nat) (v : Int32) (ha : a ≠ 10) (x : Option Nat) : sm_of (ca_si g a i f v) k x = sm_of g k x := by
  cases x with
  | none => rfl
  | some j =>
    unfold sm_of
    simp only
    rw [ca_iv_n _ _ _ _ _ (by omega), ca_iv_n _ _ _ _ _ (by omega), ca_iv_n _ _ _ _ _ (by omega), ca_iv_n _ _ _ _ _ (by omega), ca_iv_n _ _ _ _ _ (by omega)]
    rfl
theorem sm_ab_s (g : ca_S) (u f : Nat) (v : Int32) (hf : f < 3) : ∀ k x, sm_ab (ca_si g 7 u f v) k x = mg_u (sm_ab g) (21 + f) u v k x := by
  intro k x
  by_cases hz : k = 21 + f ∧ x = u
  · obtain ⟨rfl, rfl⟩ := hz
    rw [mg_u_s]
    unfold sm_ab
    have : f = 0 ∨ f = 1 ∨ f = 2 := by omega
    rcases this with rfl | rfl | rfl <;> simp [ca_iv_s]
  · rw [mg_u_n _ _ _ _ hz]
    unfold sm_ab
    show (if k = 21 then _ else if k = 22 then _ else if k = 23 then _ else if k = 25 then _ else if k = 35 then _ else sm_of (ca_si g 7 u f v) k (sm_tb g x)) = _
    rw [sm_of_n g 7 u f k v (by decide)]
    split
    · exact ca_iv_n _ _ _ _ _ (by omega)
    split
    · exact ca_iv_n _ _ _ _ _ (by omega)
    split
    · exact ca_iv_n _ _ _ _ _ (by omega)
    split
    · exact ca_iv_n _ _ _ _ _ (by omega)
    split
    · exact ca_iv_n _ _ _ _ _ (by omega)
    rfl
theorem sm_ab_f (g : ca_S) (u : Nat) (v : Int32) : ∀ k x, sm_ab (ca_si g 3 0 u v) k x = mg_u (sm_ab g) 35 u v k x := by
  intro k x
  by_cases hz : k = 35 ∧ x = u
  · obtain ⟨rfl, rfl⟩ := hz
    rw [mg_u_s]
    unfold sm_ab
    simp [ca_iv_s]
  · rw [mg_u_n _ _ _ _ hz]
    unfold sm_ab
    show (if k = 21 then _ else if k = 22 then _ else if k = 23 then _ else if k = 25 then _ else if k = 35 then _ else sm_of (ca_si g 3 0 u v) k (sm_tb g x)) = _
    rw [sm_of_n g 3 0 u k v (by decide)]
    split
    · exact ca_iv_n _ _ _ _ _ (by omega)
    split
    · exact ca_iv_n _ _ _ _ _ (by omega)
    split
    · exact ca_iv_n _ _ _ _ _ (by omega)
    split
    · exact ca_iv_n _ _ _ _ _ (by omega)
    split
    · exact ca_iv_n _ _ _ _ _ (by omega)
    rfl
theorem sm_ab_k (g : ca_S) {s n : Nat} (v : Int32) (hn : 1 ≤ n) (h24 : n ≤ 24) : ∀ k x, sm_ab (ca_si g 6 s n v) k x = mg_u (sm_ab g) 25 (24 * s + n - 1) v k x := by
  intro k x
  by_cases hz : k = 25 ∧ x = 24 * s + n - 1
  · obtain ⟨rfl, rfl⟩ := hz
    rw [mg_u_s]
    unfold sm_ab
    have e1 : (24 * s + n - 1) / 24 = s := by omega
    have e2 : (24 * s + n - 1) % 24 + 1 = n := by omega
    rw [e1, e2]
    simp [ca_iv_s]
  · rw [mg_u_n _ _ _ _ hz]
    unfold sm_ab
    show (if k = 21 then _ else if k = 22 then _ else if k = 23 then _ else if k = 25 then _ else if k = 35 then _ else sm_of (ca_si g 6 s n v) k (sm_tb g x)) = _
    rw [sm_of_n g 6 s n k v (by decide)]
    split
    · exact ca_iv_n _ _ _ _ _ (by omega)
    split
    · exact ca_iv_n _ _ _ _ _ (by omega)
    split
    · exact ca_iv_n _ _ _ _ _ (by omega)
    split
    · exact ca_iv_n _ _ _ _ _ (by omega)
    split
    · exact ca_iv_n _ _ _ _ _ (by omega)
    rfl
theorem sm_ab_0 (g : ca_S) (f : Nat) (v : Int32) : ∀ k x, sm_ab (ca_si g 0 0 f v) k x = sm_ab g k x := by
  intro k x
  unfold sm_ab
  show (if k = 21 then _ else if k = 22 then _ else if k = 23 then _ else if k = 25 then _ else if k = 35 then _ else sm_of (ca_si g 0 0 f v) k (sm_tb g x)) = _
  rw [sm_of_n g 0 0 f k v (by decide)]
  rw [ca_iv_n _ _ _ _ _ (by omega), ca_iv_n _ _ _ _ _ (by omega), ca_iv_n _ _ _ _ _ (by omega), ca_iv_n _ _ _ _ _ (by omega), ca_iv_n _ _ _ _ _ (by omega)]
theorem sm_ab_n (g : ca_S) (x : Nat) (l : List Nat) : sm_ab (ca_sn g x l) = sm_ab g := rfl
