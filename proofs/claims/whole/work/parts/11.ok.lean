/-! what holds of every state of the class; what a step of it keeps -/
def ca_ok (g : ca_S) : Prop :=
  (∀ s n j, ca_tb g s n = some j → j < ca_nm g) ∧ (∀ x j, j ∈ ca_ln g x → j < ca_nm g) ∧ (∀ x, (ca_ln g x).length ≤ 96) ∧ ∀ j, j < ca_nm g → ca_ms g j < 16 ∧ ¬ ca_iv g 10 j 1 < 0 ∧ (ca_iv g 10 j 1).toNatClampNeg < 5
def ca_to (g g' : ca_S) : Prop := ca_tb g' = ca_tb g ∧ ca_ms g' = ca_ms g ∧ ca_nm g' = ca_nm g ∧ (∀ j f, f = 0 ∨ f = 1 ∨ f = 3 → ca_iv g' 10 j f = ca_iv g 10 j f) ∧ ca_ok g'
theorem ca_to.rf {g : ca_S} (h : ca_ok g) : ca_to g g := ⟨rfl, rfl, rfl, fun _ _ _ => rfl, h⟩
theorem ca_to.tr {a b c : ca_S} (h : ca_to a b) (h' : ca_to b c) : ca_to a c := ⟨h'.1.trans h.1, h'.2.1.trans h.2.1, h'.2.2.1.trans h.2.2.1, fun j f hf => (h'.2.2.2.1 j f hf).trans (h.2.2.2.1 j f hf), h'.2.2.2.2⟩
theorem ca_to.ok {g g' : ca_S} (h : ca_to g g') : ca_ok g' := h.2.2.2.2
theorem ca_to.lt {g g' : ca_S} (h : ca_to g g') {j : Nat} (hj : j < ca_nm g) : j < ca_nm g' := by rw [h.2.2.1]; exact hj
theorem ca_iv_s (g : ca_S) (k i f : Nat) (v : Int32) : ca_iv (ca_si g k i f v) k i f = v := mr_u3_s _ _ _ _ _
theorem ca_iv_n (g : ca_S) (k i f : Nat) (v : Int32) {a b c : Nat} (h : ¬ (a = k ∧ b = i ∧ c = f)) : ca_iv (ca_si g k i f v) a b c = ca_iv g a b c := mr_u3_n _ _ _ _ _ h
theorem ca_to.si {g : ca_S} (h : ca_ok g) (k i f : Nat) (v : Int32) (hk : ¬ (k = 10 ∧ (f = 0 ∨ f = 1 ∨ f = 3))) : ca_to g (ca_si g k i f v) := by
  have key : ∀ j c, c = 0 ∨ c = 1 ∨ c = 3 → ca_iv (ca_si g k i f v) 10 j c = ca_iv g 10 j c := fun j c hc => ca_iv_n _ _ _ _ _ (fun z => hk ⟨z.1.symm, by rw [← z.2.2]; exact hc⟩)
  refine ⟨rfl, rfl, rfl, key, h.1, h.2.1, h.2.2.1, fun j hj => ?_⟩
  rw [key j 1 (Or.inr (Or.inl rfl))]
  exact h.2.2.2 j hj
theorem ca_ln_s (g : ca_S) (x : Nat) (l : List Nat) : ca_ln (ca_sn g x l) x = l := if_pos rfl
theorem ca_ln_n (g : ca_S) (x : Nat) (l : List Nat) {y : Nat} (h : y ≠ x) : ca_ln (ca_sn g x l) y = ca_ln g y := if_neg h
theorem ca_to.sn {g : ca_S} (h : ca_ok g) (x : Nat) (l : List Nat) (h1 : ∀ j ∈ l, j < ca_nm g) (h2 : l.length ≤ 96) : ca_to g (ca_sn g x l) := by
  refine ⟨rfl, rfl, rfl, fun _ _ _ => rfl, h.1, fun y j hj => ?_, fun y => ?_, h.2.2.2⟩
  · by_cases hy : y = x
    · subst hy
      rw [ca_ln_s] at hj
      exact h1 j hj
    · rw [ca_ln_n _ _ _ hy] at hj
      exact h.2.1 y j hj
  · by_cases hy : y = x
    · subst hy
      rw [ca_ln_s]
      exact h2
    · rw [ca_ln_n _ _ _ hy]
      exact h.2.2.1 y
theorem ca_to.app {g : ca_S} (h : ca_ok g) (x : Nat) {j : Nat} (hj : j < ca_nm g) : ca_to g (ca_app g x j) := by
  unfold ca_app
  split
  · next hlt =>
    refine ca_to.sn h x _ (fun i hi => ?_) ?_
    · rcases List.mem_append.mp hi with hi | hi
      · exact h.2.1 x i hi
      · rw [List.mem_singleton.mp hi]
        exact hj
    · rw [List.length_append, List.length_singleton]
      omega
  · exact ca_to.rf h
theorem ca_to.fail {g : ca_S} (h : ca_ok g) {j : Nat} (b : Bool) (hj : j < ca_nm g) : ca_to g (ca_fail g j b) :=
  have h1 := ca_to.si h 10 j 4 (if b then 5 else 4) (by omega)
  h1.tr (ca_to.app h1.ok _ (h1.lt hj))
theorem ca_to.act {g : ca_S} (h : ca_ok g) (j : Nat) : ca_to g (ca_act g j) := by
  unfold ca_act
  split
  · have h1 := ca_to.si h 7 (ca_ms g j) 0 1 (by omega)
    exact h1.tr (ca_to.si h1.ok _ _ _ _ (by omega))
  · split
    · exact ca_to.si h _ _ _ _ (by omega)
    · split
      · exact ca_to.si h _ _ _ _ (by omega)
      · split
        · exact ca_to.si h _ _ _ _ (by omega)
        · exact ca_to.si h _ _ _ _ (by omega)
theorem ca_to.perf {g : ca_S} (h : ca_ok g) {j : Nat} (hj : j < ca_nm g) : ca_to g (ca_perf g j) := by
  have h1 := ca_to.act h j
  have h2 := h1.tr (ca_to.si h1.ok 7 (ca_ms g j) 2 (ca_iv (ca_act g j) 7 (ca_ms g j) 2 + 1) (by omega))
  have h3 := h2.tr (ca_to.si h2.ok 10 j 4 1 (by omega))
  exact h3.tr (ca_to.app h3.ok 0 (h3.lt hj))
theorem ca_to.settle {g : ca_S} (h : ca_ok g) {j : Nat} (b : Bool) (hj : j < ca_nm g) : ca_to g (ca_settle g j b) := by
  unfold ca_settle
  split
  · have h1 := ca_to.si h 10 j 4 3 (by omega)
    have h2 := h1.tr (ca_to.si h1.ok 10 j 7 (ca_iv g 0 0 7) (by omega))
    exact h2.tr (ca_to.app h2.ok 2 (h2.lt hj))
  · split
    · have h1 := ca_to.si h 10 j 4 2 (by omega)
      exact h1.tr (ca_to.si h1.ok 10 j 5 _ (by omega))
    · split
      · have h1 := ca_to.si h 3 0 (ca_iv g 10 j 1).toNatClampNeg 0 (by omega)
        exact h1.tr (ca_to.fail h1.ok b (h1.lt hj))
      · exact ca_to.perf h hj
theorem ca_first_lt {g : ca_S} {u i : Nat} (h : ca_first g u = some i) : i < (ca_ln g 2).length := by
  unfold ca_first at h
  exact (List.findIdx?_eq_some_iff_findIdx_eq.mp h).1
theorem ca_getD {l : List Nat} {i : Nat} (h : i < l.length) : l.getD i 0 ∈ l := by
  rw [List.getD_eq_getElem?_getD, List.getElem?_eq_getElem h]
  exact List.getElem_mem h
theorem ca_to.take {g : ca_S} (h : ca_ok g) (x i : Nat) : ca_to g (ca_sn g x ((ca_ln g x).eraseIdx i)) :=
  ca_to.sn h x _ (fun j hj => h.2.1 x j (List.mem_of_mem_eraseIdx hj)) (Nat.le_trans (by rw [List.length_eraseIdx]; split <;> omega) (h.2.2.1 x))
theorem ca_to.wake (u : Nat) : ∀ (n : Nat) {g : ca_S}, ca_ok g → ca_to g (ca_wake u n g)
  | 0, g, h => ca_to.rf h
  | n + 1, g, h => by
    unfold ca_wake
    split
    · exact ca_to.rf h
    · next i hi =>
      have h1 := ca_to.take h 2 i
      have hj := h1.lt (h.2.1 2 _ (ca_getD (ca_first_lt hi)))
      have h2 := h1.tr (ca_to.settle h1.ok false hj)
      exact h2.tr (ca_to.wake u n h2.ok)
theorem ca_to.turn {g : ca_S} (h : ca_ok g) {j : Nat} (b : Bool) (hj : j < ca_nm g) : ca_to g (ca_turn g j b) := by
  unfold ca_turn
  have h1 := ca_to.settle h b hj
  simp only
  split
  · exact h1
  · exact h1.tr (ca_to.wake _ 12 h1.ok)
theorem ca_to.give (s : Nat) : ∀ (f n : Nat) {g : ca_S}, ca_ok g → ca_to g (ca_give s n f g)
  | 0, n, g, h => ca_to.rf h
  | f + 1, n, g, h => by
    unfold ca_give
    have h1 : ca_to g (match ca_tb g s n with | none => g | some j => if ca_iv g 10 j 4 = 0 then ca_turn g j false else g) := by
      split
      · exact ca_to.rf h
      · next j hj =>
        split
        · exact ca_to.turn h false (h.1 s n j hj)
        · exact ca_to.rf h
    exact h1.tr (ca_to.give s f (n + 1) h1.ok)
theorem ca_to.turns {g : ca_S} (h : ca_ok g) (s : Nat) : ca_to g (ca_turns g s) := ca_to.give s _ 1 h
theorem ca_to.come {g : ca_S} (h : ca_ok g) (s : Nat) {j : Nat} (hj : j < ca_nm g) : ca_to g (ca_come g s j) := by
  unfold ca_come
  have h1 := ca_to.si h 10 j 4 0 (by omega)
  have h2 := h1.tr (ca_to.si h1.ok 10 j 6 (ca_iv g 0 0 7) (by omega))
  simp only
  split
  · have h3 := h2.tr (ca_to.turn h2.ok false (h2.lt hj))
    exact h3.tr (ca_to.turns h3.ok s)
  · exact h2.tr (ca_to.turns h2.ok s)
theorem ca_to.retry : ∀ (n : Nat) {g : ca_S}, ca_ok g → ca_to g (ca_retry n g)
  | 0, g, h => ca_to.rf h
  | n + 1, g, h => by
    unfold ca_retry
    have h1 : ca_to g (match ca_ln g 3 with | [] => g | j :: r => ca_turn (ca_sn g 3 r) j true) := by
      split
      · exact ca_to.rf h
      · next j r hl =>
        have hj : j < ca_nm g := h.2.1 3 j (by rw [hl]; exact List.mem_cons_self)
        have h1 := ca_to.sn h 3 r (fun i hi => h.2.1 3 i (by rw [hl]; exact List.mem_cons_of_mem _ hi)) (by have := h.2.2.1 3; rw [hl, List.length_cons] at this; omega)
        exact h1.tr (ca_to.turn h1.ok true (h1.lt hj))
    exact h1.tr (ca_to.retry n h1.ok)
theorem ca_to.longs : ∀ (n : Nat) {g : ca_S}, ca_ok g → ca_to g (ca_longs n g)
  | 0, g, h => ca_to.rf h
  | n + 1, g, h => by
    unfold ca_longs
    split
    · exact ca_to.rf h
    · next j r hl =>
      split
      · exact ca_to.rf h
      · have hj : j < ca_nm g := h.2.1 2 j (by rw [hl]; exact List.mem_cons_self)
        have h1 := ca_to.sn h 2 r (fun i hi => h.2.1 2 i (by rw [hl]; exact List.mem_cons_of_mem _ hi)) (by have := h.2.2.1 2; rw [hl, List.length_cons] at this; omega)
        have h2 := h1.tr (ca_to.si h1.ok 10 j 4 5 (by omega))
        have h3 := h2.tr (ca_to.app h2.ok 1 (h2.lt hj))
        exact h3.tr (ca_to.longs n h3.ok)
theorem ca_to.tick {g : ca_S} (h : ca_ok g) (t : Int32) : ca_to g (ca_tick g t) := by
  unfold ca_tick
  have h1 := ca_to.si h 0 0 7 t (by omega)
  have h2 := h1.tr (ca_to.retry (ca_ln (ca_si g 0 0 7 t) 3).length h1.ok)
  exact h2.tr (ca_to.longs _ h2.ok)
theorem ca_to.lose (s : Nat) : ∀ (f n : Nat) {g : ca_S} (a : Nat), ca_ok g → ca_to g (ca_lose s n f g a).1
  | 0, n, g, a, h => ca_to.rf h
  | f + 1, n, g, a, h => by
    unfold ca_lose
    split
    · exact ca_to.lose s f (n + 1) a h
    · next j hj =>
      split
      · have h1 := ca_to.si h 10 j 4 6 (by omega)
        exact h1.tr (ca_to.lose s f (n + 1) (a + 1) h1.ok)
      · exact ca_to.lose s f (n + 1) a h
theorem ca_to.rep (s : Nat) : ∀ (f n : Nat) {g : ca_S} (a : Nat), ca_ok g → ca_to g (ca_rep s n f g a).1
  | 0, n, g, a, h => ca_to.rf h
  | f + 1, n, g, a, h => by
    unfold ca_rep
    split
    · exact ca_to.rep s f (n + 1) a h
    · next j hj =>
      split
      · have h1 := ca_to.come h s (h.1 s n j hj)
        exact h1.tr (ca_to.rep s f (n + 1) (a + 1) h1.ok)
      · exact ca_to.rep s f (n + 1) a h
theorem ca_ok.mk {g : ca_S} (h : ca_ok g) (s n : Nat) (nm fn : Int32) (u : Nat) (v : Int32) (hu : u < 16) (h1 : ¬ fn < 0) (h2 : fn.toNatClampNeg < 5) : ca_ok (ca_mk g s n nm fn u v) := by
  refine ⟨fun a b j hj => ?_, fun x j hj => Nat.lt_succ_of_lt (h.2.1 x j hj), h.2.2.1, fun j hj => ?_⟩
  · show j < ca_nm g + 1
    by_cases hab : a = s ∧ b = n
    · have : (some (ca_nm g) : Option Nat) = some j := (if_pos hab).symm.trans hj
      cases this
      exact Nat.lt_succ_self _
    · have := h.1 a b j ((if_neg hab).symm.trans hj)
      omega
  · by_cases hq : j = ca_nm g
    · subst hq
      have e1 : ca_ms (ca_mk g s n nm fn u v) (ca_nm g) = u := if_pos rfl
      have e2 : ca_iv (ca_mk g s n nm fn u v) 10 (ca_nm g) 1 = fn := by
        show (if (10 : Nat) = 10 ∧ ca_nm g = ca_nm g then _ else _) = fn
        rw [if_pos ⟨rfl, rfl⟩]
        rfl
      rw [e1, e2]
      exact ⟨hu, h1, h2⟩
    · have e1 : ca_ms (ca_mk g s n nm fn u v) j = ca_ms g j := if_neg hq
      have e2 : ca_iv (ca_mk g s n nm fn u v) 10 j 1 = ca_iv g 10 j 1 := if_neg (fun z => hq z.2)
      have hj' : j < ca_nm g + 1 := hj
      rw [e1, e2]
      exact h.2.2.2 j (by omega)
