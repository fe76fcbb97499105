section
/-! A world by kinds: the cell (k, i) stands at the address ad k i and holds C k i. mg_G: the machine at a pc, over any heap that holds the world. -/
abbrev mg_Ad : Type := Nat → Nat → Nat
abbrev mg_Ct : Type := Nat → Nat → Option va_E
def mg_u {α : Type} (f : Nat → Nat → α) (k i : Nat) (v : α) : Nat → Nat → α := fun a b => if a = k ∧ b = i then v else f a b
theorem mg_u_s {α : Type} (f : Nat → Nat → α) (k i : Nat) (v : α) : mg_u f k i v k i = v := by simp [mg_u]
theorem mg_u_n {α : Type} (f : Nat → Nat → α) (k i : Nat) (v : α) {a b : Nat} (h : ¬ (a = k ∧ b = i)) : mg_u f k i v a b = f a b := if_neg h
def mg_W (D : va_G) (cl : List vw_C) (Z : Nat × Cell) (A : Nat → Prop) (ad : mg_Ad) (C : mg_Ct) (H : Heap) : Prop :=
  (∀ (k i : Nat) (e : va_E), C k i = some e → va_at D cl (ad k i, e) H) ∧
  (∀ k i k' i' : Nat, C k i ≠ none → C k' i' ≠ none → ad k i = ad k' i' → k = k' ∧ i = i') ∧ (∀ k i : Nat, C k i ≠ none → A (ad k i)) ∧
  H[Z.1]? = some Z.2 ∧ ∀ k i : Nat, C k i ≠ none → ad k i ≠ Z.1
theorem mg_W.lt {D : va_G} {cl : List vw_C} {Z : Nat × Cell} {A : Nat → Prop} {ad : mg_Ad} {C : mg_Ct} {H : Heap} (h : mg_W D cl Z A ad C H) {k i : Nat} (hc : C k i ≠ none) : ad k i < H.size := by
  cases hq : C k i with
  | none => exact absurd hq hc
  | some e => exact (h.1 k i e hq).lt
theorem mg_W.zlt {D : va_G} {cl : List vw_C} {Z : Nat × Cell} {A : Nat → Prop} {ad : mg_Ad} {C : mg_Ct} {H : Heap} (h : mg_W D cl Z A ad C H) : Z.1 < H.size := (Array.getElem?_eq_some_iff.mp h.2.2.2.1).1
theorem mg_W.mono {D : va_G} {cl : List vw_C} {Z : Nat × Cell} {A B : Nat → Prop} {ad : mg_Ad} {C : mg_Ct} {H : Heap} (h : mg_W D cl Z A ad C H) (hAB : ∀ q, A q → B q) : mg_W D cl Z B ad C H :=
  ⟨h.1, h.2.1, fun k i hc => hAB _ (h.2.2.1 k i hc), h.2.2.2⟩
theorem mg_W.put {D : va_G} {cl : List vw_C} {Z : Nat × Cell} {A : Nat → Prop} {ad : mg_Ad} {C : mg_Ct} {H H1 : Heap} {k i : Nat} {e : va_E} (h : mg_W D cl Z A ad C H) (hc : C k i ≠ none) (he : va_at D cl (ad k i, e) H1) (oq : ∀ q : Nat, q ≠ ad k i → H1[q]? = H[q]?) : mg_W D cl Z A ad (mg_u C k i (some e)) H1 := by
  have key : ∀ a b : Nat, mg_u C k i (some e) a b ≠ none → C a b ≠ none := by
    intro a b hn
    by_cases hq : a = k ∧ b = i
    · obtain ⟨rfl, rfl⟩ := hq
      exact hc
    · rwa [mg_u_n _ _ _ _ hq] at hn
  refine ⟨fun a b e' he' => ?_, fun a b a' b' h1 h2 => h.2.1 a b a' b' (key a b h1) (key a' b' h2), fun a b h1 => h.2.2.1 a b (key a b h1), ?_, fun a b h1 => h.2.2.2.2 a b (key a b h1)⟩
  · by_cases hq : a = k ∧ b = i
    · obtain ⟨rfl, rfl⟩ := hq
      rw [mg_u_s] at he'
      cases he'
      exact he
    · rw [mg_u_n _ _ _ _ hq] at he'
      exact (h.1 a b e' he').kept (oq _ (fun z => hq (h.2.1 a b k i (by rw [he']; exact fun z => by cases z) hc z)))
  · rw [oq _ (fun z => h.2.2.2.2 k i hc z.symm)]
    exact h.2.2.2.1
theorem mg_W.new {D : va_G} {cl : List vw_C} {Z : Nat × Cell} {A : Nat → Prop} {ad : mg_Ad} {C : mg_Ct} {H H1 : Heap} {k i q0 : Nat} {e : va_E} (h : mg_W D cl Z A ad C H) (hc : C k i = none) (hq0 : q0 = H.size) (hA : A q0) (he : va_at D cl (q0, e) H1) (oq : ∀ q : Nat, q < H.size → H1[q]? = H[q]?) : mg_W D cl Z A (mg_u ad k i q0) (mg_u C k i (some e)) H1 := by
  have key : ∀ a b : Nat, mg_u C k i (some e) a b ≠ none → (a = k ∧ b = i) ∨ (¬ (a = k ∧ b = i) ∧ C a b ≠ none) := by
    intro a b hn
    by_cases hq : a = k ∧ b = i
    · exact Or.inl hq
    · rw [mg_u_n _ _ _ _ hq] at hn
      exact Or.inr ⟨hq, hn⟩
  refine ⟨fun a b e' he' => ?_, fun a b a' b' h1 h2 hz => ?_, fun a b h1 => ?_, ?_, fun a b h1 => ?_⟩
  · by_cases hq : a = k ∧ b = i
    · obtain ⟨rfl, rfl⟩ := hq
      rw [mg_u_s] at he' ⊢
      cases he'
      exact he
    · rw [mg_u_n _ _ _ _ hq] at he' ⊢
      exact (h.1 a b e' he').kept (oq _ (h.1 a b e' he').lt)
  · rcases key a b h1 with g1 | ⟨g1, c1⟩ <;> rcases key a' b' h2 with g2 | ⟨g2, c2⟩
    · exact ⟨g1.1.trans g2.1.symm, g1.2.trans g2.2.symm⟩
    · obtain ⟨rfl, rfl⟩ := g1
      rw [mg_u_s, mg_u_n _ _ _ _ g2] at hz
      have := h.lt c2
      omega
    · obtain ⟨rfl, rfl⟩ := g2
      rw [mg_u_s, mg_u_n _ _ _ _ g1] at hz
      have := h.lt c1
      omega
    · rw [mg_u_n _ _ _ _ g1, mg_u_n _ _ _ _ g2] at hz
      exact h.2.1 a b a' b' c1 c2 hz
  · rcases key a b h1 with ⟨rfl, rfl⟩ | ⟨g1, c1⟩
    · rw [mg_u_s]; exact hA
    · rw [mg_u_n _ _ _ _ g1]; exact h.2.2.1 a b c1
  · rw [oq _ h.zlt]
    exact h.2.2.2.1
  · have hz := h.zlt
    rcases key a b h1 with ⟨rfl, rfl⟩ | ⟨g1, c1⟩
    · rw [mg_u_s]; omega
    · rw [mg_u_n _ _ _ _ g1]; exact h.2.2.2.2 a b c1
/-- a world that is not touched -/
theorem mg_W.kept {D : va_G} {cl : List vw_C} {Z : Nat × Cell} {A : Nat → Prop} {ad : mg_Ad} {C : mg_Ct} {H H1 : Heap} (h : mg_W D cl Z A ad C H) (oq : ∀ q : Nat, q < H.size → H1[q]? = H[q]?) : mg_W D cl Z A ad C H1 :=
  ⟨fun k i e he => (h.1 k i e he).kept (oq _ (h.1 k i e he).lt), h.2.1, h.2.2.1, by rw [oq _ h.zlt]; exact h.2.2.2.1, h.2.2.2.2⟩
/-- two worlds that say the same -/
theorem mg_W.cg {D : va_G} {cl : List vw_C} {Z : Nat × Cell} {A : Nat → Prop} {ad ad' : mg_Ad} {C C' : mg_Ct} {H : Heap} (h : mg_W D cl Z A ad C H) (hc : ∀ k i e, C' k i = some e → ad' k i = ad k i ∧ C k i = some e) : mg_W D cl Z A ad' C' H := by
  have key : ∀ k i, C' k i ≠ none → ad' k i = ad k i ∧ C k i ≠ none := by
    intro k i hn
    cases hq : C' k i with
    | none => exact absurd hq hn
    | some e =>
      obtain ⟨h1, h2⟩ := hc k i e hq
      exact ⟨h1, by rw [h2]; exact fun z => by cases z⟩
  refine ⟨fun k i e he => ?_, fun k i k' i' h1 h2 hz => ?_, fun k i h1 => ?_, h.2.2.2.1, fun k i h1 => ?_⟩
  · obtain ⟨h1, h2⟩ := hc k i e he
    rw [h1]
    exact h.1 k i e h2
  · rw [(key k i h1).1, (key k' i' h2).1] at hz
    exact h.2.1 k i k' i' (key k i h1).2 (key k' i' h2).2 hz
  · rw [(key k i h1).1]
    exact h.2.2.1 k i (key k i h1).2
  · rw [(key k i h1).1]
    exact h.2.2.2.2 k i (key k i h1).2
/-- the words B hold now, and wherever the tables are warmer and the cell Z stands as it is -/
def mg_Zk (B : List Cond) (Z : Nat × Cell) (s : State) : Prop := ∀ U : State, s.WarmedH U.vm → U.heap[Z.1]? = some Z.2 → ∀ w ∈ B, ∀ a : Array Value, w.before a U = true
theorem mg_Zk.moved {B : List Cond} {Z : Nat × Cell} {s U : State} (h : mg_Zk B Z s) (hW : s.WarmedH U.vm) : mg_Zk B Z U := fun V hV hz => h V (State.WarmedH.trans hW hV) hz
/-- locals: place i holds L i -/
def mg_L (ls : Array Slot) (nL : Nat) (L : List (Option Value)) : Prop := ls.size = nL ∧ lv_wf ls ∧ (∀ (i : Nat) (v : Value), L[i]? = some (some v) → ls[i]? = some (.val v)) ∧ ∀ (i : Nat) (v : Value), L[i]? = some (some v) → v.category = 1
def mg_st : List (Option Value) → Nat → Value → List (Option Value)
  | [], 0, v => [some v]
  | [], n + 1, v => none :: mg_st [] n v
  | _ :: L, 0, v => some v :: L
  | a :: L, n + 1, v => a :: mg_st L n v
theorem mg_st_s : ∀ (L : List (Option Value)) (i : Nat) (v : Value), (mg_st L i v)[i]? = some (some v)
  | [], 0, v => rfl
  | [], n + 1, v => by rw [mg_st, List.getElem?_cons_succ]; exact mg_st_s [] n v
  | _ :: L, 0, v => rfl
  | a :: L, n + 1, v => by rw [mg_st, List.getElem?_cons_succ]; exact mg_st_s L n v
theorem mg_st_n : ∀ (L : List (Option Value)) (i : Nat) (v : Value) (j : Nat) (w : Value), j ≠ i → (mg_st L i v)[j]? = some (some w) → L[j]? = some (some w)
  | [], 0, v, j, w, h, hw => by
    cases j with
    | zero => exact absurd rfl h
    | succ j => simp [mg_st] at hw
  | [], n + 1, v, j, w, h, hw => by
    cases j with
    | zero => simp [mg_st] at hw
    | succ j =>
      rw [mg_st, List.getElem?_cons_succ] at hw
      have := mg_st_n [] n v j w (fun z => h (by rw [z])) hw
      simp at this
  | a :: L, 0, v, j, w, h, hw => by
    cases j with
    | zero => exact absurd rfl h
    | succ j =>
      rw [mg_st, List.getElem?_cons_succ] at hw
      rw [List.getElem?_cons_succ]
      exact hw
  | a :: L, n + 1, v, j, w, h, hw => by
    cases j with
    | zero => simpa [mg_st] using hw
    | succ j =>
      rw [mg_st, List.getElem?_cons_succ] at hw
      rw [List.getElem?_cons_succ]
      exact mg_st_n L n v j w (fun z => h (by rw [z])) hw
def mg_pr (L : List (Option Value)) : List (Nat × Value) := (List.range L.length).filterMap fun j => match L[j]? with
  | some (some v) => some (j, v)
  | _ => none
theorem mg_pr_in {L : List (Option Value)} {i : Nat} {v : Value} (h : L[i]? = some (some v)) : (i, v) ∈ mg_pr L := by
  refine List.mem_filterMap.mpr ⟨i, List.mem_range.mpr (List.getElem?_eq_some_iff.mp h).1, ?_⟩
  rw [h]
theorem mg_pr_of {L : List (Option Value)} {q : Nat × Value} (h : q ∈ mg_pr L) : L[q.1]? = some (some q.2) := by
  obtain ⟨j, -, hj⟩ := List.mem_filterMap.mp h
  split at hj
  · rename_i v hv
    cases hj
    exact hv
  · cases hj
theorem mg_L.has {ls : Array Slot} {nL : Nat} {L : List (Option Value)} (h : mg_L ls nL L) : lv_has ls nL (mg_pr L) := ⟨h.1, h.2.1, fun q hq => h.2.2.1 q.1 q.2 (mg_pr_of hq)⟩
theorem mg_L.st {ls ls' : Array Slot} {nL : Nat} {L : List (Option Value)} {i : Nat} {v : Value} (h : mg_L ls nL L) (hv : v.category = 1) (h' : lv_has ls' nL ((i, v) :: (mg_pr L).filter (fun q => !(q.1 == i) && !(q.1 + 1 == i && q.2.category == 2)))) : mg_L ls' nL (mg_st L i v) := by
  refine ⟨h'.1, h'.2.1, fun j w hj => ?_, fun j w hj => ?_⟩
  · by_cases hji : j = i
    · subst hji
      rw [mg_st_s] at hj
      cases hj
      exact h'.2.2 (j, v) List.mem_cons_self
    · have h1 := mg_st_n L i v j w hji hj
      have h2 := h.2.2.2 j w h1
      exact h'.2.2 (j, w) (List.mem_cons_of_mem _ (List.mem_filter.mpr ⟨mg_pr_in h1, by simp [hji, h2]⟩))
  · by_cases hji : j = i
    · subst hji
      rw [mg_st_s] at hj
      cases hj
      exact hv
    · exact h.2.2.2 j w (mg_st_n L i v j w hji hj)
theorem mg_L.weak {ls : Array Slot} {nL : Nat} {L L' : List (Option Value)} (h : mg_L ls nL L) (hs : ∀ (i : Nat) (v : Value), L'[i]? = some (some v) → L[i]? = some (some v)) : mg_L ls nL L' := ⟨h.1, h.2.1, fun i v hv => h.2.2.1 i v (hs i v hv), fun i v hv => h.2.2.2 i v (hs i v hv)⟩
def mg_G (p : Program) (l : Launch) (e : Env) (R : Room) (s : State) (m : MethodId) (args : Array Value) (below : List Frame) (meth : Method) (c : Code) (D : va_G) (cl : List vw_C) (Z : Nat × Cell) (A : Nat → Prop) (H0 : Heap) (nL : Nat) (Q : State → Prop) (ad : mg_Ad) (C : mg_Ct) (L : List (Option Value)) (cells slots : Nat) (st : List Value) (pc : Nat) : Prop :=
  ∀ (H : Heap) (locs : List Loc) (ls : Array Slot), mg_W D cl Z A ad C H → va_S A H0 H locs → mg_L ls nL L → W p l e R s m args below meth c H locs cells slots Q (F0 m pc ls st)
def mg_K (p : Program) (m : MethodId) (c : Code) (cc : ByteArray) (nL : Nat) (s : State) (args : Array Value) (Ts : List Cond) (own : String) (D : va_G) (cl : List vw_C) (Z : Nat × Cell) (tys : List (ClassId × FieldType)) : Prop := CallFix p m c cc nL s args Ts own ∧ va_K D cl tys s ∧ mg_Zk Ts Z s
section MG1
variable {p : Program} {l : Launch} {e : Env} {R : Room} {s : State} {m : MethodId} {args : Array Value} {below : List Frame} {meth : Method} {c : Code} {Q : State → Prop}
variable {D : va_G} {cl : List vw_C} {Z : Nat × Cell} {tys : List (ClassId × FieldType)} {A : Nat → Prop} {H0 : Heap} {nL : Nat} {cc : ByteArray} {Ts : List Cond} {own : String}
variable {ad : mg_Ad} {C : mg_Ct} {L : List (Option Value)} {cells slots pc : Nat} {st : List Value}
theorem mg_iconst (K : mg_K p m c cc nL s args Ts own D cl Z tys) {n : Int} {v : Int32} (hd : decode cc pc = .ok (.iconst n, 1)) (hv : Int32.ofInt n = v) (k : mg_G p l e R s m args below meth c D cl Z A H0 nL Q ad C L cells slots (.int v :: st) (pc + 1)) : mg_G p l e R s m args below meth c D cl Z A H0 nL Q ad C L cells slots st pc :=
  fun H locs ls hW hS hL => lv_iconst K.1.1 K.1.2.1 hd hv (k H locs ls hW hS hL)
theorem mg_bipush (K : mg_K p m c cc nL s args Ts own D cl Z tys) {n : Int} {v : Int32} (hd : decode cc pc = .ok (.bipush n, 2)) (hv : (Int8.ofInt n).toInt32 = v) (k : mg_G p l e R s m args below meth c D cl Z A H0 nL Q ad C L cells slots (.int v :: st) (pc + 2)) : mg_G p l e R s m args below meth c D cl Z A H0 nL Q ad C L cells slots st pc :=
  fun H locs ls hW hS hL => lv_bipush K.1.1 K.1.2.1 hd hv (k H locs ls hW hS hL)
theorem mg_sipush (K : mg_K p m c cc nL s args Ts own D cl Z tys) {n : Int} {v : Int32} (hd : decode cc pc = .ok (.sipush n, 3)) (hv : (Int16.ofInt n).toInt32 = v) (k : mg_G p l e R s m args below meth c D cl Z A H0 nL Q ad C L cells slots (.int v :: st) (pc + 3)) : mg_G p l e R s m args below meth c D cl Z A H0 nL Q ad C L cells slots st pc :=
  fun H locs ls hW hS hL => lv_sipush K.1.1 K.1.2.1 hd hv (k H locs ls hW hS hL)
theorem mg_ldc (K : mg_K p m c cc nL s args Ts own D cl Z tys) {index : Nat} {v : Int32} (hd : decode cc pc = .ok (.ldc index, 2)) (hw : Jvm.Cond.constant own index v ∈ Ts) (k : mg_G p l e R s m args below meth c D cl Z A H0 nL Q ad C L cells slots (.int v :: st) (pc + 2)) : mg_G p l e R s m args below meth c D cl Z A H0 nL Q ad C L cells slots st pc :=
  fun H locs ls hW hS hL => lv_ldc K.1.1 K.1.2.1 K.1.2.2.2.1 (K.1.2.2.2.2 _ hw) hd (k H locs ls hW hS hL)
theorem mg_iload_n (K : mg_K p m c cc nL s args Ts own D cl Z tys) {j : Fin 4} {x : Int32} (hd : decode cc pc = .ok (.iload_n j, 1)) (hl : L[(j : Nat)]? = some (some (.int x))) (k : mg_G p l e R s m args below meth c D cl Z A H0 nL Q ad C L cells slots (.int x :: st) (pc + 1)) : mg_G p l e R s m args below meth c D cl Z A H0 nL Q ad C L cells slots st pc :=
  fun H locs ls hW hS hL => lv_iload_n K.1.1 K.1.2.1 hd rfl (hL.2.2.1 _ _ hl) (k H locs ls hW hS hL)
theorem mg_iload (K : mg_K p m c cc nL s args Ts own D cl Z tys) {j : Nat} {x : Int32} (hd : decode cc pc = .ok (.iload j, 2)) (hl : L[j]? = some (some (.int x))) (k : mg_G p l e R s m args below meth c D cl Z A H0 nL Q ad C L cells slots (.int x :: st) (pc + 2)) : mg_G p l e R s m args below meth c D cl Z A H0 nL Q ad C L cells slots st pc :=
  fun H locs ls hW hS hL => lv_iload K.1.1 K.1.2.1 hd (hL.2.2.1 _ _ hl) (k H locs ls hW hS hL)
theorem mg_aload_n (K : mg_K p m c cc nL s args Ts own D cl Z tys) {j : Fin 4} {r : Option Nat} (hd : decode cc pc = .ok (.aload_n j, 1)) (hl : L[(j : Nat)]? = some (some (va_rf r))) (k : mg_G p l e R s m args below meth c D cl Z A H0 nL Q ad C L cells slots (va_rf r :: st) (pc + 1)) : mg_G p l e R s m args below meth c D cl Z A H0 nL Q ad C L cells slots st pc := by
  intro H locs ls hW hS hL
  cases r with
  | none => exact lv_aload_nN K.1.1 K.1.2.1 hd rfl (hL.2.2.1 _ _ hl) (k H locs ls hW hS hL)
  | some x => exact lv_aload_n K.1.1 K.1.2.1 hd rfl (hL.2.2.1 _ _ hl) (k H locs ls hW hS hL)
theorem mg_aload (K : mg_K p m c cc nL s args Ts own D cl Z tys) {j : Nat} {r : Option Nat} (hd : decode cc pc = .ok (.aload j, 2)) (hl : L[j]? = some (some (va_rf r))) (k : mg_G p l e R s m args below meth c D cl Z A H0 nL Q ad C L cells slots (va_rf r :: st) (pc + 2)) : mg_G p l e R s m args below meth c D cl Z A H0 nL Q ad C L cells slots st pc := by
  intro H locs ls hW hS hL
  cases r with
  | none => exact lv_aloadN K.1.1 K.1.2.1 hd (hL.2.2.1 _ _ hl) (k H locs ls hW hS hL)
  | some x => exact lv_aload K.1.1 K.1.2.1 hd (hL.2.2.1 _ _ hl) (k H locs ls hW hS hL)
theorem mg_istore_n (K : mg_K p m c cc nL s args Ts own D cl Z tys) {j : Fin 4} {x : Int32} (hd : decode cc pc = .ok (.istore_n j, 1)) (hi : (j : Nat) < nL) (k : mg_G p l e R s m args below meth c D cl Z A H0 nL Q ad C (mg_st L (j : Nat) (.int x)) cells slots st (pc + 1)) : mg_G p l e R s m args below meth c D cl Z A H0 nL Q ad C L cells slots (.int x :: st) pc :=
  fun H locs ls hW hS hL => lv_istore_n K.1.1 K.1.2.1 hd rfl hL.has hi rfl (fun ls' h' => k H locs ls' hW hS (hL.st rfl h'))
theorem mg_istore (K : mg_K p m c cc nL s args Ts own D cl Z tys) {j : Nat} {x : Int32} (hd : decode cc pc = .ok (.istore j, 2)) (hi : j < nL) (k : mg_G p l e R s m args below meth c D cl Z A H0 nL Q ad C (mg_st L j (.int x)) cells slots st (pc + 2)) : mg_G p l e R s m args below meth c D cl Z A H0 nL Q ad C L cells slots (.int x :: st) pc :=
  fun H locs ls hW hS hL => lv_istore K.1.1 K.1.2.1 hd hL.has hi rfl (fun ls' h' => k H locs ls' hW hS (hL.st rfl h'))
theorem mg_astore_n (K : mg_K p m c cc nL s args Ts own D cl Z tys) {j : Fin 4} {r : Option Nat} (hd : decode cc pc = .ok (.astore_n j, 1)) (hi : (j : Nat) < nL) (k : mg_G p l e R s m args below meth c D cl Z A H0 nL Q ad C (mg_st L (j : Nat) (va_rf r)) cells slots st (pc + 1)) : mg_G p l e R s m args below meth c D cl Z A H0 nL Q ad C L cells slots (va_rf r :: st) pc := by
  intro H locs ls hW hS hL
  cases r with
  | none => exact lv_astore_nN K.1.1 K.1.2.1 hd rfl hL.has hi rfl (fun ls' h' => k H locs ls' hW hS (hL.st rfl h'))
  | some x => exact lv_astore_n K.1.1 K.1.2.1 hd rfl hL.has hi rfl (fun ls' h' => k H locs ls' hW hS (hL.st rfl h'))
theorem mg_astore (K : mg_K p m c cc nL s args Ts own D cl Z tys) {j : Nat} {r : Option Nat} (hd : decode cc pc = .ok (.astore j, 2)) (hi : j < nL) (k : mg_G p l e R s m args below meth c D cl Z A H0 nL Q ad C (mg_st L j (va_rf r)) cells slots st (pc + 2)) : mg_G p l e R s m args below meth c D cl Z A H0 nL Q ad C L cells slots (va_rf r :: st) pc := by
  intro H locs ls hW hS hL
  cases r with
  | none => exact lv_astoreN K.1.1 K.1.2.1 hd hL.has hi rfl (fun ls' h' => k H locs ls' hW hS (hL.st rfl h'))
  | some x => exact lv_astore K.1.1 K.1.2.1 hd hL.has hi rfl (fun ls' h' => k H locs ls' hW hS (hL.st rfl h'))
theorem mg_iinc (K : mg_K p m c cc nL s args Ts own D cl Z tys) {j : Nat} {n : Int} {x v : Int32} (hd : decode cc pc = .ok (.iinc j n, 3)) (hl : L[j]? = some (some (.int x))) (hv : x + Int32.ofInt n = v) (hi : j < nL) (k : mg_G p l e R s m args below meth c D cl Z A H0 nL Q ad C (mg_st L j (.int v)) cells slots st (pc + 3)) : mg_G p l e R s m args below meth c D cl Z A H0 nL Q ad C L cells slots st pc := by
  intro H locs ls hW hS hL
  obtain ⟨q, hq⟩ := List.getElem?_of_mem (mg_pr_in hl)
  exact lv_iinc K.1.1 K.1.2.1 hd hL.has hq hv hi rfl (fun ls' h' => k H locs ls' hW hS (hL.st rfl h'))
theorem mg_iadd (K : mg_K p m c cc nL s args Ts own D cl Z tys) {x y : Int32} (hd : decode cc pc = .ok (.iadd, 1)) (k : mg_G p l e R s m args below meth c D cl Z A H0 nL Q ad C L cells slots (.int (x + y) :: st) (pc + 1)) : mg_G p l e R s m args below meth c D cl Z A H0 nL Q ad C L cells slots (.int y :: .int x :: st) pc :=
  fun H locs ls hW hS hL => lv_iadd K.1.1 K.1.2.1 hd (k H locs ls hW hS hL)
theorem mg_isub (K : mg_K p m c cc nL s args Ts own D cl Z tys) {x y : Int32} (hd : decode cc pc = .ok (.isub, 1)) (k : mg_G p l e R s m args below meth c D cl Z A H0 nL Q ad C L cells slots (.int (x - y) :: st) (pc + 1)) : mg_G p l e R s m args below meth c D cl Z A H0 nL Q ad C L cells slots (.int y :: .int x :: st) pc :=
  fun H locs ls hW hS hL => lv_isub K.1.1 K.1.2.1 hd (k H locs ls hW hS hL)
theorem mg_imul (K : mg_K p m c cc nL s args Ts own D cl Z tys) {x y : Int32} (hd : decode cc pc = .ok (.imul, 1)) (k : mg_G p l e R s m args below meth c D cl Z A H0 nL Q ad C L cells slots (.int (x * y) :: st) (pc + 1)) : mg_G p l e R s m args below meth c D cl Z A H0 nL Q ad C L cells slots (.int y :: .int x :: st) pc :=
  fun H locs ls hW hS hL => lv_imul K.1.1 K.1.2.1 hd (k H locs ls hW hS hL)
theorem mg_iand (K : mg_K p m c cc nL s args Ts own D cl Z tys) {x y : Int32} (hd : decode cc pc = .ok (.iand, 1)) (k : mg_G p l e R s m args below meth c D cl Z A H0 nL Q ad C L cells slots (.int (x &&& y) :: st) (pc + 1)) : mg_G p l e R s m args below meth c D cl Z A H0 nL Q ad C L cells slots (.int y :: .int x :: st) pc :=
  fun H locs ls hW hS hL => lv_iand K.1.1 K.1.2.1 hd (k H locs ls hW hS hL)
theorem mg_ineg (K : mg_K p m c cc nL s args Ts own D cl Z tys) {x : Int32} (hd : decode cc pc = .ok (.ineg, 1)) (k : mg_G p l e R s m args below meth c D cl Z A H0 nL Q ad C L cells slots (.int (-x) :: st) (pc + 1)) : mg_G p l e R s m args below meth c D cl Z A H0 nL Q ad C L cells slots (.int x :: st) pc :=
  fun H locs ls hW hS hL => lv_ineg K.1.1 K.1.2.1 hd (k H locs ls hW hS hL)
theorem mg_i2l (K : mg_K p m c cc nL s args Ts own D cl Z tys) {x : Int32} (hd : decode cc pc = .ok (.i2l, 1)) (k : mg_G p l e R s m args below meth c D cl Z A H0 nL Q ad C L cells slots (.long x.toInt64 :: st) (pc + 1)) : mg_G p l e R s m args below meth c D cl Z A H0 nL Q ad C L cells slots (.int x :: st) pc :=
  fun H locs ls hW hS hL => lv_i2l K.1.1 K.1.2.1 hd rfl (k H locs ls hW hS hL)
theorem mg_dup (K : mg_K p m c cc nL s args Ts own D cl Z tys) {v : Value} (hd : decode cc pc = .ok (.dup, 1)) (hv : v.category = 1) (k : mg_G p l e R s m args below meth c D cl Z A H0 nL Q ad C L cells slots (v :: v :: st) (pc + 1)) : mg_G p l e R s m args below meth c D cl Z A H0 nL Q ad C L cells slots (v :: st) pc :=
  fun H locs ls hW hS hL => lv_dup K.1.1 K.1.2.1 hd hv (k H locs ls hW hS hL)
theorem mg_pop (K : mg_K p m c cc nL s args Ts own D cl Z tys) {v : Value} (hd : decode cc pc = .ok (.pop, 1)) (hv : v.category = 1) (k : mg_G p l e R s m args below meth c D cl Z A H0 nL Q ad C L cells slots st (pc + 1)) : mg_G p l e R s m args below meth c D cl Z A H0 nL Q ad C L cells slots (v :: st) pc :=
  fun H locs ls hW hS hL => lv_pop K.1.1 K.1.2.1 hd hv (k H locs ls hW hS hL)
theorem mg_null (K : mg_K p m c cc nL s args Ts own D cl Z tys) (hd : decode cc pc = .ok (.aconst_null, 1)) (k : mg_G p l e R s m args below meth c D cl Z A H0 nL Q ad C L cells slots (va_rf none :: st) (pc + 1)) : mg_G p l e R s m args below meth c D cl Z A H0 nL Q ad C L cells slots st pc :=
  fun H locs ls hW hS hL => lv_null K.1.1 K.1.2.1 hd (k H locs ls hW hS hL)
theorem mg_goto (K : mg_K p m c cc nL s args Ts own D cl Z tys) {off : Int} (tgt : Nat) (hd : decode cc pc = .ok (.goto off, 3)) (ht : (pc : Int) + off = (tgt : Int)) (k : mg_G p l e R s m args below meth c D cl Z A H0 nL Q ad C L cells slots st tgt) : mg_G p l e R s m args below meth c D cl Z A H0 nL Q ad C L cells slots st pc :=
  fun H locs ls hW hS hL => lv_goto K.1.1 K.1.2.1 hd ht (k H locs ls hW hS hL)
theorem mg_if_eq (K : mg_K p m c cc nL s args Ts own D cl Z tys) {x : Int32} {off : Int} (tgt : Nat) (hd : decode cc pc = .ok (.ifCond .eq off, 3)) (ht : (pc : Int) + off = (tgt : Int)) (kt : x = 0 → mg_G p l e R s m args below meth c D cl Z A H0 nL Q ad C L cells slots st tgt) (kf : ¬ x = 0 → mg_G p l e R s m args below meth c D cl Z A H0 nL Q ad C L cells slots st (pc + 3)) : mg_G p l e R s m args below meth c D cl Z A H0 nL Q ad C L cells slots (.int x :: st) pc :=
  fun H locs ls hW hS hL => lv_if_eq K.1.1 K.1.2.1 hd ht (fun h => kt h H locs ls hW hS hL) (fun h => kf h H locs ls hW hS hL)
theorem mg_if_ne (K : mg_K p m c cc nL s args Ts own D cl Z tys) {x : Int32} {off : Int} (tgt : Nat) (hd : decode cc pc = .ok (.ifCond .ne off, 3)) (ht : (pc : Int) + off = (tgt : Int)) (kt : ¬ x = 0 → mg_G p l e R s m args below meth c D cl Z A H0 nL Q ad C L cells slots st tgt) (kf : x = 0 → mg_G p l e R s m args below meth c D cl Z A H0 nL Q ad C L cells slots st (pc + 3)) : mg_G p l e R s m args below meth c D cl Z A H0 nL Q ad C L cells slots (.int x :: st) pc :=
  fun H locs ls hW hS hL => lv_if_ne K.1.1 K.1.2.1 hd ht (fun h => kt h H locs ls hW hS hL) (fun h => kf h H locs ls hW hS hL)
theorem mg_if_lt (K : mg_K p m c cc nL s args Ts own D cl Z tys) {x : Int32} {off : Int} (tgt : Nat) (hd : decode cc pc = .ok (.ifCond .lt off, 3)) (ht : (pc : Int) + off = (tgt : Int)) (kt : x < 0 → mg_G p l e R s m args below meth c D cl Z A H0 nL Q ad C L cells slots st tgt) (kf : ¬ x < 0 → mg_G p l e R s m args below meth c D cl Z A H0 nL Q ad C L cells slots st (pc + 3)) : mg_G p l e R s m args below meth c D cl Z A H0 nL Q ad C L cells slots (.int x :: st) pc :=
  fun H locs ls hW hS hL => lv_if_lt K.1.1 K.1.2.1 hd ht (fun h => kt h H locs ls hW hS hL) (fun h => kf h H locs ls hW hS hL)
theorem mg_if_ge (K : mg_K p m c cc nL s args Ts own D cl Z tys) {x : Int32} {off : Int} (tgt : Nat) (hd : decode cc pc = .ok (.ifCond .ge off, 3)) (ht : (pc : Int) + off = (tgt : Int)) (kt : 0 ≤ x → mg_G p l e R s m args below meth c D cl Z A H0 nL Q ad C L cells slots st tgt) (kf : ¬ 0 ≤ x → mg_G p l e R s m args below meth c D cl Z A H0 nL Q ad C L cells slots st (pc + 3)) : mg_G p l e R s m args below meth c D cl Z A H0 nL Q ad C L cells slots (.int x :: st) pc :=
  fun H locs ls hW hS hL => lv_if_ge K.1.1 K.1.2.1 hd ht (fun h => kt h H locs ls hW hS hL) (fun h => kf h H locs ls hW hS hL)
theorem mg_if_gt (K : mg_K p m c cc nL s args Ts own D cl Z tys) {x : Int32} {off : Int} (tgt : Nat) (hd : decode cc pc = .ok (.ifCond .gt off, 3)) (ht : (pc : Int) + off = (tgt : Int)) (kt : 0 < x → mg_G p l e R s m args below meth c D cl Z A H0 nL Q ad C L cells slots st tgt) (kf : ¬ 0 < x → mg_G p l e R s m args below meth c D cl Z A H0 nL Q ad C L cells slots st (pc + 3)) : mg_G p l e R s m args below meth c D cl Z A H0 nL Q ad C L cells slots (.int x :: st) pc :=
  fun H locs ls hW hS hL => lv_if_gt K.1.1 K.1.2.1 hd ht (fun h => kt h H locs ls hW hS hL) (fun h => kf h H locs ls hW hS hL)
theorem mg_if_le (K : mg_K p m c cc nL s args Ts own D cl Z tys) {x : Int32} {off : Int} (tgt : Nat) (hd : decode cc pc = .ok (.ifCond .le off, 3)) (ht : (pc : Int) + off = (tgt : Int)) (kt : x ≤ 0 → mg_G p l e R s m args below meth c D cl Z A H0 nL Q ad C L cells slots st tgt) (kf : ¬ x ≤ 0 → mg_G p l e R s m args below meth c D cl Z A H0 nL Q ad C L cells slots st (pc + 3)) : mg_G p l e R s m args below meth c D cl Z A H0 nL Q ad C L cells slots (.int x :: st) pc :=
  fun H locs ls hW hS hL => lv_if_le K.1.1 K.1.2.1 hd ht (fun h => kt h H locs ls hW hS hL) (fun h => kf h H locs ls hW hS hL)
theorem mg_icmp_eq (K : mg_K p m c cc nL s args Ts own D cl Z tys) {x y : Int32} {off : Int} (tgt : Nat) (hd : decode cc pc = .ok (.if_icmp .eq off, 3)) (ht : (pc : Int) + off = (tgt : Int)) (kt : x = y → mg_G p l e R s m args below meth c D cl Z A H0 nL Q ad C L cells slots st tgt) (kf : ¬ x = y → mg_G p l e R s m args below meth c D cl Z A H0 nL Q ad C L cells slots st (pc + 3)) : mg_G p l e R s m args below meth c D cl Z A H0 nL Q ad C L cells slots (.int y :: .int x :: st) pc :=
  fun H locs ls hW hS hL => lv_icmp_eq K.1.1 K.1.2.1 hd ht (fun h => kt h H locs ls hW hS hL) (fun h => kf h H locs ls hW hS hL)
theorem mg_icmp_ne (K : mg_K p m c cc nL s args Ts own D cl Z tys) {x y : Int32} {off : Int} (tgt : Nat) (hd : decode cc pc = .ok (.if_icmp .ne off, 3)) (ht : (pc : Int) + off = (tgt : Int)) (kt : ¬ x = y → mg_G p l e R s m args below meth c D cl Z A H0 nL Q ad C L cells slots st tgt) (kf : x = y → mg_G p l e R s m args below meth c D cl Z A H0 nL Q ad C L cells slots st (pc + 3)) : mg_G p l e R s m args below meth c D cl Z A H0 nL Q ad C L cells slots (.int y :: .int x :: st) pc :=
  fun H locs ls hW hS hL => lv_icmp_ne K.1.1 K.1.2.1 hd ht (fun h => kt h H locs ls hW hS hL) (fun h => kf h H locs ls hW hS hL)
theorem mg_icmp_lt (K : mg_K p m c cc nL s args Ts own D cl Z tys) {x y : Int32} {off : Int} (tgt : Nat) (hd : decode cc pc = .ok (.if_icmp .lt off, 3)) (ht : (pc : Int) + off = (tgt : Int)) (kt : x < y → mg_G p l e R s m args below meth c D cl Z A H0 nL Q ad C L cells slots st tgt) (kf : ¬ x < y → mg_G p l e R s m args below meth c D cl Z A H0 nL Q ad C L cells slots st (pc + 3)) : mg_G p l e R s m args below meth c D cl Z A H0 nL Q ad C L cells slots (.int y :: .int x :: st) pc :=
  fun H locs ls hW hS hL => lv_icmp_lt K.1.1 K.1.2.1 hd ht (fun h => kt h H locs ls hW hS hL) (fun h => kf h H locs ls hW hS hL)
theorem mg_icmp_ge (K : mg_K p m c cc nL s args Ts own D cl Z tys) {x y : Int32} {off : Int} (tgt : Nat) (hd : decode cc pc = .ok (.if_icmp .ge off, 3)) (ht : (pc : Int) + off = (tgt : Int)) (kt : y ≤ x → mg_G p l e R s m args below meth c D cl Z A H0 nL Q ad C L cells slots st tgt) (kf : ¬ y ≤ x → mg_G p l e R s m args below meth c D cl Z A H0 nL Q ad C L cells slots st (pc + 3)) : mg_G p l e R s m args below meth c D cl Z A H0 nL Q ad C L cells slots (.int y :: .int x :: st) pc :=
  fun H locs ls hW hS hL => lv_icmp_ge K.1.1 K.1.2.1 hd ht (fun h => kt h H locs ls hW hS hL) (fun h => kf h H locs ls hW hS hL)
theorem mg_icmp_gt (K : mg_K p m c cc nL s args Ts own D cl Z tys) {x y : Int32} {off : Int} (tgt : Nat) (hd : decode cc pc = .ok (.if_icmp .gt off, 3)) (ht : (pc : Int) + off = (tgt : Int)) (kt : y < x → mg_G p l e R s m args below meth c D cl Z A H0 nL Q ad C L cells slots st tgt) (kf : ¬ y < x → mg_G p l e R s m args below meth c D cl Z A H0 nL Q ad C L cells slots st (pc + 3)) : mg_G p l e R s m args below meth c D cl Z A H0 nL Q ad C L cells slots (.int y :: .int x :: st) pc :=
  fun H locs ls hW hS hL => lv_icmp_gt K.1.1 K.1.2.1 hd ht (fun h => kt h H locs ls hW hS hL) (fun h => kf h H locs ls hW hS hL)
theorem mg_icmp_le (K : mg_K p m c cc nL s args Ts own D cl Z tys) {x y : Int32} {off : Int} (tgt : Nat) (hd : decode cc pc = .ok (.if_icmp .le off, 3)) (ht : (pc : Int) + off = (tgt : Int)) (kt : x ≤ y → mg_G p l e R s m args below meth c D cl Z A H0 nL Q ad C L cells slots st tgt) (kf : ¬ x ≤ y → mg_G p l e R s m args below meth c D cl Z A H0 nL Q ad C L cells slots st (pc + 3)) : mg_G p l e R s m args below meth c D cl Z A H0 nL Q ad C L cells slots (.int y :: .int x :: st) pc :=
  fun H locs ls hW hS hL => lv_icmp_le K.1.1 K.1.2.1 hd ht (fun h => kt h H locs ls hW hS hL) (fun h => kf h H locs ls hW hS hL)
theorem mg_acmp_eq (K : mg_K p m c cc nL s args Ts own D cl Z tys) {rx ry : Option Nat} {off : Int} (tgt : Nat) (hd : decode cc pc = .ok (.if_acmp .eq off, 3)) (ht : (pc : Int) + off = (tgt : Int)) (kt : rx = ry → mg_G p l e R s m args below meth c D cl Z A H0 nL Q ad C L cells slots st tgt) (kf : ¬ rx = ry → mg_G p l e R s m args below meth c D cl Z A H0 nL Q ad C L cells slots st (pc + 3)) : mg_G p l e R s m args below meth c D cl Z A H0 nL Q ad C L cells slots (va_rf ry :: va_rf rx :: st) pc :=
  fun H locs ls hW hS hL => lv_acmp_eq K.1.1 K.1.2.1 hd ht (fun h => kt h H locs ls hW hS hL) (fun h => kf h H locs ls hW hS hL)
theorem mg_acmp_ne (K : mg_K p m c cc nL s args Ts own D cl Z tys) {rx ry : Option Nat} {off : Int} (tgt : Nat) (hd : decode cc pc = .ok (.if_acmp .ne off, 3)) (ht : (pc : Int) + off = (tgt : Int)) (kt : ¬ rx = ry → mg_G p l e R s m args below meth c D cl Z A H0 nL Q ad C L cells slots st tgt) (kf : rx = ry → mg_G p l e R s m args below meth c D cl Z A H0 nL Q ad C L cells slots st (pc + 3)) : mg_G p l e R s m args below meth c D cl Z A H0 nL Q ad C L cells slots (va_rf ry :: va_rf rx :: st) pc :=
  fun H locs ls hW hS hL => lv_acmp_ne K.1.1 K.1.2.1 hd ht (fun h => kt h H locs ls hW hS hL) (fun h => kf h H locs ls hW hS hL)
theorem mg_ifnull (K : mg_K p m c cc nL s args Ts own D cl Z tys) {r : Option Nat} {off : Int} (tgt : Nat) (hd : decode cc pc = .ok (.ifnull off, 3)) (ht : (pc : Int) + off = (tgt : Int)) (kt : r = none → mg_G p l e R s m args below meth c D cl Z A H0 nL Q ad C L cells slots st tgt) (kf : ¬ r = none → mg_G p l e R s m args below meth c D cl Z A H0 nL Q ad C L cells slots st (pc + 3)) : mg_G p l e R s m args below meth c D cl Z A H0 nL Q ad C L cells slots (va_rf r :: st) pc := by
  intro H locs ls hW hS hL
  cases r with
  | none => exact lv_ifnullN K.1.1 K.1.2.1 hd ht (kt rfl H locs ls hW hS hL)
  | some x => exact lv_ifnull K.1.1 K.1.2.1 hd (kf (fun z => by cases z) H locs ls hW hS hL)
theorem mg_ifnonnull (K : mg_K p m c cc nL s args Ts own D cl Z tys) {r : Option Nat} {off : Int} (tgt : Nat) (hd : decode cc pc = .ok (.ifnonnull off, 3)) (ht : (pc : Int) + off = (tgt : Int)) (kt : ¬ r = none → mg_G p l e R s m args below meth c D cl Z A H0 nL Q ad C L cells slots st tgt) (kf : r = none → mg_G p l e R s m args below meth c D cl Z A H0 nL Q ad C L cells slots st (pc + 3)) : mg_G p l e R s m args below meth c D cl Z A H0 nL Q ad C L cells slots (va_rf r :: st) pc := by
  intro H locs ls hW hS hL
  cases r with
  | none => exact lv_ifnonnullN K.1.1 K.1.2.1 hd (kf rfl H locs ls hW hS hL)
  | some x => exact lv_ifnonnull K.1.1 K.1.2.1 hd ht (kt (fun z => by cases z) H locs ls hW hS hL)
theorem mg_tabIn (K : mg_K p m c cc nL s args Ts own D cl Z tys) {dflt lo hi : Int} {offs : Array Int} {len : Nat} {x : Int32} {off : Int} (v : Int32) (tgt : Nat) (hd : decode cc pc = .ok (.tableswitch dflt lo hi offs, len)) (hx : x = v) (h1 : ¬ v.toInt < lo) (h2 : ¬ hi < v.toInt) (ho : offs[(v.toInt - lo).toNat]? = some off) (ht : (pc : Int) + off = (tgt : Int)) (k : mg_G p l e R s m args below meth c D cl Z A H0 nL Q ad C L cells slots st tgt) : mg_G p l e R s m args below meth c D cl Z A H0 nL Q ad C L cells slots (.int x :: st) pc := by
  subst hx
  exact fun H locs ls hW hS hL => lv_tableIn K.1.1 K.1.2.1 hd h1 h2 ho ht (k H locs ls hW hS hL)
theorem mg_tabOut (K : mg_K p m c cc nL s args Ts own D cl Z tys) {dflt lo hi : Int} {offs : Array Int} {len : Nat} {x : Int32} (tgt : Nat) (hd : decode cc pc = .ok (.tableswitch dflt lo hi offs, len)) (h : x.toInt < lo ∨ hi < x.toInt) (ht : (pc : Int) + dflt = (tgt : Int)) (k : mg_G p l e R s m args below meth c D cl Z A H0 nL Q ad C L cells slots st tgt) : mg_G p l e R s m args below meth c D cl Z A H0 nL Q ad C L cells slots (.int x :: st) pc :=
  fun H locs ls hW hS hL => lv_tableOut K.1.1 K.1.2.1 hd h ht (k H locs ls hW hS hL)
theorem mg_lookup (K : mg_K p m c cc nL s args Ts own D cl Z tys) {dflt : Int} {ps : Array (Int × Int)} {len : Nat} {x : Int32} {off : Int} (tgt : Nat) (hd : decode cc pc = .ok (.lookupswitch dflt ps, len)) (hp : (ps.toList.zip (ps.toList.drop 1)).all (fun (a, next) => a.1 < next.1) = true) (ho : Op.lookupswitch.offset ps.toList dflt x.toInt = off) (ht : (pc : Int) + off = (tgt : Int)) (k : mg_G p l e R s m args below meth c D cl Z A H0 nL Q ad C L cells slots st tgt) : mg_G p l e R s m args below meth c D cl Z A H0 nL Q ad C L cells slots (.int x :: st) pc :=
  fun H locs ls hW hS hL => lv_lookup K.1.1 K.1.2.1 hd hp ho ht (k H locs ls hW hS hL)
theorem mg_weak {L' : List (Option Value)} (hs : ∀ (i : Nat) (v : Value), L'[i]? = some (some v) → L[i]? = some (some v)) (k : mg_G p l e R s m args below meth c D cl Z A H0 nL Q ad C L' cells slots st pc) : mg_G p l e R s m args below meth c D cl Z A H0 nL Q ad C L cells slots st pc :=
  fun H locs ls hW hS hL => k H locs ls hW hS (hL.weak hs)
theorem mg_take (n : Nat) (k : mg_G p l e R s m args below meth c D cl Z A H0 nL Q ad C (L.take n) cells slots st pc) : mg_G p l e R s m args below meth c D cl Z A H0 nL Q ad C L cells slots st pc :=
  mg_weak (fun i v h => by rw [List.getElem?_take] at h; split at h <;> first | exact h | cases h) k
theorem mg_widen {ce sl : Nat} (h1 : cells ≤ ce) (h2 : slots ≤ sl) (k : mg_G p l e R s m args below meth c D cl Z A H0 nL Q ad C L ce sl st pc) : mg_G p l e R s m args below meth c D cl Z A H0 nL Q ad C L cells slots st pc :=
  fun H locs ls hW hS hL => W.widen h1 h2 (k H locs ls hW hS hL)
theorem mg_cg {ad' : mg_Ad} {C' : mg_Ct} (hc : ∀ H, mg_W D cl Z A ad C H → mg_W D cl Z A ad' C' H) (k : mg_G p l e R s m args below meth c D cl Z A H0 nL Q ad' C' L cells slots st pc) : mg_G p l e R s m args below meth c D cl Z A H0 nL Q ad C L cells slots st pc :=
  fun H locs ls hW hS hL => k H locs ls (hc H hW) hS hL
theorem mg_eqC {C' : mg_Ct} (hc : C = C') (k : mg_G p l e R s m args below meth c D cl Z A H0 nL Q ad C' L cells slots st pc) : mg_G p l e R s m args below meth c D cl Z A H0 nL Q ad C L cells slots st pc := hc ▸ k
theorem mg_eqv {st' : List Value} (hc : st = st') (k : mg_G p l e R s m args below meth c D cl Z A H0 nL Q ad C L cells slots st' pc) : mg_G p l e R s m args below meth c D cl Z A H0 nL Q ad C L cells slots st pc := hc ▸ k
/-- the objects' fields -/
theorem mg_get (K : mg_K p m c cc nL s args Ts own D cl Z tys) {k i ci index f N : Nat} {fs : List Value} {v : Value} {Cn ref : String} {T : u_T} (hd : decode cc pc = .ok (.getfield index, 3)) (he : C k i = some (.inr (ci, fs))) (hc : cl[ci]? = some (Cn, T, N)) (hin : ∀ w ∈ u_ws Cn T N, w ∈ Ts) (hf : f < N) (hlink : Cond.fieldLink own index ref (T f).2.1 (T f).2.2.1 ∈ Ts) (hr : ref = (T f).1) (hv : fs[f]? = some v) (kk : mg_G p l e R s m args below meth c D cl Z A H0 nL Q ad C L cells slots (v :: st) (pc + 3)) : mg_G p l e R s m args below meth c D cl Z A H0 nL Q ad C L cells slots (va_rf (some (ad k i)) :: st) pc := by
  intro H locs ls hW hS hL
  have hP : va_P D cl [(ad k i, .inr (ci, fs))] H := fun j q hq => by
    cases j with
    | zero => cases hq; exact hW.1 k i _ he
    | succ j => simp at hq
  subst hr
  exact va_get K.1.1 K.1.2.1 K.1.2.2.2.2 hin K.1.2.2.2.1 K.2.1 hP 0 rfl hc f hf (K.1.2.2.2.2 _ hlink) (fun _ h => h) hv hd (kk H locs ls hW hS hL)
theorem mg_getN (K : mg_K p m c cc nL s args Ts own D cl Z tys) {k i ci index f N : Nat} {fs : List Value} {v : Value} {Cn ref host : String} {T : u_T} (hd : decode cc pc = .ok (.getfield index, 3)) (he : C k i = some (.inr (ci, fs))) (hc : cl[ci]? = some (Cn, T, N)) (hin : ∀ w ∈ u_ws Cn T N, w ∈ Ts) (hf : f < N) (hlink : Cond.fieldLinkNest own index ref (T f).2.1 (T f).2.2.1 host ∈ Ts) (hr : ref = (T f).1) (hv : fs[f]? = some v) (kk : mg_G p l e R s m args below meth c D cl Z A H0 nL Q ad C L cells slots (v :: st) (pc + 3)) : mg_G p l e R s m args below meth c D cl Z A H0 nL Q ad C L cells slots (va_rf (some (ad k i)) :: st) pc := by
  intro H locs ls hW hS hL
  have hP : va_P D cl [(ad k i, .inr (ci, fs))] H := fun j q hq => by
    cases j with
    | zero => cases hq; exact hW.1 k i _ he
    | succ j => simp at hq
  subst hr
  exact va_getN K.1.1 K.1.2.1 K.1.2.2.2.2 hin K.1.2.2.2.1 K.2.1 hP 0 rfl hc f hf (K.1.2.2.2.2 _ hlink) (fun _ h => h) hv hd (kk H locs ls hW hS hL)
theorem mg_put (K : mg_K p m c cc nL s args Ts own D cl Z tys) {k i ci index f N : Nat} {fs : List Value} {v : Value} {Cn ref : String} {T : u_T} {ty0 : Nat → FieldType} {ty : FieldType} (hd : decode cc pc = .ok (.putfield index, 3)) (he : C k i = some (.inr (ci, fs))) (hc : cl[ci]? = some (Cn, T, N)) (hin : ∀ w ∈ u_ws Cn T N, w ∈ Ts) (hty : ∀ k, k < N → parseFieldDescriptor (T k).2.2.1 = some (ty0 k)) (hnm : ∀ a, a < N → ∀ b, b < N → a ≠ b → (T a).2.1 ≠ (T b).2.1) (hf : f < N) (hlink : Cond.fieldLink own index ref (T f).2.1 (T f).2.2.1 ∈ Ts) (hr : ref = (T f).1) (hfin : (T f).2.2.2 = false) (hdt : ty0 f = ty) (hn : narrow ty v = v) (hfit : fits ty v = true) (hl : f < fs.length) (kk : mg_G p l e R s m args below meth c D cl Z A H0 nL Q ad (mg_u C k i (some (.inr (ci, fs.set f v)))) L cells slots st (pc + 3)) : mg_G p l e R s m args below meth c D cl Z A H0 nL Q ad C L cells slots (v :: va_rf (some (ad k i)) :: st) pc := by
  intro H locs ls hW hS0 hL
  subst hr
  subst hdt
  have hts := K.1.2.2.2.2
  have hap := va_apart (own := own) hts hin ty0 hty hnm K.2.1 hc
  obtain ⟨r, h1, cell, q1, q2, q3, q4⟩ := hW.1 k i _ he
  have hr : r = (Cn, T, N) := Option.some.inj (h1.symm.trans hc)
  subst hr
  obtain ⟨hS, hfc, kC, hkC, hkind⟩ := K.2.1.1 ci _ hc
  obtain ⟨cf, kf, fi, fd, hi, hsl⟩ := hS f hf
  have hlay := hts _ (hin _ (u_in_lay hf))
  unfold u_lay at hlay
  rw [if_neg (by rw [hfin]; decide)] at hlay
  have hst := (u_facts hfc hkC (u_lays hts hin hf) hi).1
  have h6 := u_store hfc hkC hkind hlay hi (hty f hf) hn hfit
  refine W.putK K.1.1 K.1.2.1 (f := fd) ⟨K.1.2.2.2.1, hts _ hlink, ⟨_, _, _, hi⟩, hst⟩ (by rw [q2]; exact h6) q1 q3 (by rw [hsl]; exact k2_hasslot (q4 f hf)) rfl rfl hd fun H' e1 e2 e3 => ?_
  rw [hsl] at e1 ⊢
  have hne : C k i ≠ none := by rw [he]; exact fun z => by cases z
  exact kk H' _ ls (hW.put hne ⟨_, hc, t_OB.to (V := updV (vp_V fs) f v) ⟨_, e1, q2, q3, t_set q4 hap hf v⟩ (fun j _ => vp_updV_set hl v j)⟩ e3) (hS0.put e2 e3 (hW.2.2.1 k i hne)) hL
theorem mg_putN (K : mg_K p m c cc nL s args Ts own D cl Z tys) {k i ci index f N : Nat} {fs : List Value} {v : Value} {Cn ref host : String} {T : u_T} {ty0 : Nat → FieldType} {ty : FieldType} (hd : decode cc pc = .ok (.putfield index, 3)) (he : C k i = some (.inr (ci, fs))) (hc : cl[ci]? = some (Cn, T, N)) (hin : ∀ w ∈ u_ws Cn T N, w ∈ Ts) (hty : ∀ k, k < N → parseFieldDescriptor (T k).2.2.1 = some (ty0 k)) (hnm : ∀ a, a < N → ∀ b, b < N → a ≠ b → (T a).2.1 ≠ (T b).2.1) (hf : f < N) (hlink : Cond.fieldLinkNest own index ref (T f).2.1 (T f).2.2.1 host ∈ Ts) (hr : ref = (T f).1) (hfin : (T f).2.2.2 = false) (hdt : ty0 f = ty) (hn : narrow ty v = v) (hfit : fits ty v = true) (hl : f < fs.length) (kk : mg_G p l e R s m args below meth c D cl Z A H0 nL Q ad (mg_u C k i (some (.inr (ci, fs.set f v)))) L cells slots st (pc + 3)) : mg_G p l e R s m args below meth c D cl Z A H0 nL Q ad C L cells slots (v :: va_rf (some (ad k i)) :: st) pc := by
  intro H locs ls hW hS0 hL
  subst hr
  subst hdt
  have hts := K.1.2.2.2.2
  have hap := va_apart (own := own) hts hin ty0 hty hnm K.2.1 hc
  obtain ⟨r, h1, cell, q1, q2, q3, q4⟩ := hW.1 k i _ he
  have hr : r = (Cn, T, N) := Option.some.inj (h1.symm.trans hc)
  subst hr
  obtain ⟨hS, hfc, kC, hkC, hkind⟩ := K.2.1.1 ci _ hc
  obtain ⟨cf, kf, fi, fd, hi, hsl⟩ := hS f hf
  have hlay := hts _ (hin _ (u_in_lay hf))
  unfold u_lay at hlay
  rw [if_neg (by rw [hfin]; decide)] at hlay
  have hst := (u_facts hfc hkC (u_lays hts hin hf) hi).1
  have h6 := u_store hfc hkC hkind hlay hi (hty f hf) hn hfit
  refine va_WputK K.1.1 K.1.2.1 (f := fd) K.1.2.2.2.1 (hts _ hlink) hi hst (by rw [q2]; exact h6) q1 q3 (by rw [hsl]; exact k2_hasslot (q4 f hf)) rfl rfl hd fun H' e1 e2 e3 => ?_
  rw [hsl] at e1 ⊢
  have hne : C k i ≠ none := by rw [he]; exact fun z => by cases z
  exact kk H' _ ls (hW.put hne ⟨_, hc, t_OB.to (V := updV (vp_V fs) f v) ⟨_, e1, q2, q3, t_set q4 hap hf v⟩ (fun j _ => vp_updV_set hl v j)⟩ e3) (hS0.put e2 e3 (hW.2.2.1 k i hne)) hL
/-- a final field, in its class's constructor -/
theorem mg_putF (K : mg_K p m c cc nL s args Ts own D cl Z tys) {k i ci index f N : Nat} {fs : List Value} {v : Value} {Cn ref : String} {T : u_T} {ty0 : Nat → FieldType} {ty : FieldType} (hin2 : meth.name = "<init>") (hd : decode cc pc = .ok (.putfield index, 3)) (he : C k i = some (.inr (ci, fs))) (hc : cl[ci]? = some (Cn, T, N)) (hin : ∀ w ∈ u_ws Cn T N, w ∈ Ts) (hty : ∀ k, k < N → parseFieldDescriptor (T k).2.2.1 = some (ty0 k)) (hnm : ∀ a, a < N → ∀ b, b < N → a ≠ b → (T a).2.1 ≠ (T b).2.1) (hf : f < N) (hlink : Cond.fieldLink own index ref (T f).2.1 (T f).2.2.1 ∈ Ts) (hr : ref = (T f).1) (hfin : (T f).2.2.2 = true) (hdecl : (T f).1 = own) (hdt : ty0 f = ty) (hn : narrow ty v = v) (hfit : fits ty v = true) (hl : f < fs.length) (kk : mg_G p l e R s m args below meth c D cl Z A H0 nL Q ad (mg_u C k i (some (.inr (ci, fs.set f v)))) L cells slots st (pc + 3)) : mg_G p l e R s m args below meth c D cl Z A H0 nL Q ad C L cells slots (v :: va_rf (some (ad k i)) :: st) pc := by
  intro H locs ls hW hS0 hL
  subst hr
  subst hdt
  have hts := K.1.2.2.2.2
  have hown := K.1.2.2.2.1
  have hap := va_apart (own := own) hts hin ty0 hty hnm K.2.1 hc
  obtain ⟨r, h1, cell, q1, q2, q3, q4⟩ := hW.1 k i _ he
  have hr : r = (Cn, T, N) := Option.some.inj (h1.symm.trans hc)
  subst hr
  obtain ⟨hS, hfc, kC, hkC, hkind⟩ := K.2.1.1 ci _ hc
  obtain ⟨cf, kf, fi, fd, hi, hsl⟩ := hS f hf
  have hlay := hts _ (hin _ (u_in_lay hf))
  unfold u_lay at hlay
  rw [if_pos hfin] at hlay
  have hst := (u_facts hfc hkC (u_lays hts hin hf) hi).1
  have hcf : m.cls = cf := by
    obtain ⟨_, _, c', _, _, _, -, -, hf', -, -, -, hown2, -⟩ := Cond.laysFinal_spec hlay
    have e1 : c' = cf := by have := hi.symm.trans hf'; simp at this; exact this.1.symm
    rw [hdecl] at hown2
    rw [← e1]; exact Option.some.inj (hown.symm.trans hown2)
  have h6 := u_fits hfc hkC hkind (Or.inr hlay) hi (hty f hf) hn hfit
  refine W.putFinK K.1.1 K.1.2.1 hown (hts _ hlink) hi hst hcf hin2 (by rw [q2]; exact h6) q1 q3 (by rw [hsl]; exact k2_hasslot (q4 f hf)) rfl rfl hd fun H' e1 e2 e3 => ?_
  rw [hsl] at e1 ⊢
  have hne : C k i ≠ none := by rw [he]; exact fun z => by cases z
  exact kk H' _ ls (hW.put hne ⟨_, hc, t_OB.to (V := updV (vp_V fs) f v) ⟨_, e1, q2, q3, t_set q4 hap hf v⟩ (fun j _ => vp_updV_set hl v j)⟩ e3) (hS0.put e2 e3 (hW.2.2.1 k i hne)) hL
/-- arrays -/
theorem mg_P1 {H : Heap} {k i : Nat} {x : va_E} (hW : mg_W D cl Z A ad C H) (he : C k i = some x) : va_P D cl [(ad k i, x)] H := fun j q hq => by
  cases j with
  | zero => cases hq; exact hW.1 k i _ he
  | succ j => simp at hq
theorem mg_aald (K : mg_K p m c cc nL s args Ts own D cl Z tys) {k i n : Nat} {cA : ClassId} {Cn : String} {f : Nat → Option Nat} {x : Int32} (t0 : Nat) (hd : decode cc pc = .ok (.aaload, 1)) (he : C k i = some (.inl (cA, n, .inr (.inr (.inr (.inr f)))))) (ht : tys[t0]? = some (cA, .object Cn)) (hin : vp_in x n) (kk : mg_G p l e R s m args below meth c D cl Z A H0 nL Q ad C L cells slots (va_rf (f x.toNatClampNeg) :: st) (pc + 1)) : mg_G p l e R s m args below meth c D cl Z A H0 nL Q ad C L cells slots (.int x :: va_rf (some (ad k i)) :: st) pc :=
  fun H locs ls hW hS hL => va_aldq K.1.1 K.1.2.1 K.2.1 (mg_P1 hW he) 0 t0 rfl ht hin hd (kk H locs ls hW hS hL)
theorem mg_iald (K : mg_K p m c cc nL s args Ts own D cl Z tys) {k i n : Nat} {cA : ClassId} {f : Nat → Int32} {x : Int32} (t0 : Nat) (hd : decode cc pc = .ok (.iaload, 1)) (he : C k i = some (.inl (cA, n, .inl f))) (ht : tys[t0]? = some (cA, .int)) (hin : vp_in x n) (kk : mg_G p l e R s m args below meth c D cl Z A H0 nL Q ad C L cells slots (.int (f x.toNatClampNeg) :: st) (pc + 1)) : mg_G p l e R s m args below meth c D cl Z A H0 nL Q ad C L cells slots (.int x :: va_rf (some (ad k i)) :: st) pc :=
  fun H locs ls hW hS hL => va_iald K.1.1 K.1.2.1 K.2.1 (mg_P1 hW he) 0 t0 rfl ht hin hd (kk H locs ls hW hS hL)
theorem mg_zald (K : mg_K p m c cc nL s args Ts own D cl Z tys) {k i n : Nat} {cA : ClassId} {f : Nat → Int32} {x : Int32} (t0 : Nat) (hd : decode cc pc = .ok (.baload, 1)) (he : C k i = some (.inl (cA, n, .inl f))) (ht : tys[t0]? = some (cA, .boolean)) (hin : vp_in x n) (kk : mg_G p l e R s m args below meth c D cl Z A H0 nL Q ad C L cells slots (.int (f x.toNatClampNeg) :: st) (pc + 1)) : mg_G p l e R s m args below meth c D cl Z A H0 nL Q ad C L cells slots (.int x :: va_rf (some (ad k i)) :: st) pc :=
  fun H locs ls hW hS hL => va_zald K.1.1 K.1.2.1 K.2.1 (mg_P1 hW he) 0 t0 rfl ht hin hd (kk H locs ls hW hS hL)
theorem mg_lald (K : mg_K p m c cc nL s args Ts own D cl Z tys) {k i n : Nat} {cA : ClassId} {f : Nat → Int64} {x : Int32} (t0 : Nat) (hd : decode cc pc = .ok (.laload, 1)) (he : C k i = some (.inl (cA, n, .inr (.inl f)))) (ht : tys[t0]? = some (cA, .long)) (hin : vp_in x n) (kk : mg_G p l e R s m args below meth c D cl Z A H0 nL Q ad C L cells slots (.long (f x.toNatClampNeg) :: st) (pc + 1)) : mg_G p l e R s m args below meth c D cl Z A H0 nL Q ad C L cells slots (.int x :: va_rf (some (ad k i)) :: st) pc :=
  fun H locs ls hW hS hL => va_lald K.1.1 K.1.2.1 K.2.1 (mg_P1 hW he) 0 t0 rfl ht hin hd (kk H locs ls hW hS hL)
theorem mg_alen (K : mg_K p m c cc nL s args Ts own D cl Z tys) {k i n : Nat} {cA : ClassId} {g : (Nat → Int32) ⊕ (Nat → Int64) ⊕ (Nat → UInt32) ⊕ (Nat → UInt64) ⊕ (Nat → Option Nat)} {ty : FieldType} {v : Int32} (t0 : Nat) (hd : decode cc pc = .ok (.arraylength, 1)) (he : C k i = some (.inl (cA, n, g))) (ht : tys[t0]? = some (cA, ty)) (hv : Int32.ofNat n = v) (kk : mg_G p l e R s m args below meth c D cl Z A H0 nL Q ad C L cells slots (.int v :: st) (pc + 1)) : mg_G p l e R s m args below meth c D cl Z A H0 nL Q ad C L cells slots (va_rf (some (ad k i)) :: st) pc := by
  intro H locs ls hW hS hL
  exact va_alen K.1.1 K.1.2.1 K.2.1 (mg_P1 hW he) 0 t0 rfl ht hv hd (kk H locs ls hW hS hL)

theorem mg_iast (K : mg_K p m c cc nL s args Ts own D cl Z tys) {k i n : Nat} {cA : ClassId} {f : Nat → Int32} {x y : Int32} (t0 : Nat) (hd : decode cc pc = .ok (.iastore, 1)) (he : C k i = some (.inl (cA, n, .inl f))) (ht : tys[t0]? = some (cA, .int)) (hin : vp_in x n) (kk : mg_G p l e R s m args below meth c D cl Z A H0 nL Q ad (mg_u C k i (some (.inl (cA, n, .inl (upd f x.toNatClampNeg y))))) L cells slots st (pc + 1)) : mg_G p l e R s m args below meth c D cl Z A H0 nL Q ad C L cells slots (.int y :: .int x :: va_rf (some (ad k i)) :: st) pc := by
  intro H locs ls hW hS hL
  have hne : C k i ≠ none := by rw [he]; exact fun z => by cases z
  refine W.iast K.1.1 K.1.2.1 (hW.1 k i _ he) ((K.2.1.2 t0 _ ht).1 n (fun j => .int (f j))) (fun q => by cases q) (by show ¬ (x < 0 ∨ (arrV _ _ _).slots.size ≤ _); rw [arrV_size]; exact hin) rfl rfl hd fun H1 e1 z oq => ?_
  refine kk H1 _ ls (hW.put hne ?_ oq) (hS.put z oq (hW.2.2.1 k i hne)) hL
  show H1[ad k i]? = some (vp_cell _ _)
  rw [e1]
  rw [vp_cell_i, vp_cell_i, arrV_store]
  congr 2
  funext q
  by_cases hq : q = x.toNatClampNeg
  · subst hq
    simp [updV, upd]
  · simp [updV, upd, hq]
theorem mg_zast (K : mg_K p m c cc nL s args Ts own D cl Z tys) {k i n : Nat} {cA : ClassId} {f : Nat → Int32} {x y : Int32} (t0 : Nat) (hd : decode cc pc = .ok (.bastore, 1)) (he : C k i = some (.inl (cA, n, .inl f))) (ht : tys[t0]? = some (cA, .boolean)) (hin : vp_in x n) (kk : mg_G p l e R s m args below meth c D cl Z A H0 nL Q ad (mg_u C k i (some (.inl (cA, n, .inl (upd f x.toNatClampNeg (vp_nar .boolean y)))))) L cells slots st (pc + 1)) : mg_G p l e R s m args below meth c D cl Z A H0 nL Q ad C L cells slots (.int y :: .int x :: va_rf (some (ad k i)) :: st) pc := by
  intro H locs ls hW hS hL
  have hne : C k i ≠ none := by rw [he]; exact fun z => by cases z
  refine W.zast K.1.1 K.1.2.1 (hW.1 k i _ he) ((K.2.1.2 t0 _ ht).1 n (fun j => .int (f j))) (fun q => by cases q) (by show ¬ (x < 0 ∨ (arrV _ _ _).slots.size ≤ _); rw [arrV_size]; exact hin) rfl rfl hd fun H1 e1 z oq => ?_
  refine kk H1 _ ls (hW.put hne ?_ oq) (hS.put z oq (hW.2.2.1 k i hne)) hL
  show H1[ad k i]? = some (vp_cell _ _)
  rw [e1]
  rw [vp_cell_i, vp_cell_i, arrV_store]
  congr 2
  funext q
  by_cases hq : q = x.toNatClampNeg
  · subst hq
    simp [updV, upd, vp_nar]
    try rfl
  · simp [updV, upd, hq]
theorem mg_last (K : mg_K p m c cc nL s args Ts own D cl Z tys) {k i n : Nat} {cA : ClassId} {f : Nat → Int64} {x : Int32} {y : Int64} (t0 : Nat) (hd : decode cc pc = .ok (.lastore, 1)) (he : C k i = some (.inl (cA, n, .inr (.inl f)))) (ht : tys[t0]? = some (cA, .long)) (hin : vp_in x n) (kk : mg_G p l e R s m args below meth c D cl Z A H0 nL Q ad (mg_u C k i (some (.inl (cA, n, .inr (.inl (vp_updL f x.toNatClampNeg y)))))) L cells slots st (pc + 1)) : mg_G p l e R s m args below meth c D cl Z A H0 nL Q ad C L cells slots (.long y :: .int x :: va_rf (some (ad k i)) :: st) pc := by
  intro H locs ls hW hS hL
  have hne : C k i ≠ none := by rw [he]; exact fun z => by cases z
  refine W.last K.1.1 K.1.2.1 (hW.1 k i _ he) ((K.2.1.2 t0 _ ht).1 n (fun j => .long (f j))) (fun q => by cases q) (by show ¬ (x < 0 ∨ (arrV _ _ _).slots.size ≤ _); rw [arrV_size]; exact hin) rfl rfl hd fun H1 e1 z oq => ?_
  refine kk H1 _ ls (hW.put hne ?_ oq) (hS.put z oq (hW.2.2.1 k i hne)) hL
  show H1[ad k i]? = some (vp_cell _ _)
  rw [e1]
  rw [vp_cell_l, vp_cell_l, arrV_store]
  congr 2
  funext q
  by_cases hq : q = x.toNatClampNeg
  · subst hq
    simp [updV, vp_updL]
  · simp [updV, vp_updL, hq]
theorem mg_aast (K : mg_K p m c cc nL s args Ts own D cl Z tys) {k i n k2 i2 ci : Nat} {cA : ClassId} {r : vw_C} {vs : List Value} {f : Nat → Option Nat} {x : Int32} (t0 : Nat) (hd : decode cc pc = .ok (.aastore, 1)) (he : C k i = some (.inl (cA, n, .inr (.inr (.inr (.inr f)))))) (ht : tys[t0]? = some (cA, .object r.1)) (hv : C k2 i2 = some (.inr (ci, vs))) (hc : cl[ci]? = some r) (hin : vp_in x n) (kk : mg_G p l e R s m args below meth c D cl Z A H0 nL Q ad (mg_u C k i (some (.inl (cA, n, .inr (.inr (.inr (.inr (va_up f x.toNatClampNeg (some (ad k2 i2)))))))))) L cells slots st (pc + 1)) : mg_G p l e R s m args below meth c D cl Z A H0 nL Q ad C L cells slots (va_rf (some (ad k2 i2)) :: .int x :: va_rf (some (ad k i)) :: st) pc := by
  intro H locs ls hW hS hL
  have hne : C k i ≠ none := by rw [he]; exact fun z => by cases z
  have hlt : x.toNatClampNeg < n := Nat.not_le.mp fun q => hin (Or.inr q)
  have h0 : ¬ x < 0 := fun q => hin (Or.inl q)
  obtain ⟨r', hr', cellV, g1, g2, g3, -⟩ := hW.1 k2 i2 _ hv
  have hcls := (K.2.1.1 ci r hc).2
  obtain ⟨kA, comp, k1, kk2, k3, -⟩ := (K.2.1.2 t0 _ ht).2
  have hcomp : comp = D.1 ci := Option.some.inj (k3.symm.trans hcls.1)
  subst hcomp
  obtain ⟨kC, hkC, -⟩ := hcls.2
  refine W.aast K.1.1 K.1.2.1 (hW.1 k i _ he) (fun q h => by cases h) (fun h => by cases h) k1 kk2 rfl hkC ⟨h0, by show _ < (arrV _ _ _).slots.size; rw [arrV_size]; exact hlt⟩ g1 (fun q h => by rw [g3] at h; cases h) (by rw [g2]; exact hkC) (by rw [g2]; exact va_assign hcls) rfl rfl hd fun H1 e1 z oq => ?_
  refine kk H1 _ ls (hW.put hne ?_ oq) (hS.put z oq (hW.2.2.1 k i hne)) hL
  show H1[ad k i]? = some (vp_cell _ _)
  rw [e1]
  rw [vp_cell_q, vp_cell_q, arrV_store]
  congr 2
  funext q
  by_cases hq : q = x.toNatClampNeg
  · subst hq
    simp [updV, va_up, va_rf]
  · simp [updV, va_up, hq]
theorem mg_aastN (K : mg_K p m c cc nL s args Ts own D cl Z tys) {k i n : Nat} {cA : ClassId} {Cn : String} {f : Nat → Option Nat} {x : Int32} (t0 : Nat) (hd : decode cc pc = .ok (.aastore, 1)) (he : C k i = some (.inl (cA, n, .inr (.inr (.inr (.inr f)))))) (ht : tys[t0]? = some (cA, .object Cn)) (hin : vp_in x n) (kk : mg_G p l e R s m args below meth c D cl Z A H0 nL Q ad (mg_u C k i (some (.inl (cA, n, .inr (.inr (.inr (.inr (va_up f x.toNatClampNeg none)))))))) L cells slots st (pc + 1)) : mg_G p l e R s m args below meth c D cl Z A H0 nL Q ad C L cells slots (va_rf none :: .int x :: va_rf (some (ad k i)) :: st) pc := by
  intro H locs ls hW hS hL
  have hne : C k i ≠ none := by rw [he]; exact fun z => by cases z
  refine va_WaastN (C := Cn) K.1.1 K.1.2.1 (hW.1 k i _ he) ((K.2.1.2 t0 _ ht).1 n (fun j => va_rf (f j))) (fun h => by cases h) (by show ¬ (x < 0 ∨ (arrV _ _ _).slots.size ≤ _); rw [arrV_size]; exact hin) rfl rfl hd fun H1 e1 z oq => ?_
  refine kk H1 _ ls (hW.put hne ?_ oq) (hS.put z oq (hW.2.2.1 k i hne)) hL
  show H1[ad k i]? = some (vp_cell _ _)
  rw [e1]
  rw [vp_cell_q, vp_cell_q, arrV_store]
  congr 2
  funext q
  by_cases hq : q = x.toNatClampNeg
  · subst hq
    simp [updV, va_up, va_rf]
  · simp [updV, va_up, hq]
/-- new cells -/
theorem mg_new (K : mg_K p m c cc nL s args Ts own D cl Z tys) {index N ci : Nat} {Cn : String} {T : u_T} {ty : Nat → FieldType} {fs : List Value} (k i : Nat) (hA : ∀ q, H0.size ≤ q → A q) (hd : decode cc pc = .ok (.new index, 3)) (hk : C k i = none) (hc : cl[ci]? = some (Cn, T, N)) (hin : ∀ w ∈ u_ws Cn T N, w ∈ Ts) (hty : ∀ k, k < N → parseFieldDescriptor (T k).2.2.1 = some (ty k)) (hcl : Cond.classLink own index Cn ∈ Ts) (hinst : Cond.instantiable Cn N ∈ Ts) (hini : Cond.initialized Cn ∈ Ts) (hfs : ∀ j, j < N → defaultValue (ty j) = vp_V fs j) (hcells : cells + 1 ≤ R.cells) (hslots : slots + N ≤ R.slots) (kk : ∀ q : Nat, mg_G p l e R s m args below meth c D cl Z A H0 nL Q (mg_u ad k i q) (mg_u C k i (some (.inr (ci, fs)))) L (cells + 1) (slots + N) (va_rf (some q) :: st) (pc + 3)) : mg_G p l e R s m args below meth c D cl Z A H0 nL Q ad C L cells slots st pc := by
  intro H locs ls hW hS hL
  have hts := K.1.2.2.2.2
  have hKn := K.2.1.1 ci _ hc
  refine W.newcK K.1.1 K.1.2.1 K.1.2.2.2.1 (hts _ hcl) (hts _ hinst) (hts _ hini) rfl hd hcells hslots hKn.2.1 rfl fun H1 kC hkC e1 z1 o1 => ?_
  exact kk H.size H1 locs ls (hW.new hk rfl (hA _ hS.1) ⟨_, hc, (u_born ty hts hin hKn hkC e1 hty).to hfs⟩ o1) ⟨Nat.le_trans hS.1 (by omega), fun x h1 h2 => (o1 x (Nat.lt_of_lt_of_le h1 hS.1)).trans (hS.2.1 x h1 h2), hS.2.2⟩ hL
theorem mg_newa (K : mg_K p m c cc nL s args Ts own D cl Z tys) {atype : ArrayType} {ty : FieldType} {cA : ClassId} {n : Int32} {N' : Nat} {a0 : vp_A} (k i t0 : Nat) (hA : ∀ q, H0.size ≤ q → A q) (hd : decode cc pc = .ok (.newarray atype, 2)) (hk : C k i = none) (harr : Cond.arrayClass (newarray.typeOf atype) ∈ Ts) (hty : newarray.typeOf atype = ty) (ht : tys[t0]? = some (cA, ty)) (ha : vp_cell cA a0 = arrV cA N' (fun _ => defaultValue ty)) (hn : ¬ n < 0) (hN : n.toNatClampNeg = N') (hbytes : N' * componentBytes ty ≤ 536870912) (hcells : cells + 1 ≤ R.cells) (hslots : slots + N' ≤ R.slots) (kk : ∀ q : Nat, mg_G p l e R s m args below meth c D cl Z A H0 nL Q (mg_u ad k i q) (mg_u C k i (some (.inl (cA, a0)))) L (cells + 1) (slots + N') (va_rf (some q) :: st) (pc + 2)) : mg_G p l e R s m args below meth c D cl Z A H0 nL Q ad C L cells slots (.int n :: st) pc := by
  intro H locs ls hW hS hL
  subst hty
  refine va_newaK K.1.1 K.1.2.1 (K.1.2.2.2.2 _ harr) rfl hd rfl hn hN hbytes hcells hslots rfl fun H1 cA' e1 z1 o1 hAr hNm => ?_
  have hcA : cA' = cA := by
    have h2 := (K.2.1.2 t0 _ ht).2
    cases atype <;> exact Option.some.inj (hNm.symm.trans h2)
  subst hcA
  refine kk H.size H1 locs ls (hW.new hk rfl (hA _ hS.1) ?_ o1) ⟨Nat.le_trans hS.1 (by omega), fun x h1 h2 => (o1 x (Nat.lt_of_lt_of_le h1 hS.1)).trans (hS.2.1 x h1 h2), hS.2.2⟩ hL
  show H1[H.size]? = some (vp_cell _ _)
  rw [ha]
  exact e1
theorem mg_newq (K : mg_K p m c cc nL s args Ts own D cl Z tys) {index : Nat} {Cn : String} {cA : ClassId} {n : Int32} {N' : Nat} (k i t0 : Nat) (hA : ∀ q, H0.size ≤ q → A q) (hd : decode cc pc = .ok (.anewarray index, 3)) (hk : C k i = none) (hcl : Cond.classLink own index Cn ∈ Ts) (hov : Cond.arrayOver (.object Cn) ∈ Ts) (ht : tys[t0]? = some (cA, .object Cn)) (hn : ¬ n < 0) (hN : n.toNatClampNeg = N') (hbytes : N' * 4 ≤ 536870912) (hcells : cells + 1 ≤ R.cells) (hslots : slots + N' ≤ R.slots) (kk : ∀ q : Nat, mg_G p l e R s m args below meth c D cl Z A H0 nL Q (mg_u ad k i q) (mg_u C k i (some (.inl (cA, N', .inr (.inr (.inr (.inr (fun _ => none)))))))) L (cells + 1) (slots + N') (va_rf (some q) :: st) (pc + 3)) : mg_G p l e R s m args below meth c D cl Z A H0 nL Q ad C L cells slots (.int n :: st) pc := by
  intro H locs ls hW hS hL
  subst hN
  have hts := K.1.2.2.2.2
  refine W.anew K.1.1 K.1.2.1 K.1.2.2.2.1 (hts _ hcl) (hts _ hov) rfl hd rfl hn hbytes hcells hslots fun cA' kA comp f1 f2 f3 f4 => ?_
  obtain ⟨kA0, comp0, k1, k2, k3, k4⟩ := (K.2.1.2 t0 _ ht).2
  have hcA : cA' = cA := Option.some.inj (f1.symm.trans k4)
  subst hcA
  generalize hH1 : H.push ({ cls := cA', slots := Array.replicate n.toNatClampNeg .null, vm := .none } : Cell) = H1
  have z1 : H1.size = H.size + 1 := by rw [← hH1, Array.size_push]
  have e1 : H1[H.size]? = some (arrV cA' n.toNatClampNeg (fun _ => .null)) := by rw [← hH1, Array.getElem?_push_size, ← arrV_new]
  have o1 : ∀ q : Nat, q < H.size → H1[q]? = H[q]? := fun q hq => by rw [← hH1, Array.getElem?_push, if_neg (Nat.ne_of_lt hq)]
  refine kk H.size H1 locs ls (hW.new hk rfl (hA _ hS.1) ?_ o1) ⟨Nat.le_trans hS.1 (by omega), fun x h1 h2 => (o1 x (Nat.lt_of_lt_of_le h1 hS.1)).trans (hS.2.1 x h1 h2), hS.2.2⟩ hL
  exact e1
theorem mg_objInit (K : mg_K p m c cc nL s args Ts own D cl Z tys) {idx : Nat} {a : Nat} (hd : decode cc pc = .ok (.invokespecial idx, 3)) (hlink : Cond.methodLink own idx Lib.objectInit ∈ Ts) (hinst : Cond.instanceMethod Lib.objectInit ∈ Ts) (hcode : Cond.code Lib.objectInit ⟨#[0xb1]⟩ 1 none ∈ Ts) (hfr : 1 ≤ R.frames) (hlo : (st.map fun v => v.category).sum + 12 ≤ R.locals) (kk : mg_G p l e R s m args below meth c D cl Z A H0 nL Q ad C L cells slots st (pc + 3)) : mg_G p l e R s m args below meth c D cl Z A H0 nL Q ad C L cells slots (va_rf (some a) :: st) pc := by
  intro H locs ls hW hS hL
  have hts := K.1.2.2.2.2
  refine W.objInit (g := F0 m pc ls (va_rf (some a) :: st)) K.1.1 K.1.2.1 K.1.2.2.2.1 (hts _ hlink) (hts _ hinst) (hts _ hcode) rfl (by rw [K.1.2.2.1]; exact hL.1) rfl hd hfr (by simpa [JFrame.monitorRoom] using hlo) ?_
  exact kk H locs ls hW hS hL
end MG1
/-- what a method may change: its world's cells, and those that it makes -/
def mg_A (ad : mg_Ad) (C : mg_Ct) (sz : Nat) : Nat → Prop := fun q => (∃ k i : Nat, C k i ≠ none ∧ q = ad k i) ∨ sz ≤ q
def mg_Pc (D : va_G) (cl : List vw_C) (Z : Nat × Cell) (B : List Cond) (tys : List (ClassId × FieldType)) (av : List Value) (ad : mg_Ad) (C : mg_Ct) (sz : Nat) : Array Value → State → Prop := va_Pc av (fun U => U.heap.size = sz ∧ mg_W D cl Z (fun _ => True) ad C U.heap ∧ va_K D cl tys U ∧ mg_Zk B Z U)
def mg_Qc (D : va_G) (cl : List vw_C) (Z : Nat × Cell) (ad : mg_Ad) (C : mg_Ct) (sz : Nat) (post : Option Value → mg_Ad → mg_Ct → Prop) : Array Value → State → Outcome → State → Prop := fun _ s0 oc t => (∃ (r : Option Value) (ad' : mg_Ad) (C' : mg_Ct), oc = .returned r ∧ post r ad' C' ∧ mg_W D cl Z (mg_A ad C sz) ad' C' t.heap) ∧ va_F (mg_A ad C sz) s0 t
/-- A CONTRACT: from any heap that holds the world ad, C: y returns, 'post answer ad' C'', and the heap holds the world ad', C' -/
def mg_M (l : Launch) (y : MethodName) (ws : List Cond) (rm : Room) (D : va_G) (cl : List vw_C) (Z : Nat × Cell) (B : List Cond) (tys : List (ClassId × FieldType)) (av : List Value) (ad : mg_Ad) (C : mg_Ct) (mc ms : Nat) (post : Option Value → mg_Ad → mg_Ct → Prop) : Prop :=
  ∀ sz : Nat, Met l y ws rm (mg_Pc D cl Z B tys av ad C sz) (mg_Qc D cl Z ad C sz post) mc ms (mg_A ad C sz)
theorem mg_Pc.blind {D : va_G} {cl : List vw_C} {Z : Nat × Cell} {B : List Cond} {tys : List (ClassId × FieldType)} {av : List Value} {ad : mg_Ad} {C : mg_Ct} {sz : Nat} : FrameBlind (mg_Pc D cl Z B tys av ad C sz) := fun a U g mk q => by
  obtain ⟨q0, q1, qW, qK, qZ⟩ := q
  exact ⟨q0, q1, qW, va_K.moved (u := U) (U := U.calling g mk a) (Vm.Alike.refl U.vm) qK, fun V hV hz => qZ V hV hz⟩
section MG2
variable {p : Program} {l : Launch} {e : Env} {R : Room} {s : State} {m : MethodId} {args : Array Value} {below : List Frame} {meth : Method} {c : Code} {Q : State → Prop}
variable {D : va_G} {cl : List vw_C} {Z : Nat × Cell} {tys : List (ClassId × FieldType)} {A : Nat → Prop} {H0 : Heap} {nL : Nat} {cc : ByteArray} {Ts : List Cond} {own : String}
variable {ad : mg_Ad} {C : mg_Ct} {L : List (Option Value)} {cells slots pc mc ms : Nat} {st rest st0 : List Value} {post : Option Value → mg_Ad → mg_Ct → Prop}
theorem mg_A.up {H : Heap} {locs : List Loc} (hW : mg_W D cl Z A ad C H) (hS : va_S A H0 H locs) (hA : ∀ q, H0.size ≤ q → A q) : ∀ q, mg_A ad C H.size q → A q := by
  intro q h
  rcases h with ⟨k, i, h1, rfl⟩ | h
  · exact hW.2.2.1 k i h1
  · exact hA q (Nat.le_trans hS.1 h)
theorem mg_run {H : Heap} {locs : List Loc} {ls : Array Slot} {a : Array Value} (hr : va_Run p l e R s m args below meth c H locs cells slots mc ms (F0 m pc ls st0) rest (mg_Qc D cl Z ad C H.size post a) (mg_A ad C H.size)) (hW : mg_W D cl Z A ad C H) (hS : va_S A H0 H locs) (hA : ∀ q, H0.size ≤ q → A q) (hL : mg_L ls nL L)
    (kk : ∀ (r : Option Value) (ad' : mg_Ad) (C' : mg_Ct), post r ad' C' → mg_G p l e R s m args below meth c D cl Z A H0 nL Q ad' C' L (cells + mc) (slots + ms) (r.toList ++ rest) (pc + 3)) : W p l e R s m args below meth c H locs cells slots Q (F0 m pc ls st0) := by
  have hAA := mg_A.up hW hS hA
  intro T hT X
  obtain ⟨v, st₀, t, T', Lc, h0, X', hLc, e1, e2, ⟨⟨r, ad', C', hv, hp, hb⟩, hz, hk⟩, sT⟩ := hr T hT X
  cases hv
  rw [h0] at hz hk
  obtain ⟨t2, a1, b1⟩ := kk v ad' C' hp T'.heap (locs ++ Lc) ls (by rw [e1]; exact hb.mono hAA)
    ⟨Nat.le_trans hS.1 (by rw [e1]; exact hz), fun q h1 h2 => by rw [e1, hk q (Nat.lt_of_lt_of_le h1 hS.1) (fun z => h2 (hAA q z))]; exact hS.2.1 q h1 h2, fun q hq => by
      rcases List.mem_append.mp hq with h | h
      · exact hS.2.2 q h
      · exact hAA _ (hLc q h)⟩ hL T' rfl X'
  exact ⟨t2, sT t2 a1, b1⟩
theorem mg_pre {H : Heap} {av : List Value} (K : mg_K p m c cc nL s args Ts own D cl Z tys) (hW : mg_W D cl Z A ad C H) : ∀ U : State, U.heap = H → s.WarmedH U.vm → mg_Pc D cl Z Ts tys av ad C H.size av.toArray U :=
  fun U hU hWm => ⟨rfl, by rw [hU], by rw [hU]; exact hW.mono (fun _ _ => trivial), va_K.moved hWm.alike K.2.1, K.2.2.moved hWm⟩

theorem mg_callV (K : mg_K p m c cc nL s args Ts own D cl Z tys) (hA : ∀ q, H0.size ≤ q → A q) {y : MethodName} {ws : List Cond} {rm : Room} {bytes : ByteArray} {maxL n index ci N k i : Nat} {ret : Option FieldType} {Cn : String} {T : u_T} {fs As : List Value} (hM : mg_M l y ws rm D cl Z Ts tys (va_rf (some (ad k i)) :: As) ad C mc ms post) (cw : CallW R s args own Cn index y bytes maxL ret ws rm mc ms n) (hd : decode cc pc = .ok (.invokevirtual index, 3)) (hst : st0 = As.reverse ++ va_rf (some (ad k i)) :: rest) (he : C k i = some (.inr (ci, fs))) (hc : cl[ci]? = some (Cn, T, N)) (hn : As.length = n) (hrm : (rest.map fun v => v.category).sum ≤ 8) (hf : cells + mc ≤ R.cells ∧ slots + ms ≤ R.slots)
    (kk : ∀ (r : Option Value) (ad' : mg_Ad) (C' : mg_Ct), post r ad' C' → mg_G p l e R s m args below meth c D cl Z A H0 nL Q ad' C' L (cells + mc) (slots + ms) (r.toList ++ rest) (pc + 3)) : mg_G p l e R s m args below meth c D cl Z A H0 nL Q ad C L cells slots st0 pc := by
  intro H locs ls hW hS hL
  exact mg_run (va_runV (As := As) (rest := rest) K.1 (hM H.size) cw ⟨mg_Pc.blind, va_recv K.2.1 (mg_P1 hW he) hc (q0 := 0) rfl, mg_pre K hW⟩ rfl hn hL.1 hst (lv_room hrm) hd hf) hW hS hA hL kk
theorem mg_callS (K : mg_K p m c cc nL s args Ts own D cl Z tys) (hA : ∀ q, H0.size ≤ q → A q) {y : MethodName} {ws : List Cond} {rm : Room} {bytes : ByteArray} {maxL n index : Nat} {ret : Option FieldType} {As : List Value} (hM : mg_M l y ws rm D cl Z Ts tys As ad C mc ms post) (cw : CallB R s args own index y bytes maxL ret ws rm mc ms n ∧ (Cond.static y).before args s = true) (hd : decode cc pc = .ok (.invokestatic index, 3)) (hst : st0 = As.reverse ++ rest) (hn : As.length = n) (hrm : (rest.map fun v => v.category).sum ≤ 8) (hf : cells + mc ≤ R.cells ∧ slots + ms ≤ R.slots)
    (kk : ∀ (r : Option Value) (ad' : mg_Ad) (C' : mg_Ct), post r ad' C' → mg_G p l e R s m args below meth c D cl Z A H0 nL Q ad' C' L (cells + mc) (slots + ms) (r.toList ++ rest) (pc + 3)) : mg_G p l e R s m args below meth c D cl Z A H0 nL Q ad C L cells slots st0 pc := by
  intro H locs ls hW hS hL
  exact mg_run (va_runS (As := As) (rest := rest) K.1 (hM H.size) cw ⟨mg_Pc.blind, mg_pre K hW⟩ rfl hn hL.1 hst (lv_room hrm) hd hf) hW hS hA hL kk
theorem mg_callI (K : mg_K p m c cc nL s args Ts own D cl Z tys) (hA : ∀ q, H0.size ≤ q → A q) {y : MethodName} {ws : List Cond} {rm : Room} {bytes : ByteArray} {maxL n index b : Nat} {As : List Value} (hM : mg_M l y ws rm D cl Z Ts tys (va_rf (some b) :: As) ad C mc ms post) (cw : CallB R s args own index y bytes maxL none ws rm mc ms n ∧ y.name = "<init>" ∧ (Cond.instanceMethod y).before args s = true) (hd : decode cc pc = .ok (.invokespecial index, 3)) (hst : st0 = As.reverse ++ va_rf (some b) :: rest) (hn : As.length = n) (hrm : (rest.map fun v => v.category).sum ≤ 8) (hf : cells + mc ≤ R.cells ∧ slots + ms ≤ R.slots)
    (kk : ∀ (r : Option Value) (ad' : mg_Ad) (C' : mg_Ct), post r ad' C' → mg_G p l e R s m args below meth c D cl Z A H0 nL Q ad' C' L (cells + mc) (slots + ms) (r.toList ++ rest) (pc + 3)) : mg_G p l e R s m args below meth c D cl Z A H0 nL Q ad C L cells slots st0 pc := by
  intro H locs ls hW hS hL
  exact mg_run (va_runI (As := As) (rest := rest) K.1 (hM H.size) cw ⟨mg_Pc.blind, mg_pre K hW⟩ rfl hn hL.1 hst (lv_room hrm) hd hf) hW hS hA hL kk
theorem mg_callVN (K : mg_K p m c cc nL s args Ts own D cl Z tys) (hA : ∀ q, H0.size ≤ q → A q) {y : MethodName} {ws : List Cond} {rm : Room} {bytes : ByteArray} {maxL n index ci N k i : Nat} {ret : Option FieldType} {Cn host : String} {T : u_T} {fs As : List Value} (hM : mg_M l y ws rm D cl Z Ts tys (va_rf (some (ad k i)) :: As) ad C mc ms post) (cw : va_CN R s args own index y host bytes maxL ret ws rm mc ms n ∧ (Cond.instanceMethod y).before args s = true ∧ (Cond.selects Cn y y).before args s = true) (hd : decode cc pc = .ok (.invokevirtual index, 3)) (hst : st0 = As.reverse ++ va_rf (some (ad k i)) :: rest) (he : C k i = some (.inr (ci, fs))) (hc : cl[ci]? = some (Cn, T, N)) (hn : As.length = n) (hrm : (rest.map fun v => v.category).sum ≤ 8) (hf : cells + mc ≤ R.cells ∧ slots + ms ≤ R.slots)
    (kk : ∀ (r : Option Value) (ad' : mg_Ad) (C' : mg_Ct), post r ad' C' → mg_G p l e R s m args below meth c D cl Z A H0 nL Q ad' C' L (cells + mc) (slots + ms) (r.toList ++ rest) (pc + 3)) : mg_G p l e R s m args below meth c D cl Z A H0 nL Q ad C L cells slots st0 pc := by
  intro H locs ls hW hS hL
  exact mg_run (va_runVN (As := As) (rest := rest) K.1 (hM H.size) cw ⟨mg_Pc.blind, va_recv K.2.1 (mg_P1 hW he) hc (q0 := 0) rfl, mg_pre K hW⟩ rfl hn hL.1 hst (lv_room hrm) hd hf) hW hS hA hL kk
theorem mg_callSN (K : mg_K p m c cc nL s args Ts own D cl Z tys) (hA : ∀ q, H0.size ≤ q → A q) {y : MethodName} {ws : List Cond} {rm : Room} {bytes : ByteArray} {maxL n index : Nat} {host : String} {ret : Option FieldType} {As : List Value} (hM : mg_M l y ws rm D cl Z Ts tys As ad C mc ms post) (cw : va_CN R s args own index y host bytes maxL ret ws rm mc ms n ∧ (Cond.static y).before args s = true ∧ True) (hd : decode cc pc = .ok (.invokestatic index, 3)) (hst : st0 = As.reverse ++ rest) (hn : As.length = n) (hrm : (rest.map fun v => v.category).sum ≤ 8) (hf : cells + mc ≤ R.cells ∧ slots + ms ≤ R.slots)
    (kk : ∀ (r : Option Value) (ad' : mg_Ad) (C' : mg_Ct), post r ad' C' → mg_G p l e R s m args below meth c D cl Z A H0 nL Q ad' C' L (cells + mc) (slots + ms) (r.toList ++ rest) (pc + 3)) : mg_G p l e R s m args below meth c D cl Z A H0 nL Q ad C L cells slots st0 pc := by
  intro H locs ls hW hS hL
  exact mg_run (va_runSN (As := As) (rest := rest) K.1 (hM H.size) cw ⟨mg_Pc.blind, mg_pre K hW⟩ rfl hn hL.1 hst (lv_room hrm) hd hf) hW hS hA hL kk
theorem mg_callIN (K : mg_K p m c cc nL s args Ts own D cl Z tys) (hA : ∀ q, H0.size ≤ q → A q) {y : MethodName} {ws : List Cond} {rm : Room} {bytes : ByteArray} {maxL n index b : Nat} {host : String} {As : List Value} (hM : mg_M l y ws rm D cl Z Ts tys (va_rf (some b) :: As) ad C mc ms post) (cw : va_CN R s args own index y host bytes maxL none ws rm mc ms n ∧ y.name = "<init>" ∧ (Cond.instanceMethod y).before args s = true) (hd : decode cc pc = .ok (.invokespecial index, 3)) (hst : st0 = As.reverse ++ va_rf (some b) :: rest) (hn : As.length = n) (hrm : (rest.map fun v => v.category).sum ≤ 8) (hf : cells + mc ≤ R.cells ∧ slots + ms ≤ R.slots)
    (kk : ∀ (r : Option Value) (ad' : mg_Ad) (C' : mg_Ct), post r ad' C' → mg_G p l e R s m args below meth c D cl Z A H0 nL Q ad' C' L (cells + mc) (slots + ms) (r.toList ++ rest) (pc + 3)) : mg_G p l e R s m args below meth c D cl Z A H0 nL Q ad C L cells slots st0 pc := by
  intro H locs ls hW hS hL
  exact mg_run (va_runIN (As := As) (rest := rest) K.1 (hM H.size) cw ⟨mg_Pc.blind, mg_pre K hW⟩ rfl hn hL.1 hst (lv_room hrm) hd hf) hW hS hA hL kk
end MG2
/-! a method's start and end -/
theorem mg_args_in : ∀ (av : List Value) (i j : Nat) (v : Value), (∀ w ∈ av, w.category = 1) → av[j]? = some v → (i + j, v) ∈ lv_args i av
  | [], _, _, _, _, h => by simp at h
  | w :: av, i, 0, v, _, h => by
    simp at h
    subst h
    simp [lv_args]
  | w :: av, i, j + 1, v, hc, h => by
    rw [List.getElem?_cons_succ] at h
    have h1 := mg_args_in av (i + 1) j v (fun x hx => hc x (List.mem_cons_of_mem _ hx)) h
    have hw : w.category = 1 := hc w List.mem_cons_self
    have e1 : i + (j + 1) = i + 1 + j := by omega
    rw [e1]
    show (i + 1 + j, v) ∈ (i, w) :: lv_args (if w.category = 2 then i + 2 else i + 1) av
    rw [if_neg (by rw [hw]; decide)]
    exact List.mem_cons_of_mem _ h1
theorem mg_L.entry {ls : Array Slot} {n : Nat} {av : List Value} (hc : ∀ w ∈ av, w.category = 1) (h : lv_has ls n (lv_args 0 av)) : mg_L ls n (av.map some) := by
  refine ⟨h.1, h.2.1, fun i v hv => ?_, fun i v hv => ?_⟩
  · rw [List.getElem?_map] at hv
    cases hq : av[i]? with
    | none => rw [hq] at hv; cases hv
    | some w =>
      rw [hq] at hv
      cases hv
      have h1 := mg_args_in av 0 i _ hc hq
      rw [Nat.zero_add] at h1
      exact h.2.2 (i, _) h1
  · rw [List.getElem?_map] at hv
    cases hq : av[i]? with
    | none => rw [hq] at hv; cases hv
    | some w =>
      rw [hq] at hv
      cases hv
      exact hc _ (List.mem_of_getElem? hq)
theorem mg_M.of {l : Launch} {y : MethodName} {ws ws' : List Cond} {rm : Room} {D : va_G} {cl : List vw_C} {Z : Nat × Cell} {B : List Cond} {tys : List (ClassId × FieldType)} {av : List Value} {ad : mg_Ad} {C : mg_Ct} {mc ms maxL : Nat} {cc : ByteArray} {ret : Option FieldType} {post : Option Value → mg_Ad → mg_Ct → Prop}
    (hy : plainName y.cls = true) (hw : ws = Cond.code y cc maxL ret :: ws') (hcap : (lg_sl av).length ≤ maxL) (hcat : ∀ w ∈ av, w.category = 1)
    (body : ∀ (p : Program) (e : Env) (s : State) (m : MethodId) (args : Array Value) (below : List Frame) (meth : Method) (c : Code), mg_K p m c cc maxL s args B y.cls D cl Z tys → meth.sig.returnType = ret → meth.locks = false → meth.name = y.name → (∀ q, s.heap.size ≤ q → mg_A ad C s.heap.size q) →
      mg_G p l e rm s m args below meth c D cl Z (mg_A ad C s.heap.size) s.heap maxL (MQ below (mg_Qc D cl Z ad C s.heap.size post) args s mc ms (mg_A ad C s.heap.size)) ad C (av.map some) 0 0 [] 0) : mg_M l y ws rm D cl Z B tys av ad C mc ms post := by
  intro sz
  refine Met.ofW (cc := cc) (maxL := maxL) (ret := ret) hy hw ?_
  intro p e s m args below meth c s₁ Bd hml hv
  obtain ⟨rfl, hsz, hW, hK, hZk⟩ := hv
  subst hsz
  have hts : ∀ w ∈ B, w.before av.toArray s = true := fun w h => hZk s (State.WarmedH.refl s) hW.2.2.2.1 w h _
  have hown := findClass_of_methodNamed Bd.named
  have hl := lv_entry av (n := maxL) hcap
  rw [lg_entry_eq]
  generalize (lg_sl av ++ List.replicate (maxL - (lg_sl av).length) Slot.unset).toArray = ls at hl ⊢
  exact body p e s m _ below meth c ⟨⟨Bd.exec, Bd.bytes, hml, hown, hts⟩, hK, hZk⟩ Bd.returns Bd.notSynchronized (name_of_methodNamed Bd.named Bd.method).1 (fun q h => Or.inr h) _ [] ls ⟨hW.1, hW.2.1, fun k i h => Or.inl ⟨k, i, h, rfl⟩, hW.2.2.2⟩ va_S.rf (mg_L.entry hcat hl)
section MG3
variable {p : Program} {l : Launch} {e : Env} {R : Room} {s : State} {m : MethodId} {args : Array Value} {below : List Frame} {meth : Method} {c : Code}
variable {D : va_G} {cl : List vw_C} {Z : Nat × Cell} {tys : List (ClassId × FieldType)} {nL : Nat} {cc : ByteArray} {Ts : List Cond} {own : String}
variable {ad ad0 : mg_Ad} {C C0 : mg_Ct} {L : List (Option Value)} {cells slots pc mc ms sz : Nat} {post : Option Value → mg_Ad → mg_Ct → Prop}
theorem mg_iret {v : Int32} (K : mg_K p m c cc nL s args Ts own D cl Z tys) (hr : meth.sig.returnType = some .int) (hk : meth.locks = false) (hd : decode cc pc = .ok (.ireturn, 1)) (h1 : cells ≤ mc) (h2 : slots ≤ ms) (hp : post (some (.int v)) ad C) : mg_G p l e R s m args below meth c D cl Z (mg_A ad0 C0 sz) s.heap nL (MQ below (mg_Qc D cl Z ad0 C0 sz post) args s mc ms (mg_A ad0 C0 sz)) ad C L cells slots [.int v] pc := by
  intro H locs ls hW hS hL
  refine W.widen h1 h2 ?_
  exact W.iret K.1.1 K.1.2.1 hr (fun t ht hWm => ⟨⟨_, ad, C, rfl, hp, by rw [ht]; exact hW⟩, hS.F ht⟩) hS.2.2 hd hk
theorem mg_zret {v : Int32} (K : mg_K p m c cc nL s args Ts own D cl Z tys) (hr : meth.sig.returnType = some .boolean) (hk : meth.locks = false) (hd : decode cc pc = .ok (.ireturn, 1)) (hn : narrow .boolean (.int v) = .int v) (h1 : cells ≤ mc) (h2 : slots ≤ ms) (hp : post (some (.int v)) ad C) : mg_G p l e R s m args below meth c D cl Z (mg_A ad0 C0 sz) s.heap nL (MQ below (mg_Qc D cl Z ad0 C0 sz post) args s mc ms (mg_A ad0 C0 sz)) ad C L cells slots [.int v] pc := by
  intro H locs ls hW hS hL
  refine W.widen h1 h2 ?_
  exact W.zret K.1.1 K.1.2.1 hr hn (fun t ht hWm => ⟨⟨_, ad, C, rfl, hp, by rw [ht]; exact hW⟩, hS.F ht⟩) hS.2.2 hd hk
theorem mg_vret (K : mg_K p m c cc nL s args Ts own D cl Z tys) (hr : meth.sig.returnType = none) (hk : meth.locks = false) (hd : decode cc pc = .ok (.return_, 1)) (h1 : cells ≤ mc) (h2 : slots ≤ ms) (hp : post none ad C) : mg_G p l e R s m args below meth c D cl Z (mg_A ad0 C0 sz) s.heap nL (MQ below (mg_Qc D cl Z ad0 C0 sz post) args s mc ms (mg_A ad0 C0 sz)) ad C L cells slots [] pc := by
  intro H locs ls hW hS hL
  refine W.widen h1 h2 ?_
  exact W.vret K.1.1 K.1.2.1 hr (fun t ht hWm => ⟨⟨_, ad, C, rfl, hp, by rw [ht]; exact hW⟩, hS.F ht⟩) hS.2.2 hd hk
theorem mg_aret {r : Option Nat} {nm : String} (K : mg_K p m c cc nL s args Ts own D cl Z tys) (hr : meth.sig.returnType = some (.object nm)) (hk : meth.locks = false) (hd : decode cc pc = .ok (.areturn, 1)) (h1 : cells ≤ mc) (h2 : slots ≤ ms) (hp : post (some (va_rf r)) ad C) : mg_G p l e R s m args below meth c D cl Z (mg_A ad0 C0 sz) s.heap nL (MQ below (mg_Qc D cl Z ad0 C0 sz post) args s mc ms (mg_A ad0 C0 sz)) ad C L cells slots [va_rf r] pc := by
  intro H locs ls hW hS hL
  refine W.widen h1 h2 ?_
  exact W.aret K.1.1 K.1.2.1 hr (Or.inl ⟨nm, rfl⟩) (by cases r <;> simp [va_rf]) (fun t ht hWm => ⟨⟨_, ad, C, rfl, hp, by rw [ht]; exact hW⟩, hS.F ht⟩) hS.2.2 hd hk
end MG3
end
section
/-! a method that throws: mg_T; its making of an exception, its passing on, its catching -/
def mg_FT (first : State) (o : Outcome) (t : State) (L : List Loc) (k n : Nat) : Prop := (∃ x, o = .threw x) ∧ first.WarmedH t.vm ∧ first.sameButNew ({ t with vm := first.vm } : State) L k n
def mg_MT (l : Launch) (y : MethodName) (ws : List Cond) (rm : Room) (Pc : Array Value → State → Prop) (Qc : Array Value → State → Outcome → State → Prop) (mc ms : Nat) (free : Addr → Prop) : Prop :=
  MetFree l y (headSpec ws rm) Pc (fun _ _ _ _ _ => True) (fun a st o t => Qc a st o t ∧ ∃ L, mg_FT st o t L mc ms ∧ ∀ q ∈ L, free q.base)
section MT1
variable {l : Launch} {R : Room} {p : Program} {e : Env} {below : List Frame} {s : State} {args : Array Value} {y : MethodName} {W len : Nat} {m : MethodId} {meth : Method} {c : Code} {U : State} {Ls : List Loc} {c0 s0 : Nat}
theorem mg_backT {ws : List Cond} {rm : Room} {Pc : Array Value → State → Prop} {Qc : Array Value → State → Outcome → State → Prop} {mc ms : Nat} {free : Addr → Prop} {bytes : ByteArray} {maxL : Nat} {ret : Option FieldType}
    (hM : mg_MT l y ws rm Pc Qc mc ms free) (hblind : FrameBlind Pc) (hrc : rm.cells = mc) (hrs : rm.slots = ms)
    (hframes : rm.frames + 1 ≤ R.frames) (hlocals : W + (maxL + 11) + rm.locals ≤ R.locals)
    (hws : ∀ w ∈ ws, ∀ a' U, s.WarmedH U.vm → w.before a' U = true) (hcode : Cond.code y bytes maxL ret ∈ ws) (hinit : ∀ a' U, s.WarmedH U.vm → (Cond.initialized y.cls).before a' U = true)
    (X : Stand p l e R s m args below meth c U Ls c0 s0) {g : JFrame} {ig : Instr} {mk : MethodId} {a : Array Value} (hg : g.method = m) (hsize : g.locals.size = c.maxLocals) (hdg : decode c.code g.pc = .ok (ig, len))
    (hW : 2 * g.monitorRoom + (g.stack.map fun v => v.category).sum ≤ W) (hn : U.methodNamed? y = some mk) (hp : c0 + mc ≤ R.cells ∧ s0 + ms ≤ R.slots ∧ Pc a U) :
    ∃ (x : Addr) (t T' : State) (L : List Loc), Stand p l e R s m args below meth c T' (Ls ++ L) (c0 + mc) (s0 + ms) ∧ T'.heap = t.heap ∧ T'.vm = t.vm ∧ (∀ q ∈ L, free q.base) ∧ Qc a (U.calling g mk a) (.threw x) t ∧
      Steps p.tables e below (doInvoke e (U.setTop g) [] mk a).1 ((T'.setTop g).pushFrame (.throwing x)) := by
  have hc1 := hws _ hcode a _ X.warmed
  obtain ⟨methY, cY, hmY, hcY, -, hlY, -, -, -, -⟩ := Cond.code_spec hn hc1
  obtain ⟨kY, hkY, -⟩ := className_of_methodNamed hn
  have hinitY : kY.init = .initialized := Cond.initialized_spec (findClass_of_methodNamed hn) hkY (hinit a _ X.warmed)
  have h : At U g.method c below := by rw [hg]; exact X.here
  have happ : (headSpec ws rm).appliesLoose y e.platform (U.calling g mk a) = true :=
    Spec.appliesLoose_calling (g := g) h hdg hn hkY hinitY
      (X.room_calling (g := g) (R' := (headSpec ws rm).room) hsize hmY hcY hframes (by rw [hlY]; show _ + _ + rm.locals ≤ _; omega) (by show c0 + rm.cells ≤ _; rw [hrc]; exact hp.1) (by show s0 + rm.slots ≤ _; rw [hrs]; exact hp.2.1)) (atoms_intro fun w hw => hws w hw _ _ X.warmed)
  obtain ⟨mid, hmid⟩ := h.above
  have hfr : (U.setTop g).frames = (.java g :: mid) ++ below := by rw [State.frames_setTop' g h.top, hmid]; rfl
  obtain ⟨o, s₂, hsteps, -, hend, hq⟩ := Steps.callFree hM p X.admits X.cas X.clock (acts := []) hfr happ (hblind _ _ g mk hp.2.2) trivial
  obtain ⟨hq1, L, hfe, hL⟩ : Qc a (U.calling g mk a) o s₂ ∧ ∃ L, mg_FT (U.calling g mk a) o s₂ L mc ms ∧ ∀ q ∈ L, free q.base := hq
  rw [State.frames_setTop' g h.top] at hend
  obtain ⟨⟨v, rfl⟩, hW₂, e2, q2, q3, q4, q5, q6⟩ := hfe
  have e3 : s₂ = ({ (U.calling g mk a).setFrames s₂.frames with heap := s₂.heap, slotsUsed := s₂.slotsUsed } : State).setVm s₂.vm := by
    have : s₂ = ({ s₂ with vm := (U.calling g mk a).vm } : State).setVm s₂.vm := rfl
    rw [e2] at this
    exact this
  have hf₂ : s₂.frames = .throwing v :: .java g :: U.frames.tail := hend
  have hW' : U.WarmedH s₂.vm := hW₂
  obtain ⟨g₀, hg0⟩ := Option.isSome_iff_exists.mp h.top
  obtain ⟨r, hr⟩ := State.topJava?_eq_some.mp hg0
  have hs₂ : s₂ = ((({ U with heap := s₂.heap, slotsUsed := s₂.slotsUsed } : State).setVm s₂.vm).setTop g).pushFrame (.throwing v) := by
    have hr' : (({ U with heap := s₂.heap, slotsUsed := s₂.slotsUsed } : State).setVm s₂.vm).frames = .java g₀ :: r := hr
    refine e3.trans ?_
    rw [hf₂, State.calling_eq h.top, State.setFrames_setFrames, State.pushFrame, State.frames_setTop _ hr', State.setTop_of_frames _ hr', State.setFrames_setFrames, hr]
    rfl
  have hsame : U.sameButNew ({ U with heap := s₂.heap, slotsUsed := s₂.slotsUsed } : State) L mc ms := by
    refine ⟨?_, q2, q3, q4, q5, q6⟩
    obtain ⟨t, ht, -⟩ := State.frames_cons hr
    show ({ U with heap := s₂.heap, slotsUsed := s₂.slotsUsed } : State) = { U.setFrames U.frames with heap := s₂.heap, slotsUsed := s₂.slotsUsed }
    rw [State.setFrames_self ht]
  subst hg
  refine ⟨v, s₂, ({ U with heap := s₂.heap, slotsUsed := s₂.slotsUsed } : State).setVm s₂.vm, L,
    ⟨X.admits, X.cas, X.clock, X.frames, X.room, X.hears, X.method, X.code, (X.here.setHeapUsed s₂.heap s₂.slotsUsed).setVm hW'.alike, X.tail, State.WarmedH.trans X.warmed hW', X.limits, X.bytes, X.same.trans (hsame.setVm s.vm)⟩,
    rfl, rfl, hL, hq1, ?_⟩
  rw [← hs₂]
  exact hsteps
end MT1
section MT2
variable {p : Program} {l : Launch} {e : Env} {R : Room} {s : State} {m : MethodId} {args : Array Value} {below : List Frame} {meth : Method} {c : Code} {H : Heap} {locs : List Loc} {cells slots : Nat}
/-- a call that throws -/
def mg_RunT (p : Program) (l : Launch) (e : Env) (R : Room) (s : State) (m : MethodId) (args : Array Value) (below : List Frame) (meth : Method) (c : Code) (H : Heap) (locs : List Loc) (cells slots mc ms : Nat) (g : JFrame) (rest : List Value) (Qa : State → Outcome → State → Prop) (free : Addr → Prop) : Prop :=
  ∀ T : State, T.heap = H → Stand p l e R s m args below meth c T locs cells slots → ∃ (x : Addr) (st₀ t T' : State) (L : List Loc), st₀.heap = H ∧ Stand p l e R s m args below meth c T' (locs ++ L) (cells + mc) (slots + ms) ∧ (∀ q ∈ L, free q.base) ∧ T'.heap = t.heap ∧ T'.vm = t.vm ∧ Qa st₀ (.threw x) t ∧
    ∀ tg, Steps p.tables e below ((T'.setTop { g with stack := rest }).pushFrame (.throwing x)) tg → Steps p.tables e below (T.setTop g) tg
variable {y : MethodName} {bytes cc : ByteArray} {maxL nL mc ms n index : Nat} {ret : Option FieldType} {ws : List Cond} {rm : Room} {Pc : Array Value → State → Prop} {Qc : Array Value → State → Outcome → State → Prop} {free : Addr → Prop} {Ts : List Cond} {own C : String} {b : Addr} {As rest : List Value} {g : JFrame}
theorem mg_runST (S : CallFix p m c cc nL s args Ts own) (hM : mg_MT l y ws rm Pc Qc mc ms free) (cw : CallB R s args own index y bytes maxL ret ws rm mc ms n ∧ (Cond.static y).before args s = true) (hp : PreS s H Pc As)
    (hg : g.method = m) (hn : As.length = n) (hsize : g.locals.size = nL) (hstack : g.stack = As.reverse ++ rest) (hW : 2 * g.monitorRoom + (rest.map fun v => v.category).sum ≤ 8) (hdg : decode cc g.pc = .ok (.invokestatic index, 3)) (hf : cells + mc ≤ R.cells ∧ slots + ms ≤ R.slots) :
    mg_RunT p l e R s m args below meth c H locs cells slots mc ms g rest (Qc As.toArray) free := by
  obtain ⟨⟨hrc, hrs, hfr, hlo, hws, hcw, hcode, hini, hy, hlen, hl⟩, hstt⟩ := cw
  obtain ⟨hx, hb, hml, ho, -⟩ := S
  intro T hT X
  obtain ⟨mk, hnamed⟩ := Cond.code_named hcode
  obtain ⟨methM, cM, hmethM, -, -, -, -, -, -, hsigM⟩ := Cond.code_spec hnamed hcode
  have hstatic : methM.isStatic = true := Cond.static_spec hnamed hmethM hstt
  obtain ⟨kP, hkP, -⟩ := className_of_methodNamed hnamed
  have hinitP : kP.init = .initialized := Cond.initialized_spec (findClass_of_methodNamed hnamed) hkP hini
  have hdg' : decode c.code g.pc = .ok (.invokestatic index, 3) := by rw [hb]; exact hdg
  obtain ⟨vm₁, X₁, hstep₁⟩ := X.invokestatic hx ho hl hnamed hmethM hstatic hkP hinitP hy (g := g) hg (argsL := As) (rest := rest) (hn.trans (hlen _ hsigM)) hstack hdg'
  obtain ⟨x, t, T', L, X', e1, e2, hL, hq, hsteps⟩ := mg_backT (g := { g with stack := rest }) (mk := mk) (a := As.toArray) (W := 8) hM hp.1 hrc hrs hfr hlo hws hcw (fun a' U hW => word_at hW (Or.inl (by first | rfl | simp [Cond.onTables, Cond.keeps, Cond.steady])) hini) X₁ hg (hsize.trans hml.symm) hdg' hW (X₁.named hnamed) ⟨hf.1, hf.2, hp.2 (T.setVm vm₁) hT X₁.warmed⟩
  exact ⟨x, (T.setVm vm₁).calling { g with stack := rest } mk As.toArray, t, T', L, hT, X', hL, e1, e2, hq, fun tg h => hstep₁ _ fun acts => by rw [doInvoke_state]; exact hsteps.trans h⟩
theorem mg_runVT (S : CallFix p m c cc nL s args Ts own) (hM : mg_MT l y ws rm Pc Qc mc ms free) (cw : CallW R s args own C index y bytes maxL ret ws rm mc ms n) (hp : PreV s H C b Pc As)
    (hg : g.method = m) (hn : As.length = n) (hsize : g.locals.size = nL) (hstack : g.stack = As.reverse ++ .ref b :: rest) (hW : 2 * g.monitorRoom + (rest.map fun v => v.category).sum ≤ 8) (hdg : decode cc g.pc = .ok (.invokevirtual index, 3)) (hf : cells + mc ≤ R.cells ∧ slots + ms ≤ R.slots) :
    mg_RunT p l e R s m args below meth c H locs cells slots mc ms g rest (Qc (Value.ref b :: As).toArray) free := by
  obtain ⟨⟨hrc, hrs, hfr, hlo, hws, hcw, hcode, hini, hy, hlen, hl⟩, hinst, hsel⟩ := cw
  obtain ⟨hx, hb, hml, ho, -⟩ := S
  obtain ⟨hbl, ⟨cellB, hcB, hoB, hclB⟩, hPc⟩ := hp
  intro T hT X
  obtain ⟨mk, methM, hnamed, hmethM, hstM, habM⟩ := Cond.instanceMethod_spec hinst
  obtain ⟨methM', cM, hmethM', -, -, -, -, -, -, hsigM⟩ := Cond.code_spec hnamed hcode
  cases hmethM.symm.trans hmethM'
  obtain ⟨c2, r2, m2, q1, q2, q3, q4, kP, hkP, hkPi⟩ := Cond.selects_spec hsel
  cases hclB.symm.trans q1
  cases (State.methodFound?_of_named hnamed hy).symm.trans q2
  cases hnamed.symm.trans q3
  have hselP : selectMethod e.platform s.vm cellB.cls mk = .method mk := by rw [Launch.admits_selectMethod X.admits]; exact q4
  have hdg' : decode c.code g.pc = .ok (.invokevirtual index, 3) := by rw [hb]; exact hdg
  obtain ⟨vm₁, X₁, hstep₁⟩ := X.invokevirtual hx ho hl hnamed hmethM hstM hkP hkPi hy (a := b) (cell := cellB) (by rw [hT]; exact hcB)
    (fun z h => by rw [h] at hoB; cases hoB) hselP hmethM habM hkP hkPi (g := g) hg (argsL := As) (rest := rest) (hn.trans (hlen _ hsigM)) hstack hdg'
  obtain ⟨x, t, T', L, X', e1, e2, hL, hq, hsteps⟩ := mg_backT (g := { g with stack := rest }) (mk := mk) (a := (Value.ref b :: As).toArray) (W := 8) hM hbl hrc hrs hfr hlo hws hcw (fun a' U hW => word_at hW (Or.inl (by first | rfl | simp [Cond.onTables, Cond.keeps, Cond.steady])) hini) X₁ hg (hsize.trans hml.symm) hdg' hW (X₁.named hnamed) ⟨hf.1, hf.2, hPc (T.setVm vm₁) hT X₁.warmed⟩
  exact ⟨x, (T.setVm vm₁).calling { g with stack := rest } mk (Value.ref b :: As).toArray, t, T', L, hT, X', hL, e1, e2, hq, fun tg h => hstep₁ _ fun acts => by rw [doInvoke_state]; exact hsteps.trans h⟩
end MT2
/-- nothing of the world is told: the road of a throw -/
def mg_0 : mg_Ct := fun _ _ => none
def mg_fr (sz : Nat) : Nat → Prop := fun q => sz ≤ q
def mg_QT (sz : Nat) (Xn : String) : Array Value → State → Outcome → State → Prop := fun _ s0 oc t => (∃ (x : Addr) (cell : Cell), oc = .threw x ∧ t.heap[x]? = some cell ∧ t.vm.findClass Xn = some cell.cls ∧ cell.vm.isStatics = false) ∧ va_F (mg_fr sz) s0 t
/-- A CONTRACT of a method that throws an Xn, and changes nothing -/
def mg_T (l : Launch) (y : MethodName) (ws : List Cond) (rm : Room) (D : va_G) (cl : List vw_C) (Z : Nat × Cell) (B : List Cond) (tys : List (ClassId × FieldType)) (av : List Value) (ad : mg_Ad) (C : mg_Ct) (Xn : String) : Prop :=
  ∀ sz : Nat, mg_MT l y ws rm (mg_Pc D cl Z B tys av ad C sz) (mg_QT sz Xn) 1 6 (mg_fr sz)
def mg_MQT (below : List Frame) (Qc : Array Value → State → Outcome → State → Prop) (a : Array Value) (s : State) (mc ms : Nat) (free : Addr → Prop) : State → Prop := fun t =>
  ∃ o, t.status = .running ∧ Ended t below o ∧ Qc a s o t ∧ ∃ L, mg_FT s o t L mc ms ∧ ∀ q ∈ L, free q.base
theorem mg_W.zero {D : va_G} {cl : List vw_C} {Z : Nat × Cell} {A : Nat → Prop} {ad : mg_Ad} {H : Heap} (h : H[Z.1]? = some Z.2) : mg_W D cl Z A ad mg_0 H :=
  ⟨fun _ _ _ h => (by cases h), fun _ _ _ _ h => absurd rfl h, fun _ _ h => absurd rfl h, h, fun _ _ h => absurd rfl h⟩
theorem mg_A.zero {ad : mg_Ad} {sz : Nat} : ∀ q, mg_A ad mg_0 sz q → mg_fr sz q := fun q h => by
  rcases h with ⟨_, _, h, -⟩ | h
  · exact absurd rfl h
  · exact h
theorem mg_T.of {l : Launch} {y : MethodName} {ws ws' : List Cond} {rm : Room} {D : va_G} {cl : List vw_C} {Z : Nat × Cell} {B : List Cond} {tys : List (ClassId × FieldType)} {av : List Value} {ad : mg_Ad} {C : mg_Ct} {maxL : Nat} {cc : ByteArray} {ret : Option FieldType} {Xn : String}
    (hfl : l.flags = pinnedFlags ++ [noTraceFlag]) (hy : plainName y.cls = true) (hw : ws = Cond.code y cc maxL ret :: ws') (hcap : (lg_sl av).length ≤ maxL) (hcat : ∀ w ∈ av, w.category = 1)
    (body : ∀ (p : Program) (e : Env) (s : State) (m : MethodId) (args : Array Value) (below : List Frame) (meth : Method) (c : Code), mg_K p m c cc maxL s args B y.cls D cl Z tys → meth.locks = false → c.exceptionTable.isEmpty = true → e.platform.stackTraces = false → mg_W D cl Z (fun _ => True) ad C s.heap →
      mg_G p l e rm s m args below meth c D cl Z (mg_fr s.heap.size) s.heap maxL (mg_MQT below (mg_QT s.heap.size Xn) args s 1 6 (mg_fr s.heap.size)) ad mg_0 (av.map some) 0 0 [] 0) : mg_T l y ws rm D cl Z B tys av ad C Xn := by
  intro sz
  refine MetFree.of_bodyS (code := cc) (maxLocals := maxL) (ret := ret) hy ?_ ?_
  · intro args s m h hn
    obtain ⟨meth, c, h1, h2, h3, h4, h5, h6, -, -⟩ := Cond.code_spec hn (atoms_spec (ws := ws) h _ (by rw [hw]; exact List.mem_cons_self))
    exact ⟨meth, c, h1, h2, h3, h4, h5, h6⟩
  · intro p e s m args below meth c s₁ Bd hml hP _
    have hh0 : s₁.heap = s.heap := by rw [Bd.state]; rfl
    obtain ⟨rfl, hsz, hW, hK, hZk⟩ := hP
    subst hsz
    have hts : ∀ w ∈ B, w.before av.toArray s = true := fun w h => hZk s (State.WarmedH.refl s) hW.2.2.2.1 w h _
    have hown := findClass_of_methodNamed Bd.named
    have hno := Bd.noHandlers (atoms_spec (ws := ws) Bd.pre _ (by rw [hw]; exact List.mem_cons_self))
    have hl := lv_entry av (n := maxL) hcap
    have hb := body p e s m av.toArray below meth c ⟨⟨Bd.exec, Bd.bytes, hml, hown, hts⟩, hK, hZk⟩ Bd.notSynchronized hno (Launch.traces_off hfl Bd.admits) hW
    rw [lg_entry_eq]
    generalize (lg_sl av ++ List.replicate (maxL - (lg_sl av).length) Slot.unset).toArray = ls at hl ⊢
    obtain ⟨t, a1, o, b1, b2, b3⟩ := hb s.heap [] ls (mg_W.zero hW.2.2.2.1) va_S.rf (mg_L.entry hcat hl) s₁ hh0 (Stand.of_body Bd)
    exact ⟨t, o, a1, b1, b2, ⟨b3.1, b3.2⟩⟩
section MT3
variable {p : Program} {l : Launch} {e : Env} {R : Room} {s : State} {m : MethodId} {args : Array Value} {below : List Frame} {meth : Method} {c : Code} {Q : State → Prop}
variable {D : va_G} {cl : List vw_C} {Z : Nat × Cell} {tys : List (ClassId × FieldType)} {A : Nat → Prop} {H0 : Heap} {nL : Nat} {cc : ByteArray} {Ts : List Cond} {own : String}
variable {ad : mg_Ad} {C : mg_Ct} {L : List (Option Value)} {cells slots pc mc ms : Nat} {st rest st0 : List Value}
/-- new Xn(text) is made, and thrown -/
theorem mg_throw (K : mg_K p m c cc nL s args Ts own D cl Z tys) (hlocks : meth.locks = false) (hno : c.exceptionTable.isEmpty = true) (htr : e.platform.stackTraces = false) {i0 i1 i2 : Nat} {Xn tx : String} (names : List String)
    (h0 : decode cc pc = .ok (.new i0, 3)) (h3 : decode cc (pc + 3) = .ok (.dup, 1)) (h4 : decode cc (pc + 4) = .ok (.ldc i1, 2)) (h6 : decode cc (pc + 6) = .ok (.invokespecial i2, 3)) (h9 : decode cc (pc + 9) = .ok (.athrow, 1))
    (hcl : Cond.classLink own i0 Xn ∈ Ts) (hini : Cond.initialized Xn ∈ Ts) (hfit : Bundle.fit Xn = true) (hnames : ∀ n ∈ names, Bundle.fit n = true) (hw : ∀ a ∈ Bundle.ownAtoms own i2 Xn names, a ∈ Ts) (hstr : Cond.stringRef own i1 tx ∈ Ts)
    (hRf : names.length + 3 < R.frames) (hRl : 1 + (13 * (names.length + 1) + 42) ≤ R.locals) (hRc : 1 ≤ R.cells) (hRs : 6 ≤ R.slots) :
    mg_G p l e R s m args below meth c D cl Z (mg_fr s.heap.size) s.heap nL (mg_MQT below (mg_QT s.heap.size Xn) args s 1 6 (mg_fr s.heap.size)) ad mg_0 L 0 0 [] pc := by
  intro H locs ls hW hS hL
  have hts := K.1.2.2.2.2
  have hall : ∀ a ∈ Bundle.ownAtoms own i2 Xn names, a.before args s = true := fun a ha => hts a (hw a ha)
  have hinst := hall (.instantiable Xn 6) (by simp [Bundle.ownAtoms])
  refine W.newc K.1.1 K.1.2.1 K.1.2.2.2.1 (hts _ hcl) hinst (hts _ hini) rfl h0 (by omega) (by omega) fun cC kC hfC hkC hord hn6 => ?_
  refine lv_dup K.1.1 K.1.2.1 h3 rfl ?_
  obtain ⟨k1, cf1, i1', a1, hk1, hcf1, hcp1, hx1, hr1, hev1⟩ := Cond.stringRef_spec K.1.2.2.2.1 (hts _ hstr)
  intro T hT X
  obtain ⟨U, hst, hrun, hend, hWm, hsame, ce, hce, hown⟩ := X.ctorThrowS K.1.1 htr (own := own) (cls := Xn) (names := names) (ic := i2) K.1.2.2.2.1 hfit hnames hall
    (fun x hx cell hcell => absurd (Array.getElem?_eq_some_iff.mp hcell).1 (Nat.not_lt.mpr (hS.2.2 x hx))) (a := H.size) (cX := cC) (kX := kC) hfC hkC (by rw [hT, Array.getElem?_push_size]) hS.1
    (msg := .ref a1) rfl (g := F0 m (pc + 6) ls [.ref a1, .ref H.size, .ref H.size]) rfl (by rw [K.1.2.2.1]; exact hL.1) rfl rfl (rest := []) rfl (by rw [K.1.2.1]; exact h6) (by rw [K.1.2.1]; exact h9)
    (fun x hx => by have := Array.isEmpty_iff.mp hno; rw [this] at hx; simp at hx) hRf (by simpa [JFrame.monitorRoom, Value.category] using hRl) hlocks
  refine ⟨U, X.ldcString K.1.1 K.1.2.2.2.1 (hts _ hstr) hev1 rfl (by rw [K.1.2.1]; exact h4) _ hst, .threw H.size, hrun, hend, ⟨⟨H.size, ce, rfl, hce, ?_, by rw [hown.vm]; rfl⟩, ?_, ?_⟩, locs, ⟨⟨_, rfl⟩, hWm, hsame.mono (by omega) (by omega)⟩, hS.2.2⟩
  · rw [hWm.alike.findClass]; exact hown.cls
  · exact hsame.2.1
  · intro q hq _
    have hs0 := hsame.weaken (l' := []) (fun x hx hlt => absurd hlt (Nat.not_lt.mpr (hS.2.2 x hx))) (Nat.le_refl _) (Nat.le_refl _)
    rw [Array.getElem?_eq_getElem hq]
    exact State.sameButNew.old_cell hs0 (Array.getElem?_eq_getElem hq)
/-- a static callee throws, and so does this method -/
theorem mg_passS (K : mg_K p m c cc nL s args Ts own D cl Z tys) (hlocks : meth.locks = false) (hno : c.exceptionTable.isEmpty = true) {y : MethodName} {ws : List Cond} {rm : Room} {bytes : ByteArray} {maxL n index : Nat} {ret : Option FieldType} {As : List Value} {ad0 : mg_Ad} {Xn : String}
    (hM : mg_T l y ws rm D cl Z Ts tys As ad0 mg_0 Xn) (cw : CallB R s args own index y bytes maxL ret ws rm 1 6 n ∧ (Cond.static y).before args s = true) (hd : decode cc pc = .ok (.invokestatic index, 3)) (hst : st0 = As.reverse ++ rest) (hn : As.length = n) (hrm : (rest.map fun v => v.category).sum ≤ 8) (hf : 1 ≤ R.cells ∧ 6 ≤ R.slots) :
    mg_G p l e R s m args below meth c D cl Z (mg_fr s.heap.size) s.heap nL (mg_MQT below (mg_QT s.heap.size Xn) args s 1 6 (mg_fr s.heap.size)) ad mg_0 L 0 0 st0 pc := by
  intro H locs ls hW hS hL
  have hW0 : mg_W D cl Z (mg_fr s.heap.size) ad0 mg_0 H := mg_W.zero hW.2.2.2.1
  have hr := mg_runST (l := l) (e := e) (below := below) (meth := meth) (locs := locs) (cells := 0) (slots := 0) (g := F0 m pc ls st0) (As := As) (rest := rest) K.1 (hM H.size) cw ⟨mg_Pc.blind, mg_pre K hW0⟩ rfl hn hL.1 hst (lv_room hrm) hd (by omega)
  intro T hT X
  obtain ⟨x, st₀, t, T', Lc, h0, X', hLc, e1, e2, ⟨⟨x', cell, hx, hcell, hfc, hvm⟩, hz, hk⟩, sT⟩ := hr T hT X
  cases hx
  rw [h0] at hz hk
  obtain ⟨hwalk, hrun, hend, hWm, hsame⟩ := X'.leaveThrown x (g := F0 m pc ls rest) rfl rfl rfl (fun x hx => by have := Array.isEmpty_iff.mp hno; rw [this] at hx; simp at hx) hlocks
  refine ⟨_, sT _ hwalk, .threw x, hrun, hend, ⟨⟨x, cell, rfl, ?_, ?_, hvm⟩, ?_, ?_⟩, locs ++ Lc, ⟨⟨_, rfl⟩, hWm, hsame.mono (by omega) (by omega)⟩, ?_⟩
  · show T'.heap[x]? = _
    rw [e1]; exact hcell
  · show T'.vm.findClass Xn = _
    rw [e2]; exact hfc
  · show _ ≤ T'.heap.size
    rw [e1]; exact Nat.le_trans hS.1 hz
  · intro q h1 h2
    show T'.heap[q]? = _
    rw [e1, hk q (Nat.lt_of_lt_of_le h1 hS.1) (Nat.not_le.mpr (Nat.lt_of_lt_of_le h1 hS.1))]
    exact hS.2.1 q h1 h2
  · intro q hq
    rcases List.mem_append.mp hq with h | h
    · exact hS.2.2 q h
    · exact Nat.le_trans hS.1 (hLc q h)
/-- reading a cell of the method's entry on the road of a throw -/
theorem mg_old {B : Nat → Prop} {H : Heap} {locs : List Loc} {C0 : mg_Ct} (hW0 : mg_W D cl Z B ad C0 s.heap) (hS : va_S (mg_fr s.heap.size) s.heap H locs) {k i : Nat} {x : va_E} (he : C0 k i = some x) : va_P D cl [(ad k i, x)] H := fun j q hq => by
  cases j with
  | zero =>
    cases hq
    have hl := (hW0.1 k i _ he).lt
    exact (hW0.1 k i _ he).kept (hS.2.1 _ hl (Nat.not_le.mpr hl))
  | succ j => simp at hq
theorem mg_getO {B : Nat → Prop} {C0 : mg_Ct} (K : mg_K p m c cc nL s args Ts own D cl Z tys) (hW0 : mg_W D cl Z B ad C0 s.heap) {k i ci index f N : Nat} {fs : List Value} {v : Value} {Cn ref : String} {T : u_T} (hd : decode cc pc = .ok (.getfield index, 3)) (he : C0 k i = some (.inr (ci, fs))) (hc : cl[ci]? = some (Cn, T, N)) (hin : ∀ w ∈ u_ws Cn T N, w ∈ Ts) (hf : f < N) (hlink : Cond.fieldLink own index ref (T f).2.1 (T f).2.2.1 ∈ Ts) (hr : ref = (T f).1) (hv : fs[f]? = some v) (kk : mg_G p l e R s m args below meth c D cl Z (mg_fr s.heap.size) s.heap nL Q ad C L cells slots (v :: st) (pc + 3)) : mg_G p l e R s m args below meth c D cl Z (mg_fr s.heap.size) s.heap nL Q ad C L cells slots (va_rf (some (ad k i)) :: st) pc := by
  intro H locs ls hW hS hL
  subst hr
  exact va_get K.1.1 K.1.2.1 K.1.2.2.2.2 hin K.1.2.2.2.1 K.2.1 (mg_old hW0 hS he) 0 rfl hc f hf (K.1.2.2.2.2 _ hlink) (fun _ h => h) hv hd (kk H locs ls hW hS hL)
theorem mg_aaldO {B : Nat → Prop} {C0 : mg_Ct} (K : mg_K p m c cc nL s args Ts own D cl Z tys) (hW0 : mg_W D cl Z B ad C0 s.heap) {k i n : Nat} {cA : ClassId} {Cn : String} {f : Nat → Option Nat} {x : Int32} (t0 : Nat) (hd : decode cc pc = .ok (.aaload, 1)) (he : C0 k i = some (.inl (cA, n, .inr (.inr (.inr (.inr f)))))) (ht : tys[t0]? = some (cA, .object Cn)) (hin : vp_in x n) (kk : mg_G p l e R s m args below meth c D cl Z (mg_fr s.heap.size) s.heap nL Q ad C L cells slots (va_rf (f x.toNatClampNeg) :: st) (pc + 1)) : mg_G p l e R s m args below meth c D cl Z (mg_fr s.heap.size) s.heap nL Q ad C L cells slots (.int x :: va_rf (some (ad k i)) :: st) pc :=
  fun H locs ls hW hS hL => va_aldq K.1.1 K.1.2.1 K.2.1 (mg_old hW0 hS he) 0 t0 rfl ht hin hd (kk H locs ls hW hS hL)
end MT3
end
section
/-! the raw state: int fields and elements, long elements, references as (kind, index), how many there are of a kind; a kind's shape -/
abbrev mr_Sh : Type := (Nat × List Nat) ⊕ (Nat × Nat × Nat)
abbrev mr_St : Type := (Nat → Nat → Nat → Int32) × (Nat → Nat → Nat → Int64) × (Nat → Nat → Nat → Option (Nat × Nat)) × (Nat → Nat)
def mr_iv (r : mr_St) (k i f : Nat) : Int32 := r.1 k i f
def mr_lv (r : mr_St) (k i f : Nat) : Int64 := r.2.1 k i f
def mr_rv (r : mr_St) (k i f : Nat) : Option (Nat × Nat) := r.2.2.1 k i f
def mr_pn (r : mr_St) (k : Nat) : Nat := r.2.2.2 k
def mr_a (ad : mg_Ad) (x : Option (Nat × Nat)) : Option Nat := x.map (fun q => ad q.1 q.2)
def mr_F : List Nat → Nat → (Nat → Int32) → (Nat → Option Nat) → List Value
  | [], _, _, _ => []
  | t :: r, j, f, g => (if t = 1 then va_rf (g j) else .int (f j)) :: mr_F r (j + 1) f g
def mr_E (tys : List (ClassId × FieldType)) : mr_Sh → (Nat → Int32) → (Nat → Int64) → (Nat → Option Nat) → va_E
  | .inl (ci, fl), f, _, g => .inr (ci, mr_F fl 0 f g)
  | .inr (t0, n, 0), f, _, _ => .inl ((tys.getD t0 (0, .int)).1, n, .inl f)
  | .inr (t0, n, 1), _, h, _ => .inl ((tys.getD t0 (0, .int)).1, n, .inr (.inl h))
  | .inr (t0, n, _ + 2), _, _, g => .inl ((tys.getD t0 (0, .int)).1, n, .inr (.inr (.inr (.inr g))))
def mr_C (tys : List (ClassId × FieldType)) (sh : Nat → mr_Sh) (ad : mg_Ad) (r : mr_St) : mg_Ct := fun k i =>
  if i < mr_pn r k then some (mr_E tys (sh k) (mr_iv r k i) (mr_lv r k i) (fun j => mr_a ad (mr_rv r k i j))) else none
def mr_u3 {α : Type} (f : Nat → Nat → Nat → α) (k i j : Nat) (v : α) : Nat → Nat → Nat → α := fun a b c => if a = k ∧ b = i ∧ c = j then v else f a b c
theorem mr_u3_s {α : Type} (f : Nat → Nat → Nat → α) (k i j : Nat) (v : α) : mr_u3 f k i j v k i j = v := by simp [mr_u3]
theorem mr_u3_n {α : Type} (f : Nat → Nat → Nat → α) (k i j : Nat) (v : α) {a b c : Nat} (h : ¬ (a = k ∧ b = i ∧ c = j)) : mr_u3 f k i j v a b c = f a b c := if_neg h
def mr_sI (r : mr_St) (k i f : Nat) (v : Int32) : mr_St := (mr_u3 r.1 k i f v, r.2)
def mr_sL (r : mr_St) (k i f : Nat) (v : Int64) : mr_St := (r.1, mr_u3 r.2.1 k i f v, r.2.2)
def mr_sR (r : mr_St) (k i f : Nat) (v : Option (Nat × Nat)) : mr_St := (r.1, r.2.1, mr_u3 r.2.2.1 k i f v, r.2.2.2)
/-- one more of a kind, with its defaults -/
def mr_nw (r : mr_St) (k : Nat) : mr_St := (fun a b c => if a = k ∧ b = mr_pn r k then 0 else r.1 a b c, fun a b c => if a = k ∧ b = mr_pn r k then 0 else r.2.1 a b c, fun a b c => if a = k ∧ b = mr_pn r k then none else r.2.2.1 a b c, fun a => if a = k then mr_pn r k + 1 else r.2.2.2 a)
/-- references lead to what is there -/
def mr_wf (r : mr_St) : Prop := ∀ (k i f : Nat) (q : Nat × Nat), i < mr_pn r k → mr_rv r k i f = some q → q.2 < mr_pn r q.1
theorem mr_F_len : ∀ (fl : List Nat) (j : Nat) (f : Nat → Int32) (g : Nat → Option Nat), (mr_F fl j f g).length = fl.length
  | [], _, _, _ => rfl
  | t :: r, j, f, g => by simp [mr_F, mr_F_len r]
theorem mr_F_cg : ∀ (fl : List Nat) (j : Nat) (f f' : Nat → Int32) (g g' : Nat → Option Nat), (∀ x, j ≤ x → f x = f' x) → (∀ x, j ≤ x → g x = g' x) → mr_F fl j f g = mr_F fl j f' g'
  | [], _, _, _, _, _, _, _ => rfl
  | t :: r, j, f, f', g, g', h1, h2 => by
    simp only [mr_F]
    rw [h1 j (Nat.le_refl _), h2 j (Nat.le_refl _), mr_F_cg r (j + 1) f f' g g' (fun x hx => h1 x (by omega)) (fun x hx => h2 x (by omega))]
theorem mr_F_setI : ∀ (fl : List Nat) (j k : Nat) (f : Nat → Int32) (g : Nat → Option Nat) (v : Int32) (f' : Nat → Int32), fl[k]? = some 0 → f' (j + k) = v → (∀ x, x ≠ j + k → f' x = f x) → (mr_F fl j f g).set k (.int v) = mr_F fl j f' g
  | [], _, _, _, _, _, _, h, _, _ => by simp at h
  | t :: r, j, 0, f, g, v, f', h, h1, h2 => by
    simp at h
    subst h
    simp only [mr_F, List.set_cons_zero]
    rw [mr_F_cg r (j + 1) f f' g g (fun x hx => (h2 x (by omega)).symm) (fun _ _ => rfl)]
    rw [Nat.add_zero] at h1
    simp [h1]
  | t :: r, j, k + 1, f, g, v, f', h, h1, h2 => by
    simp at h
    simp only [mr_F, List.set_cons_succ]
    rw [h2 j (by omega), mr_F_setI r (j + 1) k f g v f' h (by rw [← h1]; congr 1; omega) (fun x hx => h2 x (by omega))]
theorem mr_F_setR : ∀ (fl : List Nat) (j k : Nat) (f : Nat → Int32) (g : Nat → Option Nat) (v : Option Nat) (g' : Nat → Option Nat), fl[k]? = some 1 → g' (j + k) = v → (∀ x, x ≠ j + k → g' x = g x) → (mr_F fl j f g).set k (va_rf v) = mr_F fl j f g'
  | [], _, _, _, _, _, _, h, _, _ => by simp at h
  | t :: r, j, 0, f, g, v, g', h, h1, h2 => by
    simp at h
    subst h
    simp only [mr_F, List.set_cons_zero]
    rw [mr_F_cg r (j + 1) f f g g' (fun _ _ => rfl) (fun x hx => (h2 x (by omega)).symm)]
    rw [Nat.add_zero] at h1
    simp [h1]
  | t :: r, j, k + 1, f, g, v, g', h, h1, h2 => by
    simp at h
    simp only [mr_F, List.set_cons_succ]
    rw [h2 j (by omega), mr_F_setR r (j + 1) k f g v g' h (by rw [← h1]; congr 1; omega) (fun x hx => h2 x (by omega))]
section MR1
variable {tys : List (ClassId × FieldType)} {sh : Nat → mr_Sh} {ad : mg_Ad} {r : mr_St} {k i f : Nat}
theorem mr_at (hi : i < mr_pn r k) : mr_C tys sh ad r k i = some (mr_E tys (sh k) (mr_iv r k i) (mr_lv r k i) (fun j => mr_a ad (mr_rv r k i j))) := if_pos hi
theorem mr_no (hi : ¬ i < mr_pn r k) : mr_C tys sh ad r k i = none := if_neg hi
theorem mr_obj {ci : Nat} {fl : List Nat} (hk : sh k = .inl (ci, fl)) (hi : i < mr_pn r k) : mr_C tys sh ad r k i = some (.inr (ci, mr_F fl 0 (mr_iv r k i) (fun j => mr_a ad (mr_rv r k i j)))) := by rw [mr_at hi, hk]; rfl
theorem mr_arI {t0 n : Nat} (hk : sh k = .inr (t0, n, 0)) (hi : i < mr_pn r k) : mr_C tys sh ad r k i = some (.inl ((tys.getD t0 (0, .int)).1, n, .inl (mr_iv r k i))) := by rw [mr_at hi, hk]; rfl
theorem mr_arL {t0 n : Nat} (hk : sh k = .inr (t0, n, 1)) (hi : i < mr_pn r k) : mr_C tys sh ad r k i = some (.inl ((tys.getD t0 (0, .int)).1, n, .inr (.inl (mr_lv r k i)))) := by rw [mr_at hi, hk]; rfl
theorem mr_arR {t0 n : Nat} (hk : sh k = .inr (t0, n, 2)) (hi : i < mr_pn r k) : mr_C tys sh ad r k i = some (.inl ((tys.getD t0 (0, .int)).1, n, .inr (.inr (.inr (.inr (fun j => mr_a ad (mr_rv r k i j))))))) := by rw [mr_at hi, hk]; rfl
theorem mr_tys {t0 : Nat} {ty : FieldType} (h : (tys[t0]?).map (·.2) = some ty) : tys[t0]? = some ((tys.getD t0 (0, .int)).1, ty) := by
  cases hq : tys[t0]? with
  | none => rw [hq] at h; cases h
  | some q =>
    rw [hq] at h
    obtain ⟨a, b⟩ := q
    cases h
    rw [List.getD_eq_getElem?_getD, hq]
    rfl
/-- a cell that is written: the world of the raw state that is written -/
theorem mr_upd {e : va_E} {r' : mr_St} (hi : i < mr_pn r k) (hp : mr_pn r' = mr_pn r) (he : e = mr_E tys (sh k) (mr_iv r' k i) (mr_lv r' k i) (fun j => mr_a ad (mr_rv r' k i j)))
    (ho : ∀ a b, ¬ (a = k ∧ b = i) → mr_iv r' a b = mr_iv r a b ∧ mr_lv r' a b = mr_lv r a b ∧ mr_rv r' a b = mr_rv r a b) : mg_u (mr_C tys sh ad r) k i (some e) = mr_C tys sh ad r' := by
  funext a b
  by_cases h : a = k ∧ b = i
  · obtain ⟨rfl, rfl⟩ := h
    rw [mg_u_s, mr_at (by rw [hp]; exact hi), he]
  · rw [mg_u_n _ _ _ _ h]
    obtain ⟨h1, h2, h3⟩ := ho a b h
    unfold mr_C
    rw [hp, h1, h2, h3]
theorem mr_setI {ci : Nat} {fl : List Nat} {v : Int32} (hk : sh k = .inl (ci, fl)) (hi : i < mr_pn r k) (hf : fl[f]? = some 0) : mg_u (mr_C tys sh ad r) k i (some (.inr (ci, (mr_F fl 0 (mr_iv r k i) (fun j => mr_a ad (mr_rv r k i j))).set f (.int v)))) = mr_C tys sh ad (mr_sI r k i f v) := by
  refine mr_upd hi rfl ?_ ?_
  · rw [hk]
    show _ = Sum.inr (ci, mr_F fl 0 _ _)
    rw [mr_F_setI fl 0 f (mr_iv r k i) (fun j => mr_a ad (mr_rv r k i j)) v (mr_iv (mr_sI r k i f v) k i) hf (by rw [Nat.zero_add]; exact mr_u3_s _ _ _ _ _) (fun x hx => mr_u3_n _ _ _ _ _ (fun h => hx (by rw [Nat.zero_add]; exact h.2.2)))]
    rfl
  · intro a b h
    exact ⟨funext fun x => mr_u3_n _ _ _ _ _ (fun z => h ⟨z.1, z.2.1⟩), rfl, rfl⟩
theorem mr_setR {ci : Nat} {fl : List Nat} {v : Option (Nat × Nat)} (hk : sh k = .inl (ci, fl)) (hi : i < mr_pn r k) (hf : fl[f]? = some 1) : mg_u (mr_C tys sh ad r) k i (some (.inr (ci, (mr_F fl 0 (mr_iv r k i) (fun j => mr_a ad (mr_rv r k i j))).set f (va_rf (mr_a ad v))))) = mr_C tys sh ad (mr_sR r k i f v) := by
  refine mr_upd hi rfl ?_ ?_
  · rw [hk]
    show _ = Sum.inr (ci, mr_F fl 0 _ _)
    rw [mr_F_setR fl 0 f (mr_iv r k i) (fun j => mr_a ad (mr_rv r k i j)) (mr_a ad v) (fun j => mr_a ad (mr_rv (mr_sR r k i f v) k i j)) hf (by rw [Nat.zero_add]; exact congrArg (mr_a ad) (mr_u3_s _ _ _ _ _)) (fun x hx => congrArg (mr_a ad) (mr_u3_n _ _ _ _ _ (fun h => hx (by rw [Nat.zero_add]; exact h.2.2))))]
    rfl
  · intro a b h
    exact ⟨rfl, rfl, funext fun x => mr_u3_n _ _ _ _ _ (fun z => h ⟨z.1, z.2.1⟩)⟩
theorem mr_staI {t0 n x : Nat} {v : Int32} (hk : sh k = .inr (t0, n, 0)) (hi : i < mr_pn r k) : mg_u (mr_C tys sh ad r) k i (some (.inl ((tys.getD t0 (0, .int)).1, n, .inl (upd (mr_iv r k i) x v)))) = mr_C tys sh ad (mr_sI r k i x v) := by
  refine mr_upd hi rfl ?_ ?_
  · rw [hk]
    show _ = Sum.inl (_, n, Sum.inl _)
    congr 4
    funext j
    by_cases hj : j = x
    · subst hj
      exact (by simp [upd] : upd (mr_iv r k i) j v j = v).trans (mr_u3_s _ _ _ _ _).symm
    · exact (by simp [upd, hj] : upd (mr_iv r k i) x v j = mr_iv r k i j).trans (mr_u3_n _ _ _ _ _ (fun h => hj h.2.2)).symm
  · intro a b h
    exact ⟨funext fun x => mr_u3_n _ _ _ _ _ (fun z => h ⟨z.1, z.2.1⟩), rfl, rfl⟩
theorem mr_staL {t0 n x : Nat} {v : Int64} (hk : sh k = .inr (t0, n, 1)) (hi : i < mr_pn r k) : mg_u (mr_C tys sh ad r) k i (some (.inl ((tys.getD t0 (0, .int)).1, n, .inr (.inl (vp_updL (mr_lv r k i) x v))))) = mr_C tys sh ad (mr_sL r k i x v) := by
  refine mr_upd hi rfl ?_ ?_
  · rw [hk]
    show _ = Sum.inl (_, n, Sum.inr (Sum.inl _))
    congr 5
    funext j
    by_cases hj : j = x
    · subst hj
      exact (by simp [vp_updL] : vp_updL (mr_lv r k i) j v j = v).trans (mr_u3_s _ _ _ _ _).symm
    · exact (by simp [vp_updL, hj] : vp_updL (mr_lv r k i) x v j = mr_lv r k i j).trans (mr_u3_n _ _ _ _ _ (fun h => hj h.2.2)).symm
  · intro a b h
    exact ⟨rfl, funext fun x => mr_u3_n _ _ _ _ _ (fun z => h ⟨z.1, z.2.1⟩), rfl⟩
theorem mr_staR {t0 n x : Nat} {v : Option (Nat × Nat)} (hk : sh k = .inr (t0, n, 2)) (hi : i < mr_pn r k) : mg_u (mr_C tys sh ad r) k i (some (.inl ((tys.getD t0 (0, .int)).1, n, .inr (.inr (.inr (.inr (va_up (fun j => mr_a ad (mr_rv r k i j)) x (mr_a ad v)))))))) = mr_C tys sh ad (mr_sR r k i x v) := by
  refine mr_upd hi rfl ?_ ?_
  · rw [hk]
    show _ = Sum.inl (_, n, Sum.inr (Sum.inr (Sum.inr (Sum.inr _))))
    congr 7
    funext j
    by_cases hj : j = x
    · subst hj
      exact (by simp [va_up] : va_up (fun j => mr_a ad (mr_rv r k i j)) j (mr_a ad v) j = mr_a ad v).trans (congrArg (mr_a ad) (mr_u3_s _ _ _ _ _)).symm
    · exact (by simp [va_up, hj] : va_up (fun j => mr_a ad (mr_rv r k i j)) x (mr_a ad v) j = mr_a ad (mr_rv r k i j)).trans (congrArg (mr_a ad) (mr_u3_n _ _ _ _ _ (fun h => hj h.2.2))).symm
  · intro a b h
    exact ⟨rfl, rfl, funext fun x => mr_u3_n _ _ _ _ _ (fun z => h ⟨z.1, z.2.1⟩)⟩
theorem mr_wf.a {ad' : mg_Ad} (h : mr_wf r) (ha : ∀ a b, b < mr_pn r a → ad' a b = ad a b) {a b c : Nat} (hb : b < mr_pn r a) : mr_a ad' (mr_rv r a b c) = mr_a ad (mr_rv r a b c) := by
  cases hq : mr_rv r a b c with
  | none => rfl
  | some q => exact congrArg some (ha _ _ (h a b c q hb hq))
/-- other addresses of what isn't there -/
theorem mr_adC {ad' : mg_Ad} (h : mr_wf r) (ha : ∀ a b, b < mr_pn r a → ad' a b = ad a b) : mr_C tys sh ad' r = mr_C tys sh ad r := by
  funext a b
  by_cases hb : b < mr_pn r a
  · rw [mr_at hb, mr_at hb]
    congr 2
    funext c
    exact h.a ha hb
  · rw [mr_no hb, mr_no hb]
/-- a cell that is made -/
theorem mr_made {q : Nat} {e : va_E} (h : mr_wf r) (he : e = mr_E tys (sh k) (fun _ => 0) (fun _ => 0) (fun _ => none)) : mg_u (mr_C tys sh ad r) k (mr_pn r k) (some e) = mr_C tys sh (mg_u ad k (mr_pn r k) q) (mr_nw r k) := by
  have ha : ∀ a b, b < mr_pn r a → mg_u ad k (mr_pn r k) q a b = ad a b := fun a b hb => mg_u_n _ _ _ _ (fun z => by obtain ⟨rfl, rfl⟩ := z; exact Nat.lt_irrefl _ hb)
  funext a b
  by_cases hab : a = k ∧ b = mr_pn r k
  · obtain ⟨rfl, rfl⟩ := hab
    have hp : mr_pn r a < mr_pn (mr_nw r a) a := by simp [mr_pn, mr_nw]
    rw [mg_u_s, mr_at hp, he]
    congr 2
    · funext c; simp [mr_iv, mr_nw]
    · funext c; simp [mr_lv, mr_nw]
    · funext c; simp [mr_rv, mr_nw, mr_a]
  · rw [mg_u_n _ _ _ _ hab]
    have hpe : (b < mr_pn (mr_nw r k) a) = (b < mr_pn r a) := by
      by_cases hak : a = k
      · subst hak
        have hb : b ≠ mr_pn r a := fun z => hab ⟨rfl, z⟩
        have : mr_pn (mr_nw r a) a = mr_pn r a + 1 := by simp [mr_pn, mr_nw]
        rw [this]
        exact propext ⟨fun _ => by omega, fun _ => by omega⟩
      · have : mr_pn (mr_nw r k) a = mr_pn r a := by simp [mr_pn, mr_nw, hak]
        rw [this]
    have hI : mr_iv (mr_nw r k) a b = mr_iv r a b := by funext c; simp only [mr_iv, mr_nw]; rw [if_neg hab]
    have hL : mr_lv (mr_nw r k) a b = mr_lv r a b := by funext c; simp only [mr_lv, mr_nw]; rw [if_neg hab]
    have hR : mr_rv (mr_nw r k) a b = mr_rv r a b := by funext c; simp only [mr_rv, mr_nw]; rw [if_neg hab]
    by_cases hb : b < mr_pn r a
    · rw [mr_at hb, mr_at (by rw [hpe]; exact hb), hI, hL, hR]
      congr 2
      funext c
      exact (h.a ha hb).symm
    · rw [mr_no hb, mr_no (by rw [hpe]; exact hb)]
theorem mr_nw_pn (r : mr_St) (k a : Nat) : mr_pn (mr_nw r k) a = if a = k then mr_pn r k + 1 else mr_pn r a := rfl
theorem mr_wf.nw (h : mr_wf r) (k : Nat) : mr_wf (mr_nw r k) := by
  intro a b c q hb hq
  rw [mr_nw_pn] at hb ⊢
  simp only [mr_rv, mr_nw] at hq
  by_cases hab : a = k ∧ b = mr_pn r k
  · rw [if_pos hab] at hq; cases hq
  · rw [if_neg hab] at hq
    have hb' : b < mr_pn r a := by
      by_cases hak : a = k
      · subst hak
        rw [if_pos rfl] at hb
        have : b ≠ mr_pn r a := fun z => hab ⟨rfl, z⟩
        omega
      · rwa [if_neg hak] at hb
    have := h a b c q hb' hq
    split
    · next he => rw [he] at this; omega
    · exact this
theorem mr_wf.sI (h : mr_wf r) (k i f : Nat) (v : Int32) : mr_wf (mr_sI r k i f v) := h
theorem mr_wf.sL (h : mr_wf r) (k i f : Nat) (v : Int64) : mr_wf (mr_sL r k i f v) := h
theorem mr_wf.sR (h : mr_wf r) (k i f : Nat) (v : Option (Nat × Nat)) (hv : ∀ q, v = some q → q.2 < mr_pn r q.1) : mr_wf (mr_sR r k i f v) := by
  intro a b c q hb hq
  by_cases hz : a = k ∧ b = i ∧ c = f
  · obtain ⟨rfl, rfl, rfl⟩ := hz
    exact hv q ((mr_u3_s _ _ _ _ _).symm.trans hq)
  · exact h a b c q hb ((mr_u3_n _ _ _ _ _ hz).symm.trans hq)
end MR1
end
section
/-! rows over the raw state -/
theorem mr_F_getI : ∀ (fl : List Nat) (j k t : Nat) (f : Nat → Int32) (g : Nat → Option Nat), fl[k]? = some t → t ≠ 1 → (mr_F fl j f g)[k]? = some (.int (f (j + k)))
  | [], _, _, _, _, _, h, _ => by simp at h
  | t :: r, j, 0, _, f, g, h, ht => by
    simp at h
    subst h
    simp [mr_F, ht]
  | t :: r, j, k + 1, u, f, g, h, ht => by
    simp at h
    simp only [mr_F, List.getElem?_cons_succ]
    rw [mr_F_getI r (j + 1) k u f g h ht]
    congr 3
    omega
theorem mr_F_getR : ∀ (fl : List Nat) (j k : Nat) (f : Nat → Int32) (g : Nat → Option Nat), fl[k]? = some 1 → (mr_F fl j f g)[k]? = some (va_rf (g (j + k)))
  | [], _, _, _, _, h => by simp at h
  | t :: r, j, 0, f, g, h => by
    simp at h
    subst h
    simp [mr_F]
  | t :: r, j, k + 1, f, g, h => by
    simp at h
    simp only [mr_F, List.getElem?_cons_succ]
    rw [mr_F_getR r (j + 1) k f g h]
    congr 3
    omega
/-- a field, as an instruction of the class own names it: of the kind k, in place f, t 0 an int, 1 a reference -/
def mr_Fd (B : List Cond) (cl : List vw_C) (sh : Nat → mr_Sh) (own : String) (index k f t : Nat) (ty : FieldType) (fin : Nat) : Prop :=
  ∃ (ci : Nat) (fl : List Nat) (Cn : String) (T : u_T) (N : Nat) (ty0 : Nat → FieldType), sh k = .inl (ci, fl) ∧ cl[ci]? = some (Cn, T, N) ∧ (∀ w ∈ u_ws Cn T N, w ∈ B) ∧ (∀ j, j < N → parseFieldDescriptor (T j).2.2.1 = some (ty0 j)) ∧
    (∀ a, a < N → ∀ b, b < N → a ≠ b → (T a).2.1 ≠ (T b).2.1) ∧ f < N ∧ Cond.fieldLink own index (T f).1 (T f).2.1 (T f).2.2.1 ∈ B ∧ fl[f]? = some t ∧ fl.length = N ∧ (T f).2.2.2 = (fin != 0) ∧ (fin = 1 → (T f).1 = own) ∧ ty0 f = ty
/-- a class that an instruction of the class own makes -/
def mr_Nd (B : List Cond) (cl : List vw_C) (sh : Nat → mr_Sh) (own : String) (index k N : Nat) : Prop :=
  ∃ (ci : Nat) (fl : List Nat) (Cn : String) (T : u_T) (ty0 : Nat → FieldType), sh k = .inl (ci, fl) ∧ cl[ci]? = some (Cn, T, N) ∧ (∀ w ∈ u_ws Cn T N, w ∈ B) ∧ (∀ j, j < N → parseFieldDescriptor (T j).2.2.1 = some (ty0 j)) ∧
    Cond.classLink own index Cn ∈ B ∧ Cond.instantiable Cn N ∈ B ∧ Cond.initialized Cn ∈ B ∧ ∀ j, j < N → defaultValue (ty0 j) = vp_V (mr_F fl 0 (fun _ => 0) (fun _ => none)) j
section MR2
variable {p : Program} {l : Launch} {e : Env} {R : Room} {s : State} {m : MethodId} {args : Array Value} {below : List Frame} {meth : Method} {c : Code} {Q : State → Prop}
variable {D : va_G} {cl : List vw_C} {Z : Nat × Cell} {tys : List (ClassId × FieldType)} {A : Nat → Prop} {H0 : Heap} {nL : Nat} {cc : ByteArray} {Ts : List Cond} {own : String}
variable {ad : mg_Ad} {sh : Nat → mr_Sh} {r : mr_St} {L : List (Option Value)} {cells slots pc : Nat} {st : List Value}
theorem mr_getI (K : mg_K p m c cc nL s args Ts own D cl Z tys) {k i index f t : Nat} {ty : FieldType} {fin : Nat} {v : Int32} (hF : mr_Fd Ts cl sh own index k f t ty fin) (hd : decode cc pc = .ok (.getfield index, 3)) (ht : t ≠ 1) (hi : i < mr_pn r k) (hv : mr_iv r k i f = v) (kk : mg_G p l e R s m args below meth c D cl Z A H0 nL Q ad (mr_C tys sh ad r) L cells slots (.int v :: st) (pc + 3)) : mg_G p l e R s m args below meth c D cl Z A H0 nL Q ad (mr_C tys sh ad r) L cells slots (va_rf (some (ad k i)) :: st) pc := by
  obtain ⟨ci, fl, Cn, T, N, ty0, h1, h2, h3, h4, h5, h6, h7, h8, h9, h10, h11, h12⟩ := hF
  subst hv
  exact mg_get K hd (mr_obj h1 hi) h2 h3 h6 h7 rfl ((mr_F_getI fl 0 f t _ _ h8 ht).trans (by rw [Nat.zero_add])) kk
theorem mr_getR (K : mg_K p m c cc nL s args Ts own D cl Z tys) {k i index f : Nat} {ty : FieldType} {fin : Nat} {v : Option (Nat × Nat)} (hF : mr_Fd Ts cl sh own index k f 1 ty fin) (hd : decode cc pc = .ok (.getfield index, 3)) (hi : i < mr_pn r k) (hv : mr_rv r k i f = v) (kk : mg_G p l e R s m args below meth c D cl Z A H0 nL Q ad (mr_C tys sh ad r) L cells slots (va_rf (mr_a ad v) :: st) (pc + 3)) : mg_G p l e R s m args below meth c D cl Z A H0 nL Q ad (mr_C tys sh ad r) L cells slots (va_rf (some (ad k i)) :: st) pc := by
  obtain ⟨ci, fl, Cn, T, N, ty0, h1, h2, h3, h4, h5, h6, h7, h8, h9, h10, h11, h12⟩ := hF
  subst hv
  exact mg_get K hd (mr_obj h1 hi) h2 h3 h6 h7 rfl ((mr_F_getR fl 0 f _ _ h8).trans (by rw [Nat.zero_add])) kk
theorem mr_putI (K : mg_K p m c cc nL s args Ts own D cl Z tys) {k i index f : Nat} {v : Int32} (hF : mr_Fd Ts cl sh own index k f 0 .int 0) (hd : decode cc pc = .ok (.putfield index, 3)) (hi : i < mr_pn r k) (kk : mg_G p l e R s m args below meth c D cl Z A H0 nL Q ad (mr_C tys sh ad (mr_sI r k i f v)) L cells slots st (pc + 3)) : mg_G p l e R s m args below meth c D cl Z A H0 nL Q ad (mr_C tys sh ad r) L cells slots (.int v :: va_rf (some (ad k i)) :: st) pc := by
  obtain ⟨ci, fl, Cn, T, N, ty0, h1, h2, h3, h4, h5, h6, h7, h8, h9, h10, h11, h12⟩ := hF
  exact mg_put K hd (mr_obj h1 hi) h2 h3 h4 h5 h6 h7 rfl h10 h12 rfl rfl (by rw [mr_F_len, h9]; exact h6) (mg_eqC (mr_setI h1 hi h8) kk)
theorem mr_putZ (K : mg_K p m c cc nL s args Ts own D cl Z tys) {k i index f : Nat} {v : Int32} (hF : mr_Fd Ts cl sh own index k f 0 .boolean 0) (hd : decode cc pc = .ok (.putfield index, 3)) (hi : i < mr_pn r k) (hn : narrow .boolean (.int v) = .int v) (hfit : fits .boolean (.int v) = true) (kk : mg_G p l e R s m args below meth c D cl Z A H0 nL Q ad (mr_C tys sh ad (mr_sI r k i f v)) L cells slots st (pc + 3)) : mg_G p l e R s m args below meth c D cl Z A H0 nL Q ad (mr_C tys sh ad r) L cells slots (.int v :: va_rf (some (ad k i)) :: st) pc := by
  obtain ⟨ci, fl, Cn, T, N, ty0, h1, h2, h3, h4, h5, h6, h7, h8, h9, h10, h11, h12⟩ := hF
  exact mg_put K hd (mr_obj h1 hi) h2 h3 h4 h5 h6 h7 rfl h10 h12 hn hfit (by rw [mr_F_len, h9]; exact h6) (mg_eqC (mr_setI h1 hi h8) kk)
theorem mr_putR (K : mg_K p m c cc nL s args Ts own D cl Z tys) {k i index f : Nat} {ty : FieldType} {v : Option (Nat × Nat)} (hF : mr_Fd Ts cl sh own index k f 1 ty 0) (hd : decode cc pc = .ok (.putfield index, 3)) (hi : i < mr_pn r k) (hty : ∀ x, narrow ty (va_rf x) = va_rf x ∧ fits ty (va_rf x) = true) (kk : mg_G p l e R s m args below meth c D cl Z A H0 nL Q ad (mr_C tys sh ad (mr_sR r k i f v)) L cells slots st (pc + 3)) : mg_G p l e R s m args below meth c D cl Z A H0 nL Q ad (mr_C tys sh ad r) L cells slots (va_rf (mr_a ad v) :: va_rf (some (ad k i)) :: st) pc := by
  obtain ⟨ci, fl, Cn, T, N, ty0, h1, h2, h3, h4, h5, h6, h7, h8, h9, h10, h11, h12⟩ := hF
  exact mg_put K hd (mr_obj h1 hi) h2 h3 h4 h5 h6 h7 rfl h10 h12 (hty _).1 (hty _).2 (by rw [mr_F_len, h9]; exact h6) (mg_eqC (mr_setR h1 hi h8) kk)
theorem mr_putFI (K : mg_K p m c cc nL s args Ts own D cl Z tys) {k i index f : Nat} {v : Int32} (hin2 : meth.name = "<init>") (hF : mr_Fd Ts cl sh own index k f 0 .int 1) (hd : decode cc pc = .ok (.putfield index, 3)) (hi : i < mr_pn r k) (kk : mg_G p l e R s m args below meth c D cl Z A H0 nL Q ad (mr_C tys sh ad (mr_sI r k i f v)) L cells slots st (pc + 3)) : mg_G p l e R s m args below meth c D cl Z A H0 nL Q ad (mr_C tys sh ad r) L cells slots (.int v :: va_rf (some (ad k i)) :: st) pc := by
  obtain ⟨ci, fl, Cn, T, N, ty0, h1, h2, h3, h4, h5, h6, h7, h8, h9, h10, h11, h12⟩ := hF
  exact mg_putF K hin2 hd (mr_obj h1 hi) h2 h3 h4 h5 h6 h7 rfl h10 (h11 rfl) h12 rfl rfl (by rw [mr_F_len, h9]; exact h6) (mg_eqC (mr_setI h1 hi h8) kk)
theorem mr_putFR (K : mg_K p m c cc nL s args Ts own D cl Z tys) {k i index f : Nat} {ty : FieldType} {v : Option (Nat × Nat)} (hin2 : meth.name = "<init>") (hF : mr_Fd Ts cl sh own index k f 1 ty 1) (hd : decode cc pc = .ok (.putfield index, 3)) (hi : i < mr_pn r k) (hty : ∀ x, narrow ty (va_rf x) = va_rf x ∧ fits ty (va_rf x) = true) (kk : mg_G p l e R s m args below meth c D cl Z A H0 nL Q ad (mr_C tys sh ad (mr_sR r k i f v)) L cells slots st (pc + 3)) : mg_G p l e R s m args below meth c D cl Z A H0 nL Q ad (mr_C tys sh ad r) L cells slots (va_rf (mr_a ad v) :: va_rf (some (ad k i)) :: st) pc := by
  obtain ⟨ci, fl, Cn, T, N, ty0, h1, h2, h3, h4, h5, h6, h7, h8, h9, h10, h11, h12⟩ := hF
  exact mg_putF K hin2 hd (mr_obj h1 hi) h2 h3 h4 h5 h6 h7 rfl h10 (h11 rfl) h12 (hty _).1 (hty _).2 (by rw [mr_F_len, h9]; exact h6) (mg_eqC (mr_setR h1 hi h8) kk)
theorem mr_iald (K : mg_K p m c cc nL s args Ts own D cl Z tys) {k i n t0 : Nat} {x v : Int32} (hk : sh k = .inr (t0, n, 0)) (ht : (tys[t0]?).map (·.2) = some .int) (hd : decode cc pc = .ok (.iaload, 1)) (hi : i < mr_pn r k) (hin : vp_in x n) (hv : mr_iv r k i x.toNatClampNeg = v) (kk : mg_G p l e R s m args below meth c D cl Z A H0 nL Q ad (mr_C tys sh ad r) L cells slots (.int v :: st) (pc + 1)) : mg_G p l e R s m args below meth c D cl Z A H0 nL Q ad (mr_C tys sh ad r) L cells slots (.int x :: va_rf (some (ad k i)) :: st) pc := by
  subst hv
  exact mg_iald K t0 hd (mr_arI hk hi) (mr_tys ht) hin kk
theorem mr_zald (K : mg_K p m c cc nL s args Ts own D cl Z tys) {k i n t0 : Nat} {x v : Int32} (hk : sh k = .inr (t0, n, 0)) (ht : (tys[t0]?).map (·.2) = some .boolean) (hd : decode cc pc = .ok (.baload, 1)) (hi : i < mr_pn r k) (hin : vp_in x n) (hv : mr_iv r k i x.toNatClampNeg = v) (kk : mg_G p l e R s m args below meth c D cl Z A H0 nL Q ad (mr_C tys sh ad r) L cells slots (.int v :: st) (pc + 1)) : mg_G p l e R s m args below meth c D cl Z A H0 nL Q ad (mr_C tys sh ad r) L cells slots (.int x :: va_rf (some (ad k i)) :: st) pc := by
  subst hv
  exact mg_zald K t0 hd (mr_arI hk hi) (mr_tys ht) hin kk
theorem mr_lald (K : mg_K p m c cc nL s args Ts own D cl Z tys) {k i n t0 : Nat} {x : Int32} (hk : sh k = .inr (t0, n, 1)) (ht : (tys[t0]?).map (·.2) = some .long) (hd : decode cc pc = .ok (.laload, 1)) (hi : i < mr_pn r k) (hin : vp_in x n) (kk : mg_G p l e R s m args below meth c D cl Z A H0 nL Q ad (mr_C tys sh ad r) L cells slots (.long (mr_lv r k i x.toNatClampNeg) :: st) (pc + 1)) : mg_G p l e R s m args below meth c D cl Z A H0 nL Q ad (mr_C tys sh ad r) L cells slots (.int x :: va_rf (some (ad k i)) :: st) pc :=
  mg_lald K t0 hd (mr_arL hk hi) (mr_tys ht) hin kk
theorem mr_aald (K : mg_K p m c cc nL s args Ts own D cl Z tys) {k i n t0 : Nat} {Cn : String} {x : Int32} {v : Option (Nat × Nat)} (hk : sh k = .inr (t0, n, 2)) (ht : (tys[t0]?).map (·.2) = some (.object Cn)) (hd : decode cc pc = .ok (.aaload, 1)) (hi : i < mr_pn r k) (hin : vp_in x n) (hv : mr_rv r k i x.toNatClampNeg = v) (kk : mg_G p l e R s m args below meth c D cl Z A H0 nL Q ad (mr_C tys sh ad r) L cells slots (va_rf (mr_a ad v) :: st) (pc + 1)) : mg_G p l e R s m args below meth c D cl Z A H0 nL Q ad (mr_C tys sh ad r) L cells slots (.int x :: va_rf (some (ad k i)) :: st) pc := by
  subst hv
  exact mg_aald K t0 hd (mr_arR hk hi) (mr_tys ht) hin kk
theorem mr_alenI (K : mg_K p m c cc nL s args Ts own D cl Z tys) {k i n t0 : Nat} {ty : FieldType} {v : Int32} (hk : sh k = .inr (t0, n, 0)) (ht : (tys[t0]?).map (·.2) = some ty) (hd : decode cc pc = .ok (.arraylength, 1)) (hi : i < mr_pn r k) (hv : Int32.ofNat n = v) (kk : mg_G p l e R s m args below meth c D cl Z A H0 nL Q ad (mr_C tys sh ad r) L cells slots (.int v :: st) (pc + 1)) : mg_G p l e R s m args below meth c D cl Z A H0 nL Q ad (mr_C tys sh ad r) L cells slots (va_rf (some (ad k i)) :: st) pc :=
  mg_alen K t0 hd (mr_arI hk hi) (mr_tys ht) hv kk
theorem mr_alenR (K : mg_K p m c cc nL s args Ts own D cl Z tys) {k i n t0 : Nat} {ty : FieldType} {v : Int32} (hk : sh k = .inr (t0, n, 2)) (ht : (tys[t0]?).map (·.2) = some ty) (hd : decode cc pc = .ok (.arraylength, 1)) (hi : i < mr_pn r k) (hv : Int32.ofNat n = v) (kk : mg_G p l e R s m args below meth c D cl Z A H0 nL Q ad (mr_C tys sh ad r) L cells slots (.int v :: st) (pc + 1)) : mg_G p l e R s m args below meth c D cl Z A H0 nL Q ad (mr_C tys sh ad r) L cells slots (va_rf (some (ad k i)) :: st) pc :=
  mg_alen K t0 hd (mr_arR hk hi) (mr_tys ht) hv kk
theorem mr_iast (K : mg_K p m c cc nL s args Ts own D cl Z tys) {k i n t0 : Nat} {x y : Int32} (hk : sh k = .inr (t0, n, 0)) (ht : (tys[t0]?).map (·.2) = some .int) (hd : decode cc pc = .ok (.iastore, 1)) (hi : i < mr_pn r k) (hin : vp_in x n) (kk : mg_G p l e R s m args below meth c D cl Z A H0 nL Q ad (mr_C tys sh ad (mr_sI r k i x.toNatClampNeg y)) L cells slots st (pc + 1)) : mg_G p l e R s m args below meth c D cl Z A H0 nL Q ad (mr_C tys sh ad r) L cells slots (.int y :: .int x :: va_rf (some (ad k i)) :: st) pc :=
  mg_iast K t0 hd (mr_arI hk hi) (mr_tys ht) hin (mg_eqC (mr_staI hk hi) kk)
theorem mr_zast (K : mg_K p m c cc nL s args Ts own D cl Z tys) {k i n t0 : Nat} {x y v : Int32} (hk : sh k = .inr (t0, n, 0)) (ht : (tys[t0]?).map (·.2) = some .boolean) (hd : decode cc pc = .ok (.bastore, 1)) (hi : i < mr_pn r k) (hin : vp_in x n) (hv : vp_nar .boolean y = v) (kk : mg_G p l e R s m args below meth c D cl Z A H0 nL Q ad (mr_C tys sh ad (mr_sI r k i x.toNatClampNeg v)) L cells slots st (pc + 1)) : mg_G p l e R s m args below meth c D cl Z A H0 nL Q ad (mr_C tys sh ad r) L cells slots (.int y :: .int x :: va_rf (some (ad k i)) :: st) pc := by
  subst hv
  exact mg_zast K t0 hd (mr_arI hk hi) (mr_tys ht) hin (mg_eqC (mr_staI hk hi) kk)
theorem mr_last (K : mg_K p m c cc nL s args Ts own D cl Z tys) {k i n t0 : Nat} {x : Int32} {y : Int64} (hk : sh k = .inr (t0, n, 1)) (ht : (tys[t0]?).map (·.2) = some .long) (hd : decode cc pc = .ok (.lastore, 1)) (hi : i < mr_pn r k) (hin : vp_in x n) (kk : mg_G p l e R s m args below meth c D cl Z A H0 nL Q ad (mr_C tys sh ad (mr_sL r k i x.toNatClampNeg y)) L cells slots st (pc + 1)) : mg_G p l e R s m args below meth c D cl Z A H0 nL Q ad (mr_C tys sh ad r) L cells slots (.long y :: .int x :: va_rf (some (ad k i)) :: st) pc :=
  mg_last K t0 hd (mr_arL hk hi) (mr_tys ht) hin (mg_eqC (mr_staL hk hi) kk)
theorem mr_aast (K : mg_K p m c cc nL s args Ts own D cl Z tys) {k i n t0 k2 i2 ci N : Nat} {fl : List Nat} {Cn : String} {T : u_T} {x : Int32} (hk : sh k = .inr (t0, n, 2)) (ht : (tys[t0]?).map (·.2) = some (.object Cn)) (hk2 : sh k2 = .inl (ci, fl)) (hc : cl[ci]? = some (Cn, T, N)) (hd : decode cc pc = .ok (.aastore, 1)) (hi : i < mr_pn r k) (hi2 : i2 < mr_pn r k2) (hin : vp_in x n) (kk : mg_G p l e R s m args below meth c D cl Z A H0 nL Q ad (mr_C tys sh ad (mr_sR r k i x.toNatClampNeg (some (k2, i2)))) L cells slots st (pc + 1)) : mg_G p l e R s m args below meth c D cl Z A H0 nL Q ad (mr_C tys sh ad r) L cells slots (va_rf (some (ad k2 i2)) :: .int x :: va_rf (some (ad k i)) :: st) pc :=
  mg_aast K t0 hd (mr_arR hk hi) (mr_tys ht) (mr_obj hk2 hi2) hc hin (mg_eqC (mr_staR (v := some (k2, i2)) hk hi) kk)
theorem mr_aastN (K : mg_K p m c cc nL s args Ts own D cl Z tys) {k i n t0 : Nat} {Cn : String} {x : Int32} (hk : sh k = .inr (t0, n, 2)) (ht : (tys[t0]?).map (·.2) = some (.object Cn)) (hd : decode cc pc = .ok (.aastore, 1)) (hi : i < mr_pn r k) (hin : vp_in x n) (kk : mg_G p l e R s m args below meth c D cl Z A H0 nL Q ad (mr_C tys sh ad (mr_sR r k i x.toNatClampNeg none)) L cells slots st (pc + 1)) : mg_G p l e R s m args below meth c D cl Z A H0 nL Q ad (mr_C tys sh ad r) L cells slots (va_rf none :: .int x :: va_rf (some (ad k i)) :: st) pc :=
  mg_aastN K t0 hd (mr_arR hk hi) (mr_tys ht) hin (mg_eqC (mr_staR (v := none) hk hi) kk)
theorem mr_new (K : mg_K p m c cc nL s args Ts own D cl Z tys) {index N : Nat} (k : Nat) (hA : ∀ q, H0.size ≤ q → A q) (hwf : mr_wf r) (hN : mr_Nd Ts cl sh own index k N) (hd : decode cc pc = .ok (.new index, 3)) (hcells : cells + 1 ≤ R.cells) (hslots : slots + N ≤ R.slots) (kk : ∀ ad' : mg_Ad, (∀ a b, b < mr_pn r a → ad' a b = ad a b) → mg_G p l e R s m args below meth c D cl Z A H0 nL Q ad' (mr_C tys sh ad' (mr_nw r k)) L (cells + 1) (slots + N) (va_rf (some (ad' k (mr_pn r k))) :: st) (pc + 3)) : mg_G p l e R s m args below meth c D cl Z A H0 nL Q ad (mr_C tys sh ad r) L cells slots st pc := by
  obtain ⟨ci, fl, Cn, T, ty0, h1, h2, h3, h4, h5, h6, h7, h8⟩ := hN
  refine mg_new K k (mr_pn r k) hA hd (mr_no (Nat.lt_irrefl _)) h2 h3 h4 h5 h6 h7 h8 hcells hslots fun q => ?_
  have k2 := kk (mg_u ad k (mr_pn r k) q) (fun a b hb => mg_u_n _ _ _ _ (fun z => by obtain ⟨rfl, rfl⟩ := z; exact Nat.lt_irrefl _ hb))
  rw [mg_u_s] at k2
  exact mg_eqC (mr_made hwf (by rw [h1]; rfl)) k2
theorem mr_newI (K : mg_K p m c cc nL s args Ts own D cl Z tys) {n : Int32} {N' t0 : Nat} {ty : FieldType} {atype : ArrayType} (k : Nat) (hA : ∀ q, H0.size ≤ q → A q) (hwf : mr_wf r) (hk : sh k = .inr (t0, N', 0)) (ht : (tys[t0]?).map (·.2) = some ty) (hd : decode cc pc = .ok (.newarray atype, 2)) (harr : Cond.arrayClass (newarray.typeOf atype) ∈ Ts) (hty : newarray.typeOf atype = ty) (hdf : defaultValue ty = .int 0) (hn : ¬ n < 0) (hN : n.toNatClampNeg = N') (hbytes : N' * componentBytes ty ≤ 536870912) (hcells : cells + 1 ≤ R.cells) (hslots : slots + N' ≤ R.slots) (kk : ∀ ad' : mg_Ad, (∀ a b, b < mr_pn r a → ad' a b = ad a b) → mg_G p l e R s m args below meth c D cl Z A H0 nL Q ad' (mr_C tys sh ad' (mr_nw r k)) L (cells + 1) (slots + N') (va_rf (some (ad' k (mr_pn r k))) :: st) (pc + 2)) : mg_G p l e R s m args below meth c D cl Z A H0 nL Q ad (mr_C tys sh ad r) L cells slots (.int n :: st) pc := by
  refine mg_newa (a0 := (N', .inl (fun _ => 0))) K k (mr_pn r k) t0 hA hd (mr_no (Nat.lt_irrefl _)) harr hty (mr_tys ht) (by rw [vp_cell_i, hdf]) hn hN hbytes hcells hslots fun q => ?_
  have k2 := kk (mg_u ad k (mr_pn r k) q) (fun a b hb => mg_u_n _ _ _ _ (fun z => by obtain ⟨rfl, rfl⟩ := z; exact Nat.lt_irrefl _ hb))
  rw [mg_u_s] at k2
  exact mg_eqC (mr_made hwf (by rw [hk]; rfl)) k2
theorem mr_newL (K : mg_K p m c cc nL s args Ts own D cl Z tys) {n : Int32} {N' t0 : Nat} {atype : ArrayType} (k : Nat) (hA : ∀ q, H0.size ≤ q → A q) (hwf : mr_wf r) (hk : sh k = .inr (t0, N', 1)) (ht : (tys[t0]?).map (·.2) = some .long) (hd : decode cc pc = .ok (.newarray atype, 2)) (harr : Cond.arrayClass (newarray.typeOf atype) ∈ Ts) (hty : newarray.typeOf atype = .long) (hn : ¬ n < 0) (hN : n.toNatClampNeg = N') (hbytes : N' * componentBytes .long ≤ 536870912) (hcells : cells + 1 ≤ R.cells) (hslots : slots + N' ≤ R.slots) (kk : ∀ ad' : mg_Ad, (∀ a b, b < mr_pn r a → ad' a b = ad a b) → mg_G p l e R s m args below meth c D cl Z A H0 nL Q ad' (mr_C tys sh ad' (mr_nw r k)) L (cells + 1) (slots + N') (va_rf (some (ad' k (mr_pn r k))) :: st) (pc + 2)) : mg_G p l e R s m args below meth c D cl Z A H0 nL Q ad (mr_C tys sh ad r) L cells slots (.int n :: st) pc := by
  refine mg_newa (a0 := (N', .inr (.inl (fun _ => 0)))) K k (mr_pn r k) t0 hA hd (mr_no (Nat.lt_irrefl _)) harr hty (mr_tys ht) (by rw [vp_cell_l]; rfl) hn hN hbytes hcells hslots fun q => ?_
  have k2 := kk (mg_u ad k (mr_pn r k) q) (fun a b hb => mg_u_n _ _ _ _ (fun z => by obtain ⟨rfl, rfl⟩ := z; exact Nat.lt_irrefl _ hb))
  rw [mg_u_s] at k2
  exact mg_eqC (mr_made hwf (by rw [hk]; rfl)) k2
theorem mr_newR (K : mg_K p m c cc nL s args Ts own D cl Z tys) {n : Int32} {N' t0 index : Nat} {Cn : String} (k : Nat) (hA : ∀ q, H0.size ≤ q → A q) (hwf : mr_wf r) (hk : sh k = .inr (t0, N', 2)) (ht : (tys[t0]?).map (·.2) = some (.object Cn)) (hd : decode cc pc = .ok (.anewarray index, 3)) (hcl : Cond.classLink own index Cn ∈ Ts) (hov : Cond.arrayOver (.object Cn) ∈ Ts) (hn : ¬ n < 0) (hN : n.toNatClampNeg = N') (hbytes : N' * 4 ≤ 536870912) (hcells : cells + 1 ≤ R.cells) (hslots : slots + N' ≤ R.slots) (kk : ∀ ad' : mg_Ad, (∀ a b, b < mr_pn r a → ad' a b = ad a b) → mg_G p l e R s m args below meth c D cl Z A H0 nL Q ad' (mr_C tys sh ad' (mr_nw r k)) L (cells + 1) (slots + N') (va_rf (some (ad' k (mr_pn r k))) :: st) (pc + 3)) : mg_G p l e R s m args below meth c D cl Z A H0 nL Q ad (mr_C tys sh ad r) L cells slots (.int n :: st) pc := by
  refine mg_newq K k (mr_pn r k) t0 hA hd (mr_no (Nat.lt_irrefl _)) hcl hov (mr_tys ht) hn hN hbytes hcells hslots fun q => ?_
  have k2 := kk (mg_u ad k (mr_pn r k) q) (fun a b hb => mg_u_n _ _ _ _ (fun z => by obtain ⟨rfl, rfl⟩ := z; exact Nat.lt_irrefl _ hb))
  rw [mg_u_s] at k2
  exact mg_eqC (mr_made hwf (by rw [hk]; rfl)) k2
theorem mr_getS (K : mg_K p m c cc nL s args Ts own D cl Z tys) {k i index f k2 i2 : Nat} {ty : FieldType} {fin : Nat} (hF : mr_Fd Ts cl sh own index k f 1 ty fin) (hd : decode cc pc = .ok (.getfield index, 3)) (hi : i < mr_pn r k) (hv : mr_rv r k i f = some (k2, i2)) (kk : mg_G p l e R s m args below meth c D cl Z A H0 nL Q ad (mr_C tys sh ad r) L cells slots (va_rf (some (ad k2 i2)) :: st) (pc + 3)) : mg_G p l e R s m args below meth c D cl Z A H0 nL Q ad (mr_C tys sh ad r) L cells slots (va_rf (some (ad k i)) :: st) pc := mr_getR K hF hd hi hv kk
theorem mr_getN (K : mg_K p m c cc nL s args Ts own D cl Z tys) {k i index f : Nat} {ty : FieldType} {fin : Nat} (hF : mr_Fd Ts cl sh own index k f 1 ty fin) (hd : decode cc pc = .ok (.getfield index, 3)) (hi : i < mr_pn r k) (hv : mr_rv r k i f = none) (kk : mg_G p l e R s m args below meth c D cl Z A H0 nL Q ad (mr_C tys sh ad r) L cells slots (va_rf none :: st) (pc + 3)) : mg_G p l e R s m args below meth c D cl Z A H0 nL Q ad (mr_C tys sh ad r) L cells slots (va_rf (some (ad k i)) :: st) pc := mr_getR K hF hd hi hv kk
theorem mr_putS (K : mg_K p m c cc nL s args Ts own D cl Z tys) {k i index f k2 i2 : Nat} {ty : FieldType} (hF : mr_Fd Ts cl sh own index k f 1 ty 0) (hd : decode cc pc = .ok (.putfield index, 3)) (hi : i < mr_pn r k) (hty : ∀ x, narrow ty (va_rf x) = va_rf x ∧ fits ty (va_rf x) = true) (kk : mg_G p l e R s m args below meth c D cl Z A H0 nL Q ad (mr_C tys sh ad (mr_sR r k i f (some (k2, i2)))) L cells slots st (pc + 3)) : mg_G p l e R s m args below meth c D cl Z A H0 nL Q ad (mr_C tys sh ad r) L cells slots (va_rf (some (ad k2 i2)) :: va_rf (some (ad k i)) :: st) pc := mr_putR (v := some (k2, i2)) K hF hd hi hty kk
theorem mr_putFS (K : mg_K p m c cc nL s args Ts own D cl Z tys) {k i index f k2 i2 : Nat} {ty : FieldType} (hin2 : meth.name = "<init>") (hF : mr_Fd Ts cl sh own index k f 1 ty 1) (hd : decode cc pc = .ok (.putfield index, 3)) (hi : i < mr_pn r k) (hty : ∀ x, narrow ty (va_rf x) = va_rf x ∧ fits ty (va_rf x) = true) (kk : mg_G p l e R s m args below meth c D cl Z A H0 nL Q ad (mr_C tys sh ad (mr_sR r k i f (some (k2, i2)))) L cells slots st (pc + 3)) : mg_G p l e R s m args below meth c D cl Z A H0 nL Q ad (mr_C tys sh ad r) L cells slots (va_rf (some (ad k2 i2)) :: va_rf (some (ad k i)) :: st) pc := mr_putFR (v := some (k2, i2)) K hin2 hF hd hi hty kk
theorem mr_aaldS (K : mg_K p m c cc nL s args Ts own D cl Z tys) {k i n t0 k2 i2 : Nat} {Cn : String} {x : Int32} (hk : sh k = .inr (t0, n, 2)) (ht : (tys[t0]?).map (·.2) = some (.object Cn)) (hd : decode cc pc = .ok (.aaload, 1)) (hi : i < mr_pn r k) (hin : vp_in x n) (hv : mr_rv r k i x.toNatClampNeg = some (k2, i2)) (kk : mg_G p l e R s m args below meth c D cl Z A H0 nL Q ad (mr_C tys sh ad r) L cells slots (va_rf (some (ad k2 i2)) :: st) (pc + 1)) : mg_G p l e R s m args below meth c D cl Z A H0 nL Q ad (mr_C tys sh ad r) L cells slots (.int x :: va_rf (some (ad k i)) :: st) pc := mr_aald K hk ht hd hi hin hv kk
theorem mr_aaldN (K : mg_K p m c cc nL s args Ts own D cl Z tys) {k i n t0 : Nat} {Cn : String} {x : Int32} (hk : sh k = .inr (t0, n, 2)) (ht : (tys[t0]?).map (·.2) = some (.object Cn)) (hd : decode cc pc = .ok (.aaload, 1)) (hi : i < mr_pn r k) (hin : vp_in x n) (hv : mr_rv r k i x.toNatClampNeg = none) (kk : mg_G p l e R s m args below meth c D cl Z A H0 nL Q ad (mr_C tys sh ad r) L cells slots (va_rf none :: st) (pc + 1)) : mg_G p l e R s m args below meth c D cl Z A H0 nL Q ad (mr_C tys sh ad r) L cells slots (.int x :: va_rf (some (ad k i)) :: st) pc := mr_aald K hk ht hd hi hin hv kk
theorem mr_eqr {r' : mr_St} (h : r = r') (kk : mg_G p l e R s m args below meth c D cl Z A H0 nL Q ad (mr_C tys sh ad r') L cells slots st pc) : mg_G p l e R s m args below meth c D cl Z A H0 nL Q ad (mr_C tys sh ad r) L cells slots st pc := h ▸ kk
theorem mg_eqL {C : mg_Ct} {L' : List (Option Value)} (h : L = L') (kk : mg_G p l e R s m args below meth c D cl Z A H0 nL Q ad C L' cells slots st pc) : mg_G p l e R s m args below meth c D cl Z A H0 nL Q ad C L cells slots st pc := h ▸ kk
end MR2
end
section
/-! a catch whose class is named by a link, cold or warm -/
def mg_Fi (e : Env) (s : State) (f : JFrame) (a : Addr) (pc : Nat) (v : Vm) : Prop := ∀ (Q : Handler → Pre) (E : CtlPost) (d : Bool) (acts : List Action), wp (findHandler f a) Q E e d acts s ↔ Q (.found pc) d acts (s.setVm v)
theorem mg_Fi.one {e : Env} {s : State} {f : JFrame} {a : Addr} {meth : Method} {code : Code} {x : ExceptionTableEntry} {k : ClassId} {cell : Cell} (hm : s.vm.method? f.method = some meth) (hc : meth.code = some code) (h1 : code.exceptionTable.toList = [x]) (hx : covers x f.pc = true) (h0 : x.catchType ≠ 0)
    (hl : s.vm.ClassLinks e.platform f.method.cls x.catchType k) (hcell : s.heap[a]? = some cell) (hobj : ∀ j, cell.vm ≠ .statics j) (hA : ∃ j, s.vm.classes[cell.cls]? = some j) (hB : ∃ j, s.vm.classes[k]? = some j) (hfit : s.vm.assignable cell.cls k = true) :
    mg_Fi e s f a x.handlerPc (s.vm.noted f.method.cls x.catchType (.cls k)) := by
  intro Q E d acts
  rw [W.findHandler_eq hm hc, h1]
  simp only [covers] at hx
  obtain ⟨ha, ht⟩ := (resolveClass_links e.toSetting hl).op (op := VmOp.resolveClass f.method.cls x.catchType) rfl
  have hal : s.vm.Alike (s.vm.noted f.method.cls x.catchType (.cls k)) := (Vm.Alike.refl s.vm).noted _ _ _
  obtain ⟨a1, ha1⟩ := hA
  obtain ⟨b1, hb1⟩ := hB
  obtain ⟨a2, ha2, -⟩ := hal.2.2 _ _ ha1
  obtain ⟨b2, hb2, -⟩ := hal.2.2 _ _ hb1
  have hf2 : (s.vm.noted f.method.cls x.catchType (.cls k)).assignable cell.cls k = true := by rw [hal.assignable]; exact hfit
  simp [findHandler.go, hx, h0, ha, ht, hcell, hobj, ha2, hb2, hf2, VmOp.dirties, VmOp.acts]
theorem mg_Fi.step {e : Env} {s : State} {f : JFrame} {a : Addr} {pc : Nat} {v : Vm} (h : mg_Fi e s f a pc v) (r : List Frame) : (stepThrowing e s a (.java f :: r)).Is ((s.setVm v).setFrames (.java { f with pc := pc, stack := [.ref a] } :: r)) [] := by
  simp only [stepThrowing, searchFrame, vmDo]
  generalize hr : Sem.go _ e false [] s = res
  obtain ⟨as, rfl, ha⟩ := Sem.eq_ok_of hr (a := Handler.found pc) (s' := s.setVm v) (acts' := []) (by simp [h _ _ _ _])
  exact ⟨rfl, ha⟩
theorem mg_Fi.goes {tb : Tables} {e : Env} {s target : State} {g : JFrame} {c : Code} {below : List Frame} {a : Addr} (h : At s g.method c below) {pc : Nat} {v : Vm} (hf : mg_Fi e ((s.setTop g).pushFrame (.throwing a)) g a pc v) (hrest : Steps tb e below ((s.setVm v).setTop { g with pc := pc, stack := [.ref a] }) target) :
    Steps tb e below ((s.setTop g).pushFrame (.throwing a)) target := by
  obtain ⟨hgo, hw⟩ := h.throwing a
  refine Steps.head hgo hw ?_
  rw [stepThread_throwing (frames_entered h.top _), (hf.step _).1]
  obtain ⟨g₀, hg⟩ := Option.isSome_iff_exists.mp h.top
  obtain ⟨r, hr⟩ := State.topJava?_eq_some.mp hg
  have hr' : (s.setVm v).frames = .java g₀ :: r := hr
  have key : ∀ (u : State) (F G : List Frame), ((u.setFrames F).setVm v).setFrames G = (u.setVm v).setFrames G := fun u F G => by
    have h1 : (u.setFrames F).setVm v = (u.setVm v).setFrames F := rfl
    rw [h1, State.setFrames_setFrames]
  rw [State.setTop_of_frames _ hr'] at hrest
  rw [hr, List.tail_cons, State.pushFrame, key, State.setTop_of_frames _ hr, key]
  exact hrest
theorem mg_caught {p : Program} {l : Launch} {e : Env} {R : Room} {s : State} {m : MethodId} {args : Array Value} {below : List Frame} {meth : Method} {c : Code} {T : State} {locs : List Loc} {cells slots : Nat} (X : Stand p l e R s m args below meth c T locs cells slots) {a : Addr} {g : JFrame} (hg : g.method = m) {own nm : String} (hown : s.vm.findClass own = some m.cls) {x : ExceptionTableEntry}
    (h1 : c.exceptionTable.toList = [x]) (hx : covers x g.pc = true) (h0 : x.catchType ≠ 0) (hlink : (Cond.classLink own x.catchType nm).before args s = true) {k : ClassId} {cell : Cell} (hk : s.vm.findClass nm = some k) (hcell : T.heap[a]? = some cell) (hobj : cell.vm.isStatics = false) (hfit : s.vm.assignable cell.cls k = true) :
    ∃ v, Stand p l e R s m args below meth c (T.setVm v) locs cells slots ∧ ∀ target, Steps p.tables e below ((T.setVm v).setTop { g with pc := x.handlerPc, stack := [.ref a] }) target → Steps p.tables e below ((T.setTop g).pushFrame (.throwing a)) target := by
  have hpl : e.platform.magicAccessors = ({} : Platform).magicAccessors := by rw [X.admits.platform]
  obtain ⟨k', hk', hcl⟩ := Cond.classLink_spec hown hlink e.platform hpl
  cases hk.symm.trans hk'
  obtain ⟨dk, _, _, kt, hd, _, _, _, _, hkt, _, hopen⟩ := hcl.here
  have hcl₀ := X.warmed.classLinks hcl
  have hW' : s.WarmedH (T.vm.noted m.cls x.catchType (.cls k)) := X.warmed.noted hd hopen (State.rightAt_cls hcl)
  have hal := X.warmed.alike
  obtain ⟨kt', hkt', -⟩ := hal.2.2 _ _ hkt
  have hfit' : T.vm.assignable cell.cls k = true := by rw [hal.assignable]; exact hfit
  subst hg
  have hfi : mg_Fi e ((T.setTop g).pushFrame (.throwing a)) g a x.handlerPc (T.vm.noted g.method.cls x.catchType (.cls k)) :=
    mg_Fi.one (s := (T.setTop g).pushFrame (.throwing a)) (meth := meth) (code := c) X.method' X.code h1 hx h0 hcl₀ hcell (VmData.ne_statics_of hobj) (Vm.classAt_of_assignable hfit' ⟨kt', hkt'⟩) ⟨kt', hkt'⟩ hfit'
  exact ⟨_, X.noted hW', fun target hrest => hfi.goes X.here hrest⟩
section MT4
variable {p : Program} {l : Launch} {e : Env} {R : Room} {s : State} {m : MethodId} {args : Array Value} {below : List Frame} {meth : Method} {c : Code} {Q : State → Prop}
variable {D : va_G} {cl : List vw_C} {Z : Nat × Cell} {tys : List (ClassId × FieldType)} {A : Nat → Prop} {H0 : Heap} {nL : Nat} {cc : ByteArray} {Ts : List Cond} {own : String}
variable {ad : mg_Ad} {C : mg_Ct} {L : List (Option Value)} {cells slots pc mc ms : Nat} {st rest st0 : List Value} {post : Option Value → mg_Ad → mg_Ct → Prop}
/-- a callee throws, and this method catches it -/
theorem mg_catchV (K : mg_K p m c cc nL s args Ts own D cl Z tys) (hA : ∀ q, H0.size ≤ q → A q) {y : MethodName} {ws : List Cond} {rm : Room} {bytes : ByteArray} {maxL n index ci N k i : Nat} {ret : Option FieldType} {Cn Xn nm : String} {T : u_T} {fs As : List Value} {a0 a1 hpc ct : Nat} (hM : mg_T l y ws rm D cl Z Ts tys (va_rf (some (ad k i)) :: As) ad C Xn) (cw : CallW R s args own Cn index y bytes maxL ret ws rm 1 6 n) (hd : decode cc pc = .ok (.invokevirtual index, 3)) (hst : st0 = As.reverse ++ va_rf (some (ad k i)) :: rest) (he : C k i = some (.inr (ci, fs))) (hc : cl[ci]? = some (Cn, T, N)) (hn : As.length = n) (hrm : (rest.map fun v => v.category).sum ≤ 8) (hf : cells + 1 ≤ R.cells ∧ slots + 6 ≤ R.slots)
    (htab : c.exceptionTable.toList.map (fun h => (h.startPc, h.endPc, h.handlerPc, h.catchType)) = [(a0, a1, hpc, ct)]) (hcov : a0 ≤ pc ∧ pc < a1) (h0 : ct ≠ 0) (hlink : Cond.classLink own ct nm ∈ Ts) (hcast : Cond.castable Xn nm ∈ Ts)
    (kk : ∀ q : Nat, mg_G p l e R s m args below meth c D cl Z A H0 nL Q ad C L (cells + 1) (slots + 6) [va_rf (some q)] hpc) : mg_G p l e R s m args below meth c D cl Z A H0 nL Q ad C L cells slots st0 pc := by
  intro H locs ls hW hS hL
  have hr := mg_runVT (l := l) (e := e) (below := below) (meth := meth) (locs := locs) (cells := cells) (slots := slots) (g := F0 m pc ls st0) (As := As) (rest := rest) K.1 (hM H.size) cw ⟨mg_Pc.blind, va_recv K.2.1 (mg_P1 hW he) hc (q0 := 0) rfl, mg_pre K hW⟩ rfl hn hL.1 hst (lv_room hrm) hd hf
  obtain ⟨x, hx1, hx2⟩ : ∃ x : ExceptionTableEntry, c.exceptionTable.toList = [x] ∧ (x.startPc, x.endPc, x.handlerPc, x.catchType) = (a0, a1, hpc, ct) := by
    match hq : c.exceptionTable.toList, htab with
    | [x], h => exact ⟨x, rfl, by simpa using h⟩
    | [], h => simp at h
    | x :: y :: r, h => simp at h
  simp only [Prod.mk.injEq] at hx2
  obtain ⟨rfl, rfl, rfl, rfl⟩ := hx2
  have hts := K.1.2.2.2.2
  obtain ⟨c3, cT, hc3, hcT, hasg⟩ := Cond.castable_spec (hts _ hcast)
  intro T hT X
  obtain ⟨xa, st₀, t, T', Lc, g0, X', hLc, e1, e2, ⟨⟨x', cell, hx, hcell, hfc, hvm⟩, hz, hk⟩, sT⟩ := hr T hT X
  cases hx
  rw [g0] at hz hk
  have hfs : s.vm.findClass Xn = some cell.cls := by rw [← X'.warmed.alike.findClass, e2]; exact hfc
  have hasg' : s.vm.assignable cell.cls cT = true := by rw [Option.some.inj (hfs.symm.trans hc3)]; exact hasg
  obtain ⟨v, X2, hgo⟩ := mg_caught X' (a := xa) (g := F0 m pc ls rest) rfl K.1.2.2.2.1 hx1 (by simp [covers, hcov.1, hcov.2]) h0 (hts _ hlink) hcT (by rw [e1]; exact hcell) hvm hasg'
  have hkeep : ∀ q : Nat, q < H.size → T'.heap[q]? = H[q]? := fun q hq => by rw [e1]; exact hk q hq (Nat.not_le.mpr hq)
  obtain ⟨t2, b1, b2⟩ := kk xa T'.heap (locs ++ Lc) ls (hW.kept hkeep)
    ⟨Nat.le_trans hS.1 (by rw [e1]; exact hz), fun q h1 h2 => by rw [hkeep q (Nat.lt_of_lt_of_le h1 hS.1)]; exact hS.2.1 q h1 h2, fun q hq => by
      rcases List.mem_append.mp hq with h | h
      · exact hS.2.2 q h
      · exact hA _ (Nat.le_trans hS.1 (hLc q h))⟩ hL (T'.setVm v) rfl X2
  exact ⟨t2, sT _ (hgo _ b1), b2⟩
/-- a static method that has handlers, called -/
theorem mg_backW {y : MethodName} {ws : List Cond} {rm : Room} {Pc : Array Value → State → Prop} {Qc : Array Value → State → Outcome → State → Prop} {free : Addr → Prop} {bytes : ByteArray} {maxL W len : Nat} {ret : Option FieldType} {handlers : List (Nat × Nat × Nat × Nat)}
    (hM : Met l y ws rm Pc Qc mc ms free) (hblind : FrameBlind Pc) (hrc : rm.cells = mc) (hrs : rm.slots = ms)
    (hframes : rm.frames + 1 ≤ R.frames) (hlocals : W + (maxL + 11) + rm.locals ≤ R.locals)
    (hws : ∀ w ∈ ws, ∀ a' U, s.WarmedH U.vm → w.before a' U = true) (hcode : Cond.codeWith y bytes maxL ret handlers ∈ ws) (hinit : ∀ a' U, s.WarmedH U.vm → (Cond.initialized y.cls).before a' U = true) :
    Back l R p e below s args y len W (PreOf R mc ms Pc) (PostOf Qc mc ms free) := by
  refine Jvm.Free.Back.of_freeWith (handlers := handlers) (S := headSpec ws rm) (P := Pc) (K := fun _ _ _ _ _ => True) (Q := fun a st o t => Qc a st o t ∧ ∃ L, FrameEnd st o t L mc ms ∧ ∀ q ∈ L, free q.base) (bytes := bytes) (maxL := maxL) (ret := ret)
    (E := fun a st o t L k n => k = mc ∧ n = ms ∧ ∀ q ∈ L, free q.base) hM hframes hlocals ?_ ?_ (fun _ _ _ _ _ _ _ _ _ => trivial) ?_ ?_
  · intro m meth c A a X hp
    exact ⟨atoms_intro fun w hw => hws w hw _ _ X.warmed, hws _ hcode _ _ X.warmed, hinit _ _ X.warmed, by rw [show (headSpec ws rm).room.cells = mc from hrc]; exact hp.1, by rw [show (headSpec ws rm).room.slots = ms from hrs]; exact hp.2.1⟩
  · intro m meth c A a g mk X hp
    exact hblind _ _ _ _ hp.2.2
  · intro a st o t ⟨hq, L, hF, hL⟩
    exact ⟨L, mc, ms, hF, rfl, rfl, hL⟩
  · intro m meth c A a g mk v t L k n X hp hq hF ⟨e1, e2, hL⟩
    subst e1; subst e2
    exact ⟨g, mk, t, L, rfl, rfl, hq.1, rfl, hL, rfl, rfl⟩
theorem mg_callSW (K : mg_K p m c cc nL s args Ts own D cl Z tys) (hA : ∀ q, H0.size ≤ q → A q) {y : MethodName} {ws : List Cond} {rm : Room} {bytes : ByteArray} {maxL n index : Nat} {ret : Option FieldType} {As : List Value} {handlers : List (Nat × Nat × Nat × Nat)} (hM : mg_M l y ws rm D cl Z Ts tys As ad C mc ms post)
    (hrc : rm.cells = mc) (hrs : rm.slots = ms) (hfr : rm.frames + 1 ≤ R.frames) (hlo : 8 + (maxL + 11) + rm.locals ≤ R.locals) (hws : ws = [Cond.codeWith y bytes maxL ret handlers]) (hcode : Cond.codeWith y bytes maxL ret handlers ∈ Ts) (hini : Cond.initialized y.cls ∈ Ts) (hstt : Cond.static y ∈ Ts) (hl : Cond.methodLink own index y ∈ Ts)
    (hy : y.cls ≠ "java/lang/invoke/MethodHandle" ∧ y.cls ≠ "java/lang/invoke/VarHandle") (hdn : (parseMethodDescriptor y.desc).map (fun d => d.parameters.length) = some n)
    (hd : decode cc pc = .ok (.invokestatic index, 3)) (hst : st0 = As.reverse ++ rest) (hn : As.length = n) (hrm : (rest.map fun v => v.category).sum ≤ 8) (hf : cells + mc ≤ R.cells ∧ slots + ms ≤ R.slots)
    (kk : ∀ (r : Option Value) (ad' : mg_Ad) (C' : mg_Ct), post r ad' C' → mg_G p l e R s m args below meth c D cl Z A H0 nL Q ad' C' L (cells + mc) (slots + ms) (r.toList ++ rest) (pc + 3)) : mg_G p l e R s m args below meth c D cl Z A H0 nL Q ad C L cells slots st0 pc := by
  intro H locs ls hW hS hL
  have hts := K.1.2.2.2.2
  have hr : va_Run p l e R s m args below meth c H locs cells slots mc ms (F0 m pc ls st0) rest (mg_Qc D cl Z ad C H.size post As.toArray) (mg_A ad C H.size) := by
    have hK : Back l R p e below s args y 3 8 (PreOf R mc ms (mg_Pc D cl Z Ts tys As ad C H.size)) (PostOf (mg_Qc D cl Z ad C H.size post) mc ms (mg_A ad C H.size)) :=
      mg_backW (hM H.size) mg_Pc.blind hrc hrs hfr hlo (fun w hw a' U hW => by rw [hws] at hw; rw [List.mem_singleton.mp hw]; exact word_at hW (Or.inl rfl) (hts _ hcode)) (by rw [hws]; exact List.mem_singleton.mpr rfl) (fun a' U hW => word_at hW (Or.inl (by first | rfl | simp [Cond.onTables, Cond.keeps, Cond.steady])) (hts _ hini))
    obtain ⟨mk, methM, cM, hnamed, hmethM, -, -, -, -, -, -, hsigM⟩ := Cond.codeWith_spec (hts _ hcode)
    have hstatic : methM.isStatic = true := Cond.static_spec hnamed hmethM (hts _ hstt)
    obtain ⟨kP, hkP, -⟩ := className_of_methodNamed hnamed
    have hinitP : kP.init = .initialized := Cond.initialized_spec (findClass_of_methodNamed hnamed) hkP (hts _ hini)
    have hdg' : decode c.code pc = .ok (.invokestatic index, 3) := by rw [K.1.2.1]; exact hd
    have hlen : As.length = methM.sig.parameters.length := by
      rw [hsigM] at hdn
      exact hn.trans (Option.some.inj hdn).symm
    intro T hT X
    obtain ⟨vm₁, X₁, hstep₁⟩ := X.invokestatic K.1.1 K.1.2.2.2.1 (hts _ hl) hnamed hmethM hstatic hkP hinitP hy (g := F0 m pc ls st0) rfl (argsL := As) (rest := rest) hlen hst hdg'
    obtain ⟨v, ⟨U', l2, c2, s2⟩, X', ⟨g', mk', t, Lx, e1, e2, hq, h1, hLx, h2, h3⟩, hsteps⟩ := hK m meth c ⟨T.setVm vm₁, locs, cells, slots⟩ { F0 m pc ls st0 with stack := rest } (.invokestatic index) mk As.toArray X₁ rfl (hL.1.trans K.1.2.2.1.symm) hdg' (lv_room hrm) (X₁.named hnamed) ⟨hf.1, hf.2, mg_pre K hW (T.setVm vm₁) hT X₁.warmed⟩
    dsimp only [Jvm.Free.Pt.U, Jvm.Free.Pt.locs, Jvm.Free.Pt.cells, Jvm.Free.Pt.slots] at X' e1 e2 h1 h2 h3 hsteps
    subst h1; subst h2; subst h3
    exact ⟨v, (T.setVm vm₁).calling g' mk' As.toArray, t, U', Lx, hT, X', hLx, e1, e2, hq, fun target h => hstep₁ _ fun acts => by rw [doInvoke_state]; exact hsteps.trans h⟩
  exact mg_run hr hW hS hA hL kk
end MT4
theorem mg_M.ofW {l : Launch} {y : MethodName} {ws ws' : List Cond} {rm : Room} {D : va_G} {cl : List vw_C} {Z : Nat × Cell} {B : List Cond} {tys : List (ClassId × FieldType)} {av : List Value} {ad : mg_Ad} {C : mg_Ct} {mc ms maxL : Nat} {cc : ByteArray} {ret : Option FieldType} {handlers : List (Nat × Nat × Nat × Nat)} {post : Option Value → mg_Ad → mg_Ct → Prop}
    (hy : plainName y.cls = true) (hw : ws = Cond.codeWith y cc maxL ret handlers :: ws') (hcap : (lg_sl av).length ≤ maxL) (hcat : ∀ w ∈ av, w.category = 1)
    (body : ∀ (p : Program) (e : Env) (s : State) (m : MethodId) (args : Array Value) (below : List Frame) (meth : Method) (c : Code), mg_K p m c cc maxL s args B y.cls D cl Z tys → meth.sig.returnType = ret → meth.locks = false → c.exceptionTable.toList.map (fun h => (h.startPc, h.endPc, h.handlerPc, h.catchType)) = handlers → (∀ q, s.heap.size ≤ q → mg_A ad C s.heap.size q) →
      mg_G p l e rm s m args below meth c D cl Z (mg_A ad C s.heap.size) s.heap maxL (MQ below (mg_Qc D cl Z ad C s.heap.size post) args s mc ms (mg_A ad C s.heap.size)) ad C (av.map some) 0 0 [] 0) : mg_M l y ws rm D cl Z B tys av ad C mc ms post := by
  intro sz
  refine MetFree.of_bodyS (code := cc) (maxLocals := maxL) (ret := ret) hy ?_ ?_
  · intro args s m h hn
    obtain ⟨m', meth, c, hn', h1, h2, h3, h4, -, h5, h6, -⟩ := Cond.codeWith_spec (atoms_spec (ws := ws) h _ (by rw [hw]; exact List.mem_cons_self))
    cases hn.symm.trans hn'
    exact ⟨meth, c, h1, h2, h3, h4, h5, h6⟩
  · intro p e s m args below meth c s₁ Bd hml hP _
    have hh0 : s₁.heap = s.heap := by rw [Bd.state]; rfl
    obtain ⟨rfl, hsz, hW, hK, hZk⟩ := hP
    subst hsz
    have hts : ∀ w ∈ B, w.before av.toArray s = true := fun w h => hZk s (State.WarmedH.refl s) hW.2.2.2.1 w h _
    have hown := findClass_of_methodNamed Bd.named
    obtain ⟨m', meth', c', hn', h1, h2, h3, h4, htab, h5, h6, -⟩ := Cond.codeWith_spec (atoms_spec (ws := ws) Bd.pre _ (by rw [hw]; exact List.mem_cons_self))
    cases Bd.named.symm.trans hn'
    cases Bd.method.symm.trans h1
    cases (Stand.of_body Bd).code.symm.trans h2
    have hl := lv_entry av (n := maxL) hcap
    have hb := body p e s m av.toArray below meth c ⟨⟨Bd.exec, Bd.bytes, hml, hown, hts⟩, hK, hZk⟩ Bd.returns Bd.notSynchronized htab (fun q h => Or.inr h)
    rw [lg_entry_eq]
    generalize (lg_sl av ++ List.replicate (maxL - (lg_sl av).length) Slot.unset).toArray = ls at hl ⊢
    obtain ⟨t, a1, o, b1, b2, b3⟩ := hb s.heap [] ls ⟨hW.1, hW.2.1, fun k i h => Or.inl ⟨k, i, h, rfl⟩, hW.2.2.2⟩ va_S.rf (mg_L.entry hcat hl) s₁ hh0 (Stand.of_body Bd)
    exact ⟨t, o, a1, b1, b2, ⟨b3.1, b3.2⟩⟩
end
section
/-! rooms, call sites, contracts over the raw state -/
def mg_rm (d mc ms : Nat) : Room := { frames := d, locals := 30 * d + 60, cells := mc, slots := ms }
def mr_Bs (B : List Cond) (index : Nat) (y : MethodName) (bytes : ByteArray) (maxL : Nat) (ret : Option FieldType) (n : Nat) : Prop :=
  maxL ≤ 20 ∧ Cond.initialized y.cls ∈ B ∧ Cond.code y bytes maxL ret ∈ B ∧ (y.cls ≠ "java/lang/invoke/MethodHandle" ∧ y.cls ≠ "java/lang/invoke/VarHandle") ∧ (parseMethodDescriptor y.desc).map (fun d => d.parameters.length) = some n
def mr_Vs (B : List Cond) (own Cn : String) (index : Nat) (y : MethodName) (bytes : ByteArray) (maxL : Nat) (ret : Option FieldType) (n : Nat) : Prop := mr_Bs B index y bytes maxL ret n ∧ Cond.methodLink own index y ∈ B ∧ Cond.instanceMethod y ∈ B ∧ Cond.selects Cn y y ∈ B
def mr_Ss (B : List Cond) (own : String) (index : Nat) (y : MethodName) (bytes : ByteArray) (maxL : Nat) (ret : Option FieldType) (n : Nat) : Prop := mr_Bs B index y bytes maxL ret n ∧ Cond.methodLink own index y ∈ B ∧ Cond.static y ∈ B
def mr_Is (B : List Cond) (own : String) (index : Nat) (y : MethodName) (bytes : ByteArray) (maxL : Nat) (n : Nat) : Prop := mr_Bs B index y bytes maxL none n ∧ Cond.methodLink own index y ∈ B ∧ Cond.instanceMethod y ∈ B ∧ y.name = "<init>"
def mr_SNs (B : List Cond) (own host : String) (index : Nat) (y : MethodName) (bytes : ByteArray) (maxL : Nat) (ret : Option FieldType) (n : Nat) : Prop := mr_Bs B index y bytes maxL ret n ∧ Cond.methodLinkNest own index y host ∈ B ∧ Cond.static y ∈ B
def mr_VNs (B : List Cond) (own host Cn : String) (index : Nat) (y : MethodName) (bytes : ByteArray) (maxL : Nat) (ret : Option FieldType) (n : Nat) : Prop := mr_Bs B index y bytes maxL ret n ∧ Cond.methodLinkNest own index y host ∈ B ∧ Cond.instanceMethod y ∈ B ∧ Cond.selects Cn y y ∈ B
def mr_INs (B : List Cond) (own host : String) (index : Nat) (y : MethodName) (bytes : ByteArray) (maxL : Nat) (n : Nat) : Prop := mr_Bs B index y bytes maxL none n ∧ Cond.methodLinkNest own index y host ∈ B ∧ Cond.instanceMethod y ∈ B ∧ y.name = "<init>"
/-- returns v, makes nothing, leaves the raw state r' -/
def mg_Po (tys : List (ClassId × FieldType)) (sh : Nat → mr_Sh) (ad : mg_Ad) (v : Option Value) (r' : mr_St) : Option Value → mg_Ad → mg_Ct → Prop := fun x ad' C' => x = v ∧ ad' = ad ∧ C' = mr_C tys sh ad r'
/-- returns v, may make cells, leaves the raw state r' -/
def mg_PoA (tys : List (ClassId × FieldType)) (sh : Nat → mr_Sh) (ad : mg_Ad) (r : mr_St) (v : Option Value) (r' : mr_St) : Option Value → mg_Ad → mg_Ct → Prop := fun x ad' C' => x = v ∧ (∀ a b, b < mr_pn r a → ad' a b = ad a b) ∧ C' = mr_C tys sh ad' r'
def mr_M (l : Launch) (y : MethodName) (bytes : ByteArray) (maxL : Nat) (ret : Option FieldType) (d : Nat) (D : va_G) (cl : List vw_C) (Z : Nat × Cell) (B : List Cond) (tys : List (ClassId × FieldType)) (sh : Nat → mr_Sh) (av : List Value) (ad : mg_Ad) (r : mr_St) (v : Option Value) (r' : mr_St) : Prop :=
  mg_M l y [Cond.code y bytes maxL ret] (mg_rm d 0 0) D cl Z B tys av ad (mr_C tys sh ad r) 0 0 (mg_Po tys sh ad v r')
def mr_MA (l : Launch) (y : MethodName) (bytes : ByteArray) (maxL : Nat) (ret : Option FieldType) (d mc ms : Nat) (D : va_G) (cl : List vw_C) (Z : Nat × Cell) (B : List Cond) (tys : List (ClassId × FieldType)) (sh : Nat → mr_Sh) (av : List Value) (ad : mg_Ad) (r : mr_St) (v : Option Value) (r' : mr_St) : Prop :=
  mg_M l y [Cond.code y bytes maxL ret] (mg_rm d mc ms) D cl Z B tys av ad (mr_C tys sh ad r) mc ms (mg_PoA tys sh ad r v r')
/-- a static one that reads and writes nothing: over every world -/
def mr_MS (l : Launch) (y : MethodName) (bytes : ByteArray) (maxL : Nat) (ret : Option FieldType) (d : Nat) (D : va_G) (cl : List vw_C) (Z : Nat × Cell) (B : List Cond) (tys : List (ClassId × FieldType)) (av : List Value) (v : Option Value) : Prop :=
  ∀ (ad : mg_Ad) (C : mg_Ct), mg_M l y [Cond.code y bytes maxL ret] (mg_rm d 0 0) D cl Z B tys av ad C 0 0 (fun x ad' C' => x = v ∧ ad' = ad ∧ C' = C)
section MR3
variable {p : Program} {l : Launch} {e : Env} {R : Room} {s : State} {m : MethodId} {args : Array Value} {below : List Frame} {meth : Method} {c : Code} {Q : State → Prop}
variable {D : va_G} {cl : List vw_C} {Z : Nat × Cell} {tys : List (ClassId × FieldType)} {A : Nat → Prop} {H0 : Heap} {nL : Nat} {cc : ByteArray} {Ts : List Cond} {own : String}
variable {ad : mg_Ad} {sh : Nat → mr_Sh} {r : mr_St} {C : mg_Ct} {L : List (Option Value)} {cells slots pc d' mc ms : Nat} {rest st0 : List Value} {y : MethodName} {bytes : ByteArray} {maxL n index : Nat} {ret : Option FieldType} {Cn host : String} {As : List Value}
theorem mr_Bs.b (K : mg_K p m c cc nL s args Ts own D cl Z tys) (h : mr_Bs Ts index y bytes maxL ret n) (hR : d' + 1 ≤ R.frames ∧ 19 + maxL + (30 * d' + 60) ≤ R.locals) (hl : Cond.methodLink own index y ∈ Ts) : CallB R s args own index y bytes maxL ret [Cond.code y bytes maxL ret] (mg_rm d' mc ms) mc ms n := by
  obtain ⟨h1, h2, h3, h4, h5⟩ := h
  have hts := K.1.2.2.2.2
  refine ⟨rfl, rfl, hR.1, by show 8 + (maxL + 11) + (30 * d' + 60) ≤ _; omega, fun w hw a' U hW => ?_, List.mem_singleton.mpr rfl, hts _ h3, hts _ h2, h4, fun sig hsig => ?_, hts _ hl⟩
  · rw [List.mem_singleton.mp hw]
    exact word_at hW (Or.inl (by first | rfl | simp [Cond.onTables, Cond.keeps, Cond.steady])) (hts _ h3)
  · rw [hsig] at h5
    exact (Option.some.inj h5).symm
theorem mr_Bs.bn (K : mg_K p m c cc nL s args Ts own D cl Z tys) (h : mr_Bs Ts index y bytes maxL ret n) (hR : d' + 1 ≤ R.frames ∧ 19 + maxL + (30 * d' + 60) ≤ R.locals) (hl : Cond.methodLinkNest own index y host ∈ Ts) : va_CN R s args own index y host bytes maxL ret [Cond.code y bytes maxL ret] (mg_rm d' mc ms) mc ms n := by
  obtain ⟨h1, h2, h3, h4, h5⟩ := h
  have hts := K.1.2.2.2.2
  refine ⟨⟨rfl, rfl, hR.1, by show 8 + (maxL + 11) + (30 * d' + 60) ≤ _; omega, fun w hw a' U hW => ?_, List.mem_singleton.mpr rfl⟩, hts _ h3, hts _ h2, h4, fun sig hsig => ?_, hts _ hl⟩
  · rw [List.mem_singleton.mp hw]
    exact word_at hW (Or.inl (by first | rfl | simp [Cond.onTables, Cond.keeps, Cond.steady])) (hts _ h3)
  · rw [hsig] at h5
    exact (Option.some.inj h5).symm
theorem mr_cV (K : mg_K p m c cc nL s args Ts own D cl Z tys) (hA : ∀ q, H0.size ≤ q → A q) {k i ci N : Nat} {fl : List Nat} {T : u_T} {v : Option Value} {r' : mr_St} (hM : mr_M l y bytes maxL ret d' D cl Z Ts tys sh (va_rf (some (ad k i)) :: As) ad r v r') (hs : mr_Vs Ts own Cn index y bytes maxL ret As.length) (hR : d' + 1 ≤ R.frames ∧ 19 + maxL + (30 * d' + 60) ≤ R.locals) (hd : decode cc pc = .ok (.invokevirtual index, 3)) (hst : st0 = As.reverse ++ va_rf (some (ad k i)) :: rest) (hk : sh k = .inl (ci, fl)) (hi : i < mr_pn r k) (hc : cl[ci]? = some (Cn, T, N)) (hrm : (rest.map fun v => v.category).sum ≤ 8) (hf0 : cells ≤ R.cells ∧ slots ≤ R.slots) (kk : mg_G p l e R s m args below meth c D cl Z A H0 nL Q ad (mr_C tys sh ad r') L cells slots (v.toList ++ rest) (pc + 3)) : mg_G p l e R s m args below meth c D cl Z A H0 nL Q ad (mr_C tys sh ad r) L cells slots st0 pc :=
  mg_callV K hA hM ⟨hs.1.b K hR hs.2.1, K.1.2.2.2.2 _ hs.2.2.1, K.1.2.2.2.2 _ hs.2.2.2⟩ hd hst (mr_obj hk hi) hc rfl hrm ⟨by show _ + 0 ≤ _; exact hf0.1, by show _ + 0 ≤ _; exact hf0.2⟩ (fun x ad' C' hp => by obtain ⟨rfl, rfl, rfl⟩ := hp; exact kk)
theorem mr_cVN (K : mg_K p m c cc nL s args Ts own D cl Z tys) (hA : ∀ q, H0.size ≤ q → A q) {k i ci N : Nat} {fl : List Nat} {T : u_T} {v : Option Value} {r' : mr_St} (hM : mr_M l y bytes maxL ret d' D cl Z Ts tys sh (va_rf (some (ad k i)) :: As) ad r v r') (hs : mr_VNs Ts own host Cn index y bytes maxL ret As.length) (hR : d' + 1 ≤ R.frames ∧ 19 + maxL + (30 * d' + 60) ≤ R.locals) (hd : decode cc pc = .ok (.invokevirtual index, 3)) (hst : st0 = As.reverse ++ va_rf (some (ad k i)) :: rest) (hk : sh k = .inl (ci, fl)) (hi : i < mr_pn r k) (hc : cl[ci]? = some (Cn, T, N)) (hrm : (rest.map fun v => v.category).sum ≤ 8) (hf0 : cells ≤ R.cells ∧ slots ≤ R.slots) (kk : mg_G p l e R s m args below meth c D cl Z A H0 nL Q ad (mr_C tys sh ad r') L cells slots (v.toList ++ rest) (pc + 3)) : mg_G p l e R s m args below meth c D cl Z A H0 nL Q ad (mr_C tys sh ad r) L cells slots st0 pc :=
  mg_callVN K hA hM ⟨hs.1.bn K hR hs.2.1, K.1.2.2.2.2 _ hs.2.2.1, K.1.2.2.2.2 _ hs.2.2.2⟩ hd hst (mr_obj hk hi) hc rfl hrm ⟨by show _ + 0 ≤ _; exact hf0.1, by show _ + 0 ≤ _; exact hf0.2⟩ (fun x ad' C' hp => by obtain ⟨rfl, rfl, rfl⟩ := hp; exact kk)
theorem mr_cS (K : mg_K p m c cc nL s args Ts own D cl Z tys) (hA : ∀ q, H0.size ≤ q → A q) {v : Option Value} {r' : mr_St} (hM : mr_M l y bytes maxL ret d' D cl Z Ts tys sh As ad r v r') (hs : mr_Ss Ts own index y bytes maxL ret As.length) (hR : d' + 1 ≤ R.frames ∧ 19 + maxL + (30 * d' + 60) ≤ R.locals) (hd : decode cc pc = .ok (.invokestatic index, 3)) (hst : st0 = As.reverse ++ rest) (hrm : (rest.map fun v => v.category).sum ≤ 8) (hf0 : cells ≤ R.cells ∧ slots ≤ R.slots) (kk : mg_G p l e R s m args below meth c D cl Z A H0 nL Q ad (mr_C tys sh ad r') L cells slots (v.toList ++ rest) (pc + 3)) : mg_G p l e R s m args below meth c D cl Z A H0 nL Q ad (mr_C tys sh ad r) L cells slots st0 pc :=
  mg_callS K hA hM ⟨hs.1.b K hR hs.2.1, K.1.2.2.2.2 _ hs.2.2⟩ hd hst rfl hrm ⟨by show _ + 0 ≤ _; exact hf0.1, by show _ + 0 ≤ _; exact hf0.2⟩ (fun x ad' C' hp => by obtain ⟨rfl, rfl, rfl⟩ := hp; exact kk)
theorem mr_cI (K : mg_K p m c cc nL s args Ts own D cl Z tys) (hA : ∀ q, H0.size ≤ q → A q) {b : Nat} {v : Option Value} {r' : mr_St} (hM : mr_M l y bytes maxL none d' D cl Z Ts tys sh (va_rf (some b) :: As) ad r v r') (hs : mr_Is Ts own index y bytes maxL As.length) (hR : d' + 1 ≤ R.frames ∧ 19 + maxL + (30 * d' + 60) ≤ R.locals) (hd : decode cc pc = .ok (.invokespecial index, 3)) (hst : st0 = As.reverse ++ va_rf (some b) :: rest) (hrm : (rest.map fun v => v.category).sum ≤ 8) (hf0 : cells ≤ R.cells ∧ slots ≤ R.slots) (kk : mg_G p l e R s m args below meth c D cl Z A H0 nL Q ad (mr_C tys sh ad r') L cells slots (v.toList ++ rest) (pc + 3)) : mg_G p l e R s m args below meth c D cl Z A H0 nL Q ad (mr_C tys sh ad r) L cells slots st0 pc :=
  mg_callI K hA hM ⟨hs.1.b K hR hs.2.1, hs.2.2.2, K.1.2.2.2.2 _ hs.2.2.1⟩ hd hst rfl hrm ⟨by show _ + 0 ≤ _; exact hf0.1, by show _ + 0 ≤ _; exact hf0.2⟩ (fun x ad' C' hp => by obtain ⟨rfl, rfl, rfl⟩ := hp; exact kk)
theorem mr_cIN (K : mg_K p m c cc nL s args Ts own D cl Z tys) (hA : ∀ q, H0.size ≤ q → A q) {b : Nat} {v : Option Value} {r' : mr_St} (hM : mr_M l y bytes maxL none d' D cl Z Ts tys sh (va_rf (some b) :: As) ad r v r') (hs : mr_INs Ts own host index y bytes maxL As.length) (hR : d' + 1 ≤ R.frames ∧ 19 + maxL + (30 * d' + 60) ≤ R.locals) (hd : decode cc pc = .ok (.invokespecial index, 3)) (hst : st0 = As.reverse ++ va_rf (some b) :: rest) (hrm : (rest.map fun v => v.category).sum ≤ 8) (hf0 : cells ≤ R.cells ∧ slots ≤ R.slots) (kk : mg_G p l e R s m args below meth c D cl Z A H0 nL Q ad (mr_C tys sh ad r') L cells slots (v.toList ++ rest) (pc + 3)) : mg_G p l e R s m args below meth c D cl Z A H0 nL Q ad (mr_C tys sh ad r) L cells slots st0 pc :=
  mg_callIN K hA hM ⟨hs.1.bn K hR hs.2.1, hs.2.2.2, K.1.2.2.2.2 _ hs.2.2.1⟩ hd hst rfl hrm ⟨by show _ + 0 ≤ _; exact hf0.1, by show _ + 0 ≤ _; exact hf0.2⟩ (fun x ad' C' hp => by obtain ⟨rfl, rfl, rfl⟩ := hp; exact kk)
theorem mr_cVA (K : mg_K p m c cc nL s args Ts own D cl Z tys) (hA : ∀ q, H0.size ≤ q → A q) {k i ci N : Nat} {fl : List Nat} {T : u_T} {v : Option Value} {r' : mr_St} (hM : mr_MA l y bytes maxL ret d' mc ms D cl Z Ts tys sh (va_rf (some (ad k i)) :: As) ad r v r') (hs : mr_Vs Ts own Cn index y bytes maxL ret As.length) (hR : d' + 1 ≤ R.frames ∧ 19 + maxL + (30 * d' + 60) ≤ R.locals) (hd : decode cc pc = .ok (.invokevirtual index, 3)) (hst : st0 = As.reverse ++ va_rf (some (ad k i)) :: rest) (hk : sh k = .inl (ci, fl)) (hi : i < mr_pn r k) (hc : cl[ci]? = some (Cn, T, N)) (hrm : (rest.map fun v => v.category).sum ≤ 8) (hf : cells + mc ≤ R.cells ∧ slots + ms ≤ R.slots) (kk : ∀ ad' : mg_Ad, (∀ a b, b < mr_pn r a → ad' a b = ad a b) → mg_G p l e R s m args below meth c D cl Z A H0 nL Q ad' (mr_C tys sh ad' r') L (cells + mc) (slots + ms) (v.toList ++ rest) (pc + 3)) : mg_G p l e R s m args below meth c D cl Z A H0 nL Q ad (mr_C tys sh ad r) L cells slots st0 pc :=
  mg_callV K hA hM ⟨hs.1.b K hR hs.2.1, K.1.2.2.2.2 _ hs.2.2.1, K.1.2.2.2.2 _ hs.2.2.2⟩ hd hst (mr_obj hk hi) hc rfl hrm hf (fun x ad' C' hp => by obtain ⟨rfl, ha, rfl⟩ := hp; exact kk ad' ha)
theorem mr_cVNA (K : mg_K p m c cc nL s args Ts own D cl Z tys) (hA : ∀ q, H0.size ≤ q → A q) {k i ci N : Nat} {fl : List Nat} {T : u_T} {v : Option Value} {r' : mr_St} (hM : mr_MA l y bytes maxL ret d' mc ms D cl Z Ts tys sh (va_rf (some (ad k i)) :: As) ad r v r') (hs : mr_VNs Ts own host Cn index y bytes maxL ret As.length) (hR : d' + 1 ≤ R.frames ∧ 19 + maxL + (30 * d' + 60) ≤ R.locals) (hd : decode cc pc = .ok (.invokevirtual index, 3)) (hst : st0 = As.reverse ++ va_rf (some (ad k i)) :: rest) (hk : sh k = .inl (ci, fl)) (hi : i < mr_pn r k) (hc : cl[ci]? = some (Cn, T, N)) (hrm : (rest.map fun v => v.category).sum ≤ 8) (hf : cells + mc ≤ R.cells ∧ slots + ms ≤ R.slots) (kk : ∀ ad' : mg_Ad, (∀ a b, b < mr_pn r a → ad' a b = ad a b) → mg_G p l e R s m args below meth c D cl Z A H0 nL Q ad' (mr_C tys sh ad' r') L (cells + mc) (slots + ms) (v.toList ++ rest) (pc + 3)) : mg_G p l e R s m args below meth c D cl Z A H0 nL Q ad (mr_C tys sh ad r) L cells slots st0 pc :=
  mg_callVN K hA hM ⟨hs.1.bn K hR hs.2.1, K.1.2.2.2.2 _ hs.2.2.1, K.1.2.2.2.2 _ hs.2.2.2⟩ hd hst (mr_obj hk hi) hc rfl hrm hf (fun x ad' C' hp => by obtain ⟨rfl, ha, rfl⟩ := hp; exact kk ad' ha)
theorem mr_cSA (K : mg_K p m c cc nL s args Ts own D cl Z tys) (hA : ∀ q, H0.size ≤ q → A q) {v : Option Value} {r' : mr_St} (hM : mr_MA l y bytes maxL ret d' mc ms D cl Z Ts tys sh As ad r v r') (hs : mr_Ss Ts own index y bytes maxL ret As.length) (hR : d' + 1 ≤ R.frames ∧ 19 + maxL + (30 * d' + 60) ≤ R.locals) (hd : decode cc pc = .ok (.invokestatic index, 3)) (hst : st0 = As.reverse ++ rest) (hrm : (rest.map fun v => v.category).sum ≤ 8) (hf : cells + mc ≤ R.cells ∧ slots + ms ≤ R.slots) (kk : ∀ ad' : mg_Ad, (∀ a b, b < mr_pn r a → ad' a b = ad a b) → mg_G p l e R s m args below meth c D cl Z A H0 nL Q ad' (mr_C tys sh ad' r') L (cells + mc) (slots + ms) (v.toList ++ rest) (pc + 3)) : mg_G p l e R s m args below meth c D cl Z A H0 nL Q ad (mr_C tys sh ad r) L cells slots st0 pc :=
  mg_callS K hA hM ⟨hs.1.b K hR hs.2.1, K.1.2.2.2.2 _ hs.2.2⟩ hd hst rfl hrm hf (fun x ad' C' hp => by obtain ⟨rfl, ha, rfl⟩ := hp; exact kk ad' ha)
theorem mr_cIA (K : mg_K p m c cc nL s args Ts own D cl Z tys) (hA : ∀ q, H0.size ≤ q → A q) {b : Nat} {v : Option Value} {r' : mr_St} (hM : mr_MA l y bytes maxL none d' mc ms D cl Z Ts tys sh (va_rf (some b) :: As) ad r v r') (hs : mr_Is Ts own index y bytes maxL As.length) (hR : d' + 1 ≤ R.frames ∧ 19 + maxL + (30 * d' + 60) ≤ R.locals) (hd : decode cc pc = .ok (.invokespecial index, 3)) (hst : st0 = As.reverse ++ va_rf (some b) :: rest) (hrm : (rest.map fun v => v.category).sum ≤ 8) (hf : cells + mc ≤ R.cells ∧ slots + ms ≤ R.slots) (kk : ∀ ad' : mg_Ad, (∀ a b, b < mr_pn r a → ad' a b = ad a b) → mg_G p l e R s m args below meth c D cl Z A H0 nL Q ad' (mr_C tys sh ad' r') L (cells + mc) (slots + ms) (v.toList ++ rest) (pc + 3)) : mg_G p l e R s m args below meth c D cl Z A H0 nL Q ad (mr_C tys sh ad r) L cells slots st0 pc :=
  mg_callI K hA hM ⟨hs.1.b K hR hs.2.1, hs.2.2.2, K.1.2.2.2.2 _ hs.2.2.1⟩ hd hst rfl hrm hf (fun x ad' C' hp => by obtain ⟨rfl, ha, rfl⟩ := hp; exact kk ad' ha)
theorem mr_cINA (K : mg_K p m c cc nL s args Ts own D cl Z tys) (hA : ∀ q, H0.size ≤ q → A q) {b : Nat} {v : Option Value} {r' : mr_St} (hM : mr_MA l y bytes maxL none d' mc ms D cl Z Ts tys sh (va_rf (some b) :: As) ad r v r') (hs : mr_INs Ts own host index y bytes maxL As.length) (hR : d' + 1 ≤ R.frames ∧ 19 + maxL + (30 * d' + 60) ≤ R.locals) (hd : decode cc pc = .ok (.invokespecial index, 3)) (hst : st0 = As.reverse ++ va_rf (some b) :: rest) (hrm : (rest.map fun v => v.category).sum ≤ 8) (hf : cells + mc ≤ R.cells ∧ slots + ms ≤ R.slots) (kk : ∀ ad' : mg_Ad, (∀ a b, b < mr_pn r a → ad' a b = ad a b) → mg_G p l e R s m args below meth c D cl Z A H0 nL Q ad' (mr_C tys sh ad' r') L (cells + mc) (slots + ms) (v.toList ++ rest) (pc + 3)) : mg_G p l e R s m args below meth c D cl Z A H0 nL Q ad (mr_C tys sh ad r) L cells slots st0 pc :=
  mg_callIN K hA hM ⟨hs.1.bn K hR hs.2.1, hs.2.2.2, K.1.2.2.2.2 _ hs.2.2.1⟩ hd hst rfl hrm hf (fun x ad' C' hp => by obtain ⟨rfl, ha, rfl⟩ := hp; exact kk ad' ha)
theorem mr_cP (K : mg_K p m c cc nL s args Ts own D cl Z tys) (hA : ∀ q, H0.size ≤ q → A q) {v : Option Value} (hM : mr_MS l y bytes maxL ret d' D cl Z Ts tys As v) (hs : mr_Ss Ts own index y bytes maxL ret As.length) (hR : d' + 1 ≤ R.frames ∧ 19 + maxL + (30 * d' + 60) ≤ R.locals) (hd : decode cc pc = .ok (.invokestatic index, 3)) (hst : st0 = As.reverse ++ rest) (hrm : (rest.map fun v => v.category).sum ≤ 8) (hf0 : cells ≤ R.cells ∧ slots ≤ R.slots) (kk : mg_G p l e R s m args below meth c D cl Z A H0 nL Q ad C L cells slots (v.toList ++ rest) (pc + 3)) : mg_G p l e R s m args below meth c D cl Z A H0 nL Q ad C L cells slots st0 pc :=
  mg_callS K hA (hM ad C) ⟨hs.1.b K hR hs.2.1, K.1.2.2.2.2 _ hs.2.2⟩ hd hst rfl hrm ⟨by show _ + 0 ≤ _; exact hf0.1, by show _ + 0 ≤ _; exact hf0.2⟩ (fun x ad' C' hp => by obtain ⟨rfl, rfl, rfl⟩ := hp; exact kk)
theorem mr_cPN (K : mg_K p m c cc nL s args Ts own D cl Z tys) (hA : ∀ q, H0.size ≤ q → A q) {v : Option Value} (hM : mr_MS l y bytes maxL ret d' D cl Z Ts tys As v) (hs : mr_SNs Ts own host index y bytes maxL ret As.length) (hR : d' + 1 ≤ R.frames ∧ 19 + maxL + (30 * d' + 60) ≤ R.locals) (hd : decode cc pc = .ok (.invokestatic index, 3)) (hst : st0 = As.reverse ++ rest) (hrm : (rest.map fun v => v.category).sum ≤ 8) (hf0 : cells ≤ R.cells ∧ slots ≤ R.slots) (kk : mg_G p l e R s m args below meth c D cl Z A H0 nL Q ad C L cells slots (v.toList ++ rest) (pc + 3)) : mg_G p l e R s m args below meth c D cl Z A H0 nL Q ad C L cells slots st0 pc :=
  mg_callSN K hA (hM ad C) ⟨hs.1.bn K hR hs.2.1, K.1.2.2.2.2 _ hs.2.2, trivial⟩ hd hst rfl hrm ⟨by show _ + 0 ≤ _; exact hf0.1, by show _ + 0 ≤ _; exact hf0.2⟩ (fun x ad' C' hp => by obtain ⟨rfl, rfl, rfl⟩ := hp; exact kk)
end MR3
end
section
/-! small numbers as Int32 -/
theorem mi_ti {n : Nat} (h : n < 2147483648) : (Int32.ofNat n).toInt = (n : Int) := Int32.toInt_ofNat_small h
theorem mi_tn {n : Nat} (h : n < 2147483648) : (Int32.ofNat n).toNatClampNeg = n := by
  show (Int32.ofNat n).toInt.toNat = n
  rw [mi_ti h]
  exact Int.toNat_natCast n
theorem mi_lt {a b : Nat} (ha : a < 2147483648) (hb : b < 2147483648) : Int32.ofNat a < Int32.ofNat b ↔ a < b := by
  rw [Int32.lt_iff_toInt_lt, mi_ti ha, mi_ti hb]
  omega
theorem mi_le {a b : Nat} (ha : a < 2147483648) (hb : b < 2147483648) : Int32.ofNat a ≤ Int32.ofNat b ↔ a ≤ b := by
  rw [Int32.le_iff_toInt_le, mi_ti ha, mi_ti hb]
  omega
theorem mi_inj {a b : Nat} (ha : a < 2147483648) (hb : b < 2147483648) (h : Int32.ofNat a = Int32.ofNat b) : a = b := by
  have h1 := congrArg Int32.toInt h
  rw [mi_ti ha, mi_ti hb] at h1
  omega
theorem mi_a1 (n : Nat) : Int32.ofNat n + 1 = Int32.ofNat (n + 1) := (Int32.ofNat_add n 1).symm
theorem mi_s1 (n : Nat) : Int32.ofNat (n + 1) - 1 = Int32.ofNat n := by rw [← mi_a1, Int32.add_sub_cancel]
theorem mi_nn {n : Nat} (h : n < 2147483648) : ¬ Int32.ofNat n < 0 := by
  rw [Int32.lt_iff_toInt_lt, mi_ti h]
  show ¬ (n : Int) < 0
  omega
theorem mi_of {x : Int32} (h : ¬ x < 0) : x = Int32.ofNat x.toNatClampNeg := by
  have h0 : ¬ x.toInt < 0 := fun z => h (Int32.lt_iff_toInt_lt.mpr z)
  have h1 : x.toInt < 2147483648 := Int32.toInt_lt x
  have h2 : x.toNatClampNeg = x.toInt.toNat := rfl
  refine Int32.toInt_inj.mp ?_
  rw [mi_ti (by rw [h2]; omega), h2]
  omega
theorem mi_rg {x : Int32} {n : Nat} (h : ¬ x < 0) (hn : n < 2147483648) (hx : x < Int32.ofNat n) : x.toNatClampNeg < n := by
  rw [Int32.lt_iff_toInt_lt, mi_ti hn] at hx
  have h2 : x.toNatClampNeg = x.toInt.toNat := rfl
  rw [h2]
  have h0 : ¬ x.toInt < 0 := fun z => h (Int32.lt_iff_toInt_lt.mpr z)
  omega
theorem mi_vi {x : Int32} {n : Nat} (h : ¬ x < 0) (hx : x.toNatClampNeg < n) : vp_in x n := fun z => by
  rcases z with z | z
  · exact h z
  · omega
theorem mi_vn {x n : Nat} (hx : x < 2147483648) (h : x < n) : vp_in (Int32.ofNat x) n := mi_vi (mi_nn hx) (by rw [mi_tn hx]; exact h)
end
section
/-! the class, as a mathematical state: ints by (kind, index, place), the messages that came by sender and number, a message's subject, the four lines (0 acts, 1 dead, 2 waiting, 3 failed), how many messages were made -/
abbrev ca_S : Type := (Nat → Nat → Nat → Int32) × (Nat → Nat → Option Nat) × (Nat → Nat) × (Nat → List Nat) × Nat
def ca_iv (g : ca_S) (k i f : Nat) : Int32 := g.1 k i f
def ca_tb (g : ca_S) (s n : Nat) : Option Nat := g.2.1 s n
def ca_ms (g : ca_S) (j : Nat) : Nat := g.2.2.1 j
def ca_ln (g : ca_S) (x : Nat) : List Nat := g.2.2.2.1 x
def ca_nm (g : ca_S) : Nat := g.2.2.2.2
def ca_si (g : ca_S) (k i f : Nat) (v : Int32) : ca_S := (mr_u3 g.1 k i f v, g.2)
def ca_sn (g : ca_S) (x : Nat) (v : List Nat) : ca_S := (g.1, g.2.1, g.2.2.1, fun a => if a = x then v else ca_ln g a, g.2.2.2.2)
def ca_here (g : ca_S) : Option Nat → Bool
  | none => false
  | some j => decide (¬ ca_iv g 10 j 4 = 6)
def ca_gap (g : ca_S) (s n : Nat) : Bool := decide (1 ≤ n ∧ n ≤ 24) && decide (ca_iv g 6 s n = 0) && !ca_here g (ca_tb g s n)
/-- the least number from n on, of f numbers, that is a gap; else the one behind them -/
def ca_least (g : ca_S) (s : Nat) : Nat → Nat → Nat
  | n, 0 => n
  | n, f + 1 => if ca_gap g s n then n else ca_least g s (n + 1) f
def ca_lg (g : ca_S) (s : Nat) : Nat := ca_least g s 1 24
def ca_in (v lim : Int32) : Bool := decide (-lim ≤ v) && decide (v ≤ lim)
def ca_vo (g : ca_S) (st : Int32) : Int32 := if st = 0 then (if (ca_ln g 2).length < 12 then -1 else 5) else if st = 2 then 2 else if st = 3 then 3 else 0
def ca_vd (g : ca_S) (j : Nat) : Int32 :=
  let st := ca_iv g 7 (ca_ms g j) 0
  if ca_iv g 10 j 1 = 0 then (if st = 0 ∨ st = 3 then 0 else 1)
  else if ca_iv g 10 j 1 = 2 then (if st = 1 ∧ ca_in (ca_iv g 7 (ca_ms g j) 1 + ca_iv g 10 j 3) 1000000 = false then 4 else ca_vo g st)
  else if ca_iv g 10 j 1 = 1 ∨ ca_iv g 10 j 1 = 4 then ca_vo g st else 0
def ca_app (g : ca_S) (x j : Nat) : ca_S := if (ca_ln g x).length < 96 then ca_sn g x (ca_ln g x ++ [j]) else g
def ca_fail (g : ca_S) (j : Nat) (again : Bool) : ca_S := ca_app (ca_si g 10 j 4 (if again then 5 else 4)) (if again then 1 else 3) j
def ca_act (g : ca_S) (j : Nat) : ca_S :=
  if ca_iv g 10 j 1 = 0 then ca_si (ca_si g 7 (ca_ms g j) 0 1) 7 (ca_ms g j) 1 (ca_iv g 10 j 3)
  else if ca_iv g 10 j 1 = 1 then ca_si g 7 (ca_ms g j) 1 (ca_iv g 10 j 3)
  else if ca_iv g 10 j 1 = 2 then ca_si g 7 (ca_ms g j) 1 (ca_iv g 7 (ca_ms g j) 1 + ca_iv g 10 j 3)
  else if ca_iv g 10 j 1 = 4 then ca_si g 7 (ca_ms g j) 0 3
  else ca_si g 10 j 5 (10 * ca_iv g 7 (ca_ms g j) 1 + ca_iv g 7 (ca_ms g j) 0)
def ca_perf (g : ca_S) (j : Nat) : ca_S :=
  let g1 := ca_act g j
  let g2 := ca_si g1 7 (ca_ms g j) 2 (ca_iv g1 7 (ca_ms g j) 2 + 1)
  ca_app (ca_si g2 10 j 4 1) 0 j
def ca_settle (g : ca_S) (j : Nat) (again : Bool) : ca_S :=
  if ca_vd g j = -1 then ca_app (ca_si (ca_si g 10 j 4 3) 10 j 7 (ca_iv g 0 0 7)) 2 j
  else if ¬ ca_vd g j = 0 then ca_si (ca_si g 10 j 4 2) 10 j 5 (-(ca_vd g j))
  else if ¬ ca_iv g 3 0 (ca_iv g 10 j 1).toNatClampNeg = 0 then ca_fail (ca_si g 3 0 (ca_iv g 10 j 1).toNatClampNeg 0) j again
  else ca_perf g j
def ca_first (g : ca_S) (u : Nat) : Option Nat := (ca_ln g 2).findIdx? (fun j => decide (ca_ms g j = u))
def ca_wake (u : Nat) : Nat → ca_S → ca_S
  | 0, g => g
  | n + 1, g => match ca_first g u with
    | none => g
    | some i => ca_wake u n (ca_settle (ca_sn g 2 ((ca_ln g 2).eraseIdx i)) ((ca_ln g 2).getD i 0) false)
def ca_turn (g : ca_S) (j : Nat) (again : Bool) : ca_S :=
  let g1 := ca_settle g j again
  if ca_iv g1 7 (ca_ms g j) 0 = 0 then g1 else ca_wake (ca_ms g j) 12 g1
def ca_give (s : Nat) : Nat → Nat → ca_S → ca_S
  | _, 0, g => g
  | n, f + 1, g => ca_give s (n + 1) f (match ca_tb g s n with
    | none => g
    | some j => if ca_iv g 10 j 4 = 0 then ca_turn g j false else g)
def ca_turns (g : ca_S) (s : Nat) : ca_S := ca_give s 1 (ca_lg g s - 1) g
def ca_come (g : ca_S) (s j : Nat) : ca_S :=
  let g1 := ca_si (ca_si g 10 j 4 0) 10 j 6 (ca_iv g 0 0 7)
  ca_turns (if ca_iv g 10 j 1 = 3 then ca_turn g1 j false else g1) s
def ca_recd (g : ca_S) (j : Nat) : Int32 :=
  let st := ca_iv g 10 j 4
  if st = 1 then 1 else if st = 3 then 4 else if st = 4 then 5 else if st = 2 then ca_iv g 10 j 5 else 2
/-- a new message, in the table -/
def ca_mk (g : ca_S) (s n : Nat) (nm fn : Int32) (u : Nat) (v : Int32) : ca_S :=
  let j := ca_nm g
  (fun a b c => if a = 10 ∧ b = j then (if c = 0 then nm else if c = 1 then fn else if c = 3 then v else 0) else g.1 a b c,
   fun a b => if a = s ∧ b = n then some j else g.2.1 a b, fun b => if b = j then u else g.2.2.1 b, g.2.2.2.1, j + 1)
def ca_retry : Nat → ca_S → ca_S
  | 0, g => g
  | n + 1, g => ca_retry n (match ca_ln g 3 with
    | [] => g
    | j :: r => ca_turn (ca_sn g 3 r) j true)
def ca_longs : Nat → ca_S → ca_S
  | 0, g => g
  | n + 1, g => match ca_ln g 2 with
    | [] => g
    | j :: r => if ca_iv g 0 0 7 - ca_iv g 10 j 7 ≤ 50 then g else ca_longs n (ca_app (ca_si (ca_sn g 2 r) 10 j 4 5) 1 j)
def ca_tick (g : ca_S) (t : Int32) : ca_S :=
  let g1 := ca_si g 0 0 7 t
  let g2 := ca_retry (ca_ln g1 3).length g1
  ca_longs (ca_ln g2 2).length g2
def ca_beh (g : ca_S) (s : Nat) (b : Int32) : Nat → Nat → Bool
  | _, 0 => false
  | n, f + 1 => (match ca_tb g s n with
    | none => false
    | some j => decide (¬ ca_iv g 10 j 4 = 6) && decide (ca_iv g 10 j 6 < b)) || ca_beh g s b (n + 1) f
def ca_cnt (g : ca_S) (s : Nat) (v : Int32) : Nat → Nat → Nat → Nat
  | _, 0, a => a
  | n, f + 1, a => ca_cnt g s v (n + 1) f (match ca_tb g s n with
    | none => a
    | some j => if ca_iv g 10 j 4 = v then a + 1 else a)
def ca_lose (s : Nat) : Nat → Nat → ca_S → Nat → ca_S × Nat
  | _, 0, g, a => (g, a)
  | n, f + 1, g, a => match ca_tb g s n with
    | none => ca_lose s (n + 1) f g a
    | some j => if ca_iv g 10 j 4 = 0 then ca_lose s (n + 1) f (ca_si g 10 j 4 6) (a + 1) else ca_lose s (n + 1) f g a
def ca_rep (s : Nat) : Nat → Nat → ca_S → Nat → ca_S × Nat
  | _, 0, g, a => (g, a)
  | n, f + 1, g, a => match ca_tb g s n with
    | none => ca_rep s (n + 1) f g a
    | some j => if ca_iv g 10 j 4 = 6 ∧ ca_gap g s n = true then ca_rep s (n + 1) f (ca_come g s j) (a + 1) else ca_rep s (n + 1) f g a
def ca_great (g : ca_S) (s : Nat) : Nat → Nat
  | 0 => 0
  | n + 1 => if ca_here g (ca_tb g s (n + 1)) then n + 1 else ca_great g s n
end
section
/-! what holds of every state of the class; what a step of it keeps -/
def ca_ok (g : ca_S) : Prop :=
  (∀ s n j, ca_tb g s n = some j → j < ca_nm g) ∧ (∀ x j, j ∈ ca_ln g x → j < ca_nm g) ∧ (∀ x, (ca_ln g x).length ≤ 96) ∧ ∀ j, j < ca_nm g → ca_ms g j < 16 ∧ ¬ ca_iv g 10 j 1 < 0 ∧ (ca_iv g 10 j 1).toNatClampNeg < 5
def ca_to (g g' : ca_S) : Prop := ca_tb g' = ca_tb g ∧ ca_ms g' = ca_ms g ∧ ca_nm g' = ca_nm g ∧ (∀ j f, f = 0 ∨ f = 1 ∨ f = 3 → ca_iv g' 10 j f = ca_iv g 10 j f) ∧ ca_ok g'
theorem ca_to.rf {g : ca_S} (h : ca_ok g) : ca_to g g := ⟨rfl, rfl, rfl, fun _ _ _ => rfl, h⟩
theorem ca_to.tr {a b c : ca_S} (h : ca_to a b) (h' : ca_to b c) : ca_to a c := ⟨h'.1.trans h.1, h'.2.1.trans h.2.1, h'.2.2.1.trans h.2.2.1, fun j f hf => (h'.2.2.2.1 j f hf).trans (h.2.2.2.1 j f hf), h'.2.2.2.2⟩
theorem ca_to.ok {g g' : ca_S} (h : ca_to g g') : ca_ok g' := h.2.2.2.2
theorem ca_to.lt {g g' : ca_S} (h : ca_to g g') {j : Nat} (hj : j < ca_nm g) : j < ca_nm g' := by rw [h.2.2.1]; exact hj
theorem ca_iv_s (g : ca_S) (k i f : Nat) (v : Int32) : ca_iv (ca_si g k i f v) k i f = v := mr_u3_s _ _ _ _ _
theorem ca_iv_n (g : ca_S) (k i f : Nat) (v : Int32) {a b c : Nat} (h : ¬ (a = k ∧ b = i ∧ c = f)) : ca_iv (ca_si g k i f v) a b c = ca_iv g a b c := mr_u3_n _ _ _ _ _ h
theorem ca_to.si {g : ca_S} (h : ca_ok g) (k i f : Nat) (v : Int32) (hk : ¬ (k = 10 ∧ (f = 0 ∨ f = 1 ∨ f = 3))) : ca_to g (ca_si g k i f v) := by
  have key : ∀ j c, c = 0 ∨ c = 1 ∨ c = 3 → ca_iv (ca_si g k i f v) 10 j c = ca_iv g 10 j c := fun j c hc => ca_iv_n _ _ _ _ _ (fun z => hk ⟨z.1.symm, by rw [← z.2.2]; exact hc⟩)
  refine ⟨rfl, rfl, rfl, key, h.1, h.2.1, h.2.2.1, fun j hj => ?_⟩
  rw [key j 1 (Or.inr (Or.inl rfl))]
  exact h.2.2.2 j hj
theorem ca_ln_s (g : ca_S) (x : Nat) (l : List Nat) : ca_ln (ca_sn g x l) x = l := if_pos rfl
theorem ca_ln_n (g : ca_S) (x : Nat) (l : List Nat) {y : Nat} (h : y ≠ x) : ca_ln (ca_sn g x l) y = ca_ln g y := if_neg h
theorem ca_to.sn {g : ca_S} (h : ca_ok g) (x : Nat) (l : List Nat) (h1 : ∀ j ∈ l, j < ca_nm g) (h2 : l.length ≤ 96) : ca_to g (ca_sn g x l) := by
  refine ⟨rfl, rfl, rfl, fun _ _ _ => rfl, h.1, fun y j hj => ?_, fun y => ?_, h.2.2.2⟩
  · by_cases hy : y = x
    · subst hy
      rw [ca_ln_s] at hj
      exact h1 j hj
    · rw [ca_ln_n _ _ _ hy] at hj
      exact h.2.1 y j hj
  · by_cases hy : y = x
    · subst hy
      rw [ca_ln_s]
      exact h2
    · rw [ca_ln_n _ _ _ hy]
      exact h.2.2.1 y
theorem ca_to.app {g : ca_S} (h : ca_ok g) (x : Nat) {j : Nat} (hj : j < ca_nm g) : ca_to g (ca_app g x j) := by
  unfold ca_app
  split
  · next hlt =>
    refine ca_to.sn h x _ (fun i hi => ?_) ?_
    · rcases List.mem_append.mp hi with hi | hi
      · exact h.2.1 x i hi
      · rw [List.mem_singleton.mp hi]
        exact hj
    · rw [List.length_append, List.length_singleton]
      omega
  · exact ca_to.rf h
theorem ca_to.fail {g : ca_S} (h : ca_ok g) {j : Nat} (b : Bool) (hj : j < ca_nm g) : ca_to g (ca_fail g j b) :=
  have h1 := ca_to.si h 10 j 4 (if b then 5 else 4) (by omega)
  h1.tr (ca_to.app h1.ok _ (h1.lt hj))
theorem ca_to.act {g : ca_S} (h : ca_ok g) (j : Nat) : ca_to g (ca_act g j) := by
  unfold ca_act
  split
  · have h1 := ca_to.si h 7 (ca_ms g j) 0 1 (by omega)
    exact h1.tr (ca_to.si h1.ok _ _ _ _ (by omega))
  · split
    · exact ca_to.si h _ _ _ _ (by omega)
    · split
      · exact ca_to.si h _ _ _ _ (by omega)
      · split
        · exact ca_to.si h _ _ _ _ (by omega)
        · exact ca_to.si h _ _ _ _ (by omega)
theorem ca_to.perf {g : ca_S} (h : ca_ok g) {j : Nat} (hj : j < ca_nm g) : ca_to g (ca_perf g j) := by
  have h1 := ca_to.act h j
  have h2 := h1.tr (ca_to.si h1.ok 7 (ca_ms g j) 2 (ca_iv (ca_act g j) 7 (ca_ms g j) 2 + 1) (by omega))
  have h3 := h2.tr (ca_to.si h2.ok 10 j 4 1 (by omega))
  exact h3.tr (ca_to.app h3.ok 0 (h3.lt hj))
theorem ca_to.settle {g : ca_S} (h : ca_ok g) {j : Nat} (b : Bool) (hj : j < ca_nm g) : ca_to g (ca_settle g j b) := by
  unfold ca_settle
  split
  · have h1 := ca_to.si h 10 j 4 3 (by omega)
    have h2 := h1.tr (ca_to.si h1.ok 10 j 7 (ca_iv g 0 0 7) (by omega))
    exact h2.tr (ca_to.app h2.ok 2 (h2.lt hj))
  · split
    · have h1 := ca_to.si h 10 j 4 2 (by omega)
      exact h1.tr (ca_to.si h1.ok 10 j 5 _ (by omega))
    · split
      · have h1 := ca_to.si h 3 0 (ca_iv g 10 j 1).toNatClampNeg 0 (by omega)
        exact h1.tr (ca_to.fail h1.ok b (h1.lt hj))
      · exact ca_to.perf h hj
theorem ca_first_lt {g : ca_S} {u i : Nat} (h : ca_first g u = some i) : i < (ca_ln g 2).length := by
  unfold ca_first at h
  exact (List.findIdx?_eq_some_iff_findIdx_eq.mp h).1
theorem ca_getD {l : List Nat} {i : Nat} (h : i < l.length) : l.getD i 0 ∈ l := by
  rw [List.getD_eq_getElem?_getD, List.getElem?_eq_getElem h]
  exact List.getElem_mem h
theorem ca_to.take {g : ca_S} (h : ca_ok g) (x i : Nat) : ca_to g (ca_sn g x ((ca_ln g x).eraseIdx i)) :=
  ca_to.sn h x _ (fun j hj => h.2.1 x j (List.mem_of_mem_eraseIdx hj)) (Nat.le_trans (by rw [List.length_eraseIdx]; split <;> omega) (h.2.2.1 x))
theorem ca_to.wake (u : Nat) : ∀ (n : Nat) {g : ca_S}, ca_ok g → ca_to g (ca_wake u n g)
  | 0, g, h => ca_to.rf h
  | n + 1, g, h => by
    unfold ca_wake
    split
    · exact ca_to.rf h
    · next i hi =>
      have h1 := ca_to.take h 2 i
      have hj := h1.lt (h.2.1 2 _ (ca_getD (ca_first_lt hi)))
      have h2 := h1.tr (ca_to.settle h1.ok false hj)
      exact h2.tr (ca_to.wake u n h2.ok)
theorem ca_to.turn {g : ca_S} (h : ca_ok g) {j : Nat} (b : Bool) (hj : j < ca_nm g) : ca_to g (ca_turn g j b) := by
  unfold ca_turn
  have h1 := ca_to.settle h b hj
  simp only
  split
  · exact h1
  · exact h1.tr (ca_to.wake _ 12 h1.ok)
theorem ca_to.give (s : Nat) : ∀ (f n : Nat) {g : ca_S}, ca_ok g → ca_to g (ca_give s n f g)
  | 0, n, g, h => ca_to.rf h
  | f + 1, n, g, h => by
    unfold ca_give
    have h1 : ca_to g (match ca_tb g s n with | none => g | some j => if ca_iv g 10 j 4 = 0 then ca_turn g j false else g) := by
      split
      · exact ca_to.rf h
      · next j hj =>
        split
        · exact ca_to.turn h false (h.1 s n j hj)
        · exact ca_to.rf h
    exact h1.tr (ca_to.give s f (n + 1) h1.ok)
theorem ca_to.turns {g : ca_S} (h : ca_ok g) (s : Nat) : ca_to g (ca_turns g s) := ca_to.give s _ 1 h
theorem ca_to.come {g : ca_S} (h : ca_ok g) (s : Nat) {j : Nat} (hj : j < ca_nm g) : ca_to g (ca_come g s j) := by
  unfold ca_come
  have h1 := ca_to.si h 10 j 4 0 (by omega)
  have h2 := h1.tr (ca_to.si h1.ok 10 j 6 (ca_iv g 0 0 7) (by omega))
  simp only
  split
  · have h3 := h2.tr (ca_to.turn h2.ok false (h2.lt hj))
    exact h3.tr (ca_to.turns h3.ok s)
  · exact h2.tr (ca_to.turns h2.ok s)
theorem ca_to.retry : ∀ (n : Nat) {g : ca_S}, ca_ok g → ca_to g (ca_retry n g)
  | 0, g, h => ca_to.rf h
  | n + 1, g, h => by
    unfold ca_retry
    have h1 : ca_to g (match ca_ln g 3 with | [] => g | j :: r => ca_turn (ca_sn g 3 r) j true) := by
      split
      · exact ca_to.rf h
      · next j r hl =>
        have hj : j < ca_nm g := h.2.1 3 j (by rw [hl]; exact List.mem_cons_self)
        have h1 := ca_to.sn h 3 r (fun i hi => h.2.1 3 i (by rw [hl]; exact List.mem_cons_of_mem _ hi)) (by have := h.2.2.1 3; rw [hl, List.length_cons] at this; omega)
        exact h1.tr (ca_to.turn h1.ok true (h1.lt hj))
    exact h1.tr (ca_to.retry n h1.ok)
theorem ca_to.longs : ∀ (n : Nat) {g : ca_S}, ca_ok g → ca_to g (ca_longs n g)
  | 0, g, h => ca_to.rf h
  | n + 1, g, h => by
    unfold ca_longs
    split
    · exact ca_to.rf h
    · next j r hl =>
      split
      · exact ca_to.rf h
      · have hj : j < ca_nm g := h.2.1 2 j (by rw [hl]; exact List.mem_cons_self)
        have h1 := ca_to.sn h 2 r (fun i hi => h.2.1 2 i (by rw [hl]; exact List.mem_cons_of_mem _ hi)) (by have := h.2.2.1 2; rw [hl, List.length_cons] at this; omega)
        have h2 := h1.tr (ca_to.si h1.ok 10 j 4 5 (by omega))
        have h3 := h2.tr (ca_to.app h2.ok 1 (h2.lt hj))
        exact h3.tr (ca_to.longs n h3.ok)
theorem ca_to.tick {g : ca_S} (h : ca_ok g) (t : Int32) : ca_to g (ca_tick g t) := by
  unfold ca_tick
  have h1 := ca_to.si h 0 0 7 t (by omega)
  have h2 := h1.tr (ca_to.retry (ca_ln (ca_si g 0 0 7 t) 3).length h1.ok)
  exact h2.tr (ca_to.longs _ h2.ok)
theorem ca_to.lose (s : Nat) : ∀ (f n : Nat) {g : ca_S} (a : Nat), ca_ok g → ca_to g (ca_lose s n f g a).1
  | 0, n, g, a, h => ca_to.rf h
  | f + 1, n, g, a, h => by
    unfold ca_lose
    split
    · exact ca_to.lose s f (n + 1) a h
    · next j hj =>
      split
      · have h1 := ca_to.si h 10 j 4 6 (by omega)
        exact h1.tr (ca_to.lose s f (n + 1) (a + 1) h1.ok)
      · exact ca_to.lose s f (n + 1) a h
theorem ca_to.rep (s : Nat) : ∀ (f n : Nat) {g : ca_S} (a : Nat), ca_ok g → ca_to g (ca_rep s n f g a).1
  | 0, n, g, a, h => ca_to.rf h
  | f + 1, n, g, a, h => by
    unfold ca_rep
    split
    · exact ca_to.rep s f (n + 1) a h
    · next j hj =>
      split
      · have h1 := ca_to.come h s (h.1 s n j hj)
        exact h1.tr (ca_to.rep s f (n + 1) (a + 1) h1.ok)
      · exact ca_to.rep s f (n + 1) a h
theorem ca_ok.mk {g : ca_S} (h : ca_ok g) (s n : Nat) (nm fn : Int32) (u : Nat) (v : Int32) (hu : u < 16) (h1 : ¬ fn < 0) (h2 : fn.toNatClampNeg < 5) : ca_ok (ca_mk g s n nm fn u v) := by
  refine ⟨fun a b j hj => ?_, fun x j hj => Nat.lt_succ_of_lt (h.2.1 x j hj), h.2.2.1, fun j hj => ?_⟩
  · show j < ca_nm g + 1
    by_cases hab : a = s ∧ b = n
    · have : (some (ca_nm g) : Option Nat) = some j := (if_pos hab).symm.trans hj
      cases this
      exact Nat.lt_succ_self _
    · have := h.1 a b j ((if_neg hab).symm.trans hj)
      omega
  · by_cases hq : j = ca_nm g
    · subst hq
      have e1 : ca_ms (ca_mk g s n nm fn u v) (ca_nm g) = u := if_pos rfl
      have e2 : ca_iv (ca_mk g s n nm fn u v) 10 (ca_nm g) 1 = fn := by
        show (if (10 : Nat) = 10 ∧ ca_nm g = ca_nm g then _ else _) = fn
        rw [if_pos ⟨rfl, rfl⟩]
        rfl
      rw [e1, e2]
      exact ⟨hu, h1, h2⟩
    · have e1 : ca_ms (ca_mk g s n nm fn u v) j = ca_ms g j := if_neg hq
      have e2 : ca_iv (ca_mk g s n nm fn u v) 10 j 1 = ca_iv g 10 j 1 := if_neg (fun z => hq z.2)
      have hj' : j < ca_nm g + 1 := hj
      rw [e1, e2]
      exact h.2.2.2 j (by omega)
end
section
/-! the class's state as a raw state (kinds below 20; the rest is another's): 0 the object, 1 senders, 2 subjects, 3 failing, 4 Sender, 5 messages, 6 skipped, 7 Subject, 8 Line, 9 places, 10 Message -/
def ma_iv (g : ca_S) (q : mr_St) (k i f : Nat) : Int32 := if k = 8 then (if f = 1 then Int32.ofNat (ca_ln g i).length else 0) else if k < 20 then ca_iv g k i f else mr_iv q k i f
def ma_rv (g : ca_S) (q : mr_St) (k i f : Nat) : Option (Nat × Nat) :=
  if k = 0 then (if f = 0 then some (1, 0) else if f = 1 then some (2, 0) else if f = 2 then some (3, 0) else if f < 7 then some (8, f - 3) else none)
  else if k = 1 then (if f < 4 then some (4, f) else none)
  else if k = 2 then (if f < 16 then some (7, f) else none)
  else if k = 4 then (if f = 0 then some (5, i) else if f = 1 then some (6, i) else none)
  else if k = 5 then (ca_tb g i f).map (fun j => (10, j))
  else if k = 8 then (if f = 0 then some (9, i) else none)
  else if k = 9 then ((ca_ln g i)[f]?).map (fun j => (10, j))
  else if k = 10 then (if f = 2 then some (7, ca_ms g i) else none)
  else if k < 20 then none else mr_rv q k i f
def ma_pn (g : ca_S) (q : mr_St) (k : Nat) : Nat := if k < 4 then 1 else if k = 7 then 16 else if k < 10 then 4 else if k = 10 then ca_nm g else if k < 20 then 0 else mr_pn q k
def ma_lv (q : mr_St) (k i f : Nat) : Int64 := if k < 20 then 0 else mr_lv q k i f
def ma_R (g : ca_S) (q : mr_St) : mr_St := (ma_iv g q, ma_lv q, ma_rv g q, ma_pn g q)
theorem ma_sI (g : ca_S) (q : mr_St) (k i f : Nat) (v : Int32) (hk : k < 20) (h8 : k ≠ 8) : mr_sI (ma_R g q) k i f v = ma_R (ca_si g k i f v) q := by
  show (mr_u3 (ma_iv g q) k i f v, ma_lv q, ma_rv g q, ma_pn g q) = _
  refine Prod.ext ?_ rfl
  funext a b c
  show mr_u3 (ma_iv g q) k i f v a b c = ma_iv (ca_si g k i f v) q a b c
  by_cases h : a = k ∧ b = i ∧ c = f
  · obtain ⟨rfl, rfl, rfl⟩ := h
    rw [mr_u3_s]
    unfold ma_iv
    rw [if_neg h8, if_pos hk, ca_iv_s]
  · rw [mr_u3_n _ _ _ _ _ h]
    unfold ma_iv
    rw [ca_iv_n _ _ _ _ _ h]
    rfl
theorem ma_lst {x : Nat} (h : x < 4) (g : ca_S) (q : mr_St) : ma_rv g q 1 0 x = some (4, x) := by unfold ma_rv; rw [if_neg (by decide), if_pos rfl, if_pos h]
theorem ma_sub {x : Nat} (h : x < 16) (g : ca_S) (q : mr_St) : ma_rv g q 2 0 x = some (7, x) := by unfold ma_rv; rw [if_neg (by decide), if_neg (by decide), if_pos rfl, if_pos h]
theorem ma_wf {g : ca_S} {q : mr_St} (h : ca_ok g) (hq : ∀ k i f x, 20 ≤ k → i < mr_pn q k → mr_rv q k i f = some x → x.2 < mr_pn q x.1 ∧ 20 ≤ x.1) : mr_wf (ma_R g q) := by
  intro k i f x hi hx
  change i < ma_pn g q k at hi
  change ma_rv g q k i f = some x at hx
  show x.2 < ma_pn g q x.1
  unfold ma_rv at hx
  by_cases h0 : k = 0
  · subst h0
    rw [if_pos rfl] at hx
    split at hx
    · cases hx; exact Nat.zero_lt_one
    · split at hx
      · cases hx; exact Nat.zero_lt_one
      · split at hx
        · cases hx; exact Nat.zero_lt_one
        · split at hx
          · cases hx
            show f - 3 < ma_pn g q 8
            have : ma_pn g q 8 = 4 := rfl
            omega
          · cases hx
  rw [if_neg h0] at hx
  by_cases h1 : k = 1
  · rw [if_pos h1] at hx
    split at hx
    · cases hx; assumption
    · cases hx
  rw [if_neg h1] at hx
  by_cases h2 : k = 2
  · rw [if_pos h2] at hx
    split at hx
    · cases hx; assumption
    · cases hx
  rw [if_neg h2] at hx
  by_cases h4 : k = 4
  · subst h4
    rw [if_pos rfl] at hx
    split at hx
    · cases hx; exact hi
    · split at hx
      · cases hx; exact hi
      · cases hx
  rw [if_neg h4] at hx
  by_cases h5 : k = 5
  · rw [if_pos h5] at hx
    cases ht : ca_tb g i f with
    | none => rw [ht] at hx; cases hx
    | some j => rw [ht] at hx; cases hx; exact h.1 i f j ht
  rw [if_neg h5] at hx
  by_cases h8 : k = 8
  · subst h8
    rw [if_pos rfl] at hx
    split at hx
    · cases hx; exact hi
    · cases hx
  rw [if_neg h8] at hx
  by_cases h9 : k = 9
  · rw [if_pos h9] at hx
    cases ht : (ca_ln g i)[f]? with
    | none => rw [ht] at hx; cases hx
    | some j => rw [ht] at hx; cases hx; exact h.2.1 i j (List.mem_of_getElem? ht)
  rw [if_neg h9] at hx
  by_cases h10 : k = 10
  · subst h10
    rw [if_pos rfl] at hx
    split at hx
    · cases hx; exact (h.2.2.2 i hi).1
    · cases hx
  rw [if_neg h10] at hx
  by_cases h20 : k < 20
  · rw [if_pos h20] at hx; cases hx
  rw [if_neg h20] at hx
  have hp : ma_pn g q k = mr_pn q k := by
    unfold ma_pn
    rw [if_neg (by omega), if_neg (by omega), if_neg (by omega), if_neg h10, if_neg h20]
  rw [hp] at hi
  obtain ⟨g1, g2⟩ := hq k i f x (by omega) hi hx
  have hp2 : ma_pn g q x.1 = mr_pn q x.1 := by
    unfold ma_pn
    rw [if_neg (by omega), if_neg (by omega), if_neg (by omega), if_neg (by omega), if_neg (by omega)]
  rw [hp2]
  exact g1
end
section
-- ===== PART A: goes FIRST, ahead of the names: the tables' words, and 'selects' of the private methods out of them =====
/-- a private method of a class that the tables say can be made, by its rows of tables_1 -/
def lw_okq (q : MethodName × Nat) : Prop := (q.1.cls ≠ "java/lang/invoke/MethodHandle" ∧ q.1.cls ≠ "java/lang/invoke/VarHandle") ∧ Cond.instantiable q.1.cls q.2 ∈ tables_1 ∧ Cond.privateMethod q.1 ∈ tables_1 ∧ Cond.instanceMethod q.1 ∈ tables_1
theorem lw_p0 : lw_okq (⟨"java/lang/Throwable", "fillInStackTrace", "(I)Ljava/lang/Throwable;"⟩, 6) := ⟨⟨by decide +kernel, by decide +kernel⟩, List.mem_of_getElem? (i := 215) (by decide +kernel), List.mem_of_getElem? (i := 213) (by decide +kernel), List.mem_of_getElem? (i := 214) (by decide +kernel)⟩
theorem lw_p1 : lw_okq (⟨"MessageActs", "come", "(LMessageActs$Sender;LMessageActs$Message;)V"⟩, 9) := ⟨⟨by decide +kernel, by decide +kernel⟩, List.mem_of_getElem? (i := 13) (by decide +kernel), List.mem_of_getElem? (i := 304) (by decide +kernel), List.mem_of_getElem? (i := 305) (by decide +kernel)⟩
theorem lw_p2 : lw_okq (⟨"MessageActs", "haveTurn", "(LMessageActs$Message;Z)V"⟩, 9) := ⟨⟨by decide +kernel, by decide +kernel⟩, List.mem_of_getElem? (i := 13) (by decide +kernel), List.mem_of_getElem? (i := 308) (by decide +kernel), List.mem_of_getElem? (i := 309) (by decide +kernel)⟩
theorem lw_p3 : lw_okq (⟨"MessageActs", "settle", "(LMessageActs$Message;Z)V"⟩, 9) := ⟨⟨by decide +kernel, by decide +kernel⟩, List.mem_of_getElem? (i := 13) (by decide +kernel), List.mem_of_getElem? (i := 312) (by decide +kernel), List.mem_of_getElem? (i := 313) (by decide +kernel)⟩
theorem lw_p4 : lw_okq (⟨"MessageActs", "verdict", "(LMessageActs$Message;)I"⟩, 9) := ⟨⟨by decide +kernel, by decide +kernel⟩, List.mem_of_getElem? (i := 13) (by decide +kernel), List.mem_of_getElem? (i := 316) (by decide +kernel), List.mem_of_getElem? (i := 317) (by decide +kernel)⟩
theorem lw_p5 : lw_okq (⟨"MessageActs", "verdictIfOpenIsAsked", "(I)I"⟩, 9) := ⟨⟨by decide +kernel, by decide +kernel⟩, List.mem_of_getElem? (i := 13) (by decide +kernel), List.mem_of_getElem? (i := 321) (by decide +kernel), List.mem_of_getElem? (i := 322) (by decide +kernel)⟩
theorem lw_p6 : lw_okq (⟨"MessageActs", "fail", "(LMessageActs$Message;Z)V"⟩, 9) := ⟨⟨by decide +kernel, by decide +kernel⟩, List.mem_of_getElem? (i := 13) (by decide +kernel), List.mem_of_getElem? (i := 329) (by decide +kernel), List.mem_of_getElem? (i := 330) (by decide +kernel)⟩
theorem lw_p7 : lw_okq (⟨"MessageActs", "perform", "(LMessageActs$Message;)V"⟩, 9) := ⟨⟨by decide +kernel, by decide +kernel⟩, List.mem_of_getElem? (i := 13) (by decide +kernel), List.mem_of_getElem? (i := 333) (by decide +kernel), List.mem_of_getElem? (i := 334) (by decide +kernel)⟩
theorem lw_p8 : lw_okq (⟨"MessageActs", "giveTurns", "(LMessageActs$Sender;)V"⟩, 9) := ⟨⟨by decide +kernel, by decide +kernel⟩, List.mem_of_getElem? (i := 13) (by decide +kernel), List.mem_of_getElem? (i := 346) (by decide +kernel), List.mem_of_getElem? (i := 347) (by decide +kernel)⟩
theorem lw_p9 : lw_okq (⟨"MessageActs", "tryFailedAgain", "()V"⟩, 9) := ⟨⟨by decide +kernel, by decide +kernel⟩, List.mem_of_getElem? (i := 13) (by decide +kernel), List.mem_of_getElem? (i := 377) (by decide +kernel), List.mem_of_getElem? (i := 378) (by decide +kernel)⟩
theorem lw_p10 : lw_okq (⟨"MessageActs", "endLongWaits", "()V"⟩, 9) := ⟨⟨by decide +kernel, by decide +kernel⟩, List.mem_of_getElem? (i := 13) (by decide +kernel), List.mem_of_getElem? (i := 382) (by decide +kernel), List.mem_of_getElem? (i := 383) (by decide +kernel)⟩
theorem lw_p11 : lw_okq (⟨"MessageActsModel", "refuse", "(I)I"⟩, 23) := ⟨⟨by decide +kernel, by decide +kernel⟩, List.mem_of_getElem? (i := 448) (by decide +kernel), List.mem_of_getElem? (i := 542) (by decide +kernel), List.mem_of_getElem? (i := 543) (by decide +kernel)⟩
theorem lw_p12 : lw_okq (⟨"MessageActsModel", "isHere", "(I)Z"⟩, 23) := ⟨⟨by decide +kernel, by decide +kernel⟩, List.mem_of_getElem? (i := 448) (by decide +kernel), List.mem_of_getElem? (i := 546) (by decide +kernel), List.mem_of_getElem? (i := 547) (by decide +kernel)⟩
theorem lw_p13 : lw_okq (⟨"MessageActsModel", "comes", "(I)I"⟩, 23) := ⟨⟨by decide +kernel, by decide +kernel⟩, List.mem_of_getElem? (i := 448) (by decide +kernel), List.mem_of_getElem? (i := 550) (by decide +kernel), List.mem_of_getElem? (i := 551) (by decide +kernel)⟩
theorem lw_p14 : lw_okq (⟨"MessageActsModel", "gap", "(I)I"⟩, 23) := ⟨⟨by decide +kernel, by decide +kernel⟩, List.mem_of_getElem? (i := 448) (by decide +kernel), List.mem_of_getElem? (i := 554) (by decide +kernel), List.mem_of_getElem? (i := 555) (by decide +kernel)⟩
theorem lw_p15 : lw_okq (⟨"MessageActsModel", "takes", "(I)I"⟩, 23) := ⟨⟨by decide +kernel, by decide +kernel⟩, List.mem_of_getElem? (i := 448) (by decide +kernel), List.mem_of_getElem? (i := 558) (by decide +kernel), List.mem_of_getElem? (i := 559) (by decide +kernel)⟩
def lw_privs_1 : List (MethodName × Nat) := [(⟨"java/lang/Throwable", "fillInStackTrace", "(I)Ljava/lang/Throwable;"⟩, 6), (⟨"MessageActs", "come", "(LMessageActs$Sender;LMessageActs$Message;)V"⟩, 9), (⟨"MessageActs", "haveTurn", "(LMessageActs$Message;Z)V"⟩, 9), (⟨"MessageActs", "settle", "(LMessageActs$Message;Z)V"⟩, 9), (⟨"MessageActs", "verdict", "(LMessageActs$Message;)I"⟩, 9), (⟨"MessageActs", "verdictIfOpenIsAsked", "(I)I"⟩, 9), (⟨"MessageActs", "fail", "(LMessageActs$Message;Z)V"⟩, 9), (⟨"MessageActs", "perform", "(LMessageActs$Message;)V"⟩, 9), (⟨"MessageActs", "giveTurns", "(LMessageActs$Sender;)V"⟩, 9), (⟨"MessageActs", "tryFailedAgain", "()V"⟩, 9), (⟨"MessageActs", "endLongWaits", "()V"⟩, 9), (⟨"MessageActsModel", "refuse", "(I)I"⟩, 23), (⟨"MessageActsModel", "isHere", "(I)Z"⟩, 23), (⟨"MessageActsModel", "comes", "(I)I"⟩, 23), (⟨"MessageActsModel", "gap", "(I)I"⟩, 23), (⟨"MessageActsModel", "takes", "(I)I"⟩, 23)]
theorem lw_r1 : ∀ q ∈ lw_privs_1, lw_okq q := List.forall_mem_cons.mpr ⟨lw_p0, List.forall_mem_cons.mpr ⟨lw_p1, List.forall_mem_cons.mpr ⟨lw_p2, List.forall_mem_cons.mpr ⟨lw_p3, List.forall_mem_cons.mpr ⟨lw_p4, List.forall_mem_cons.mpr ⟨lw_p5, List.forall_mem_cons.mpr ⟨lw_p6, List.forall_mem_cons.mpr ⟨lw_p7, List.forall_mem_cons.mpr ⟨lw_p8, List.forall_mem_cons.mpr ⟨lw_p9, List.forall_mem_cons.mpr ⟨lw_p10, List.forall_mem_cons.mpr ⟨lw_p11, List.forall_mem_cons.mpr ⟨lw_p12, List.forall_mem_cons.mpr ⟨lw_p13, List.forall_mem_cons.mpr ⟨lw_p14, List.forall_mem_cons.mpr ⟨lw_p15, fun _ h => absurd h List.not_mem_nil⟩⟩⟩⟩⟩⟩⟩⟩⟩⟩⟩⟩⟩⟩⟩⟩
theorem lw_p16 : lw_okq (⟨"MessageActsModel", "decides", "(I)I"⟩, 23) := ⟨⟨by decide +kernel, by decide +kernel⟩, List.mem_of_getElem? (i := 448) (by decide +kernel), List.mem_of_getElem? (i := 562) (by decide +kernel), List.mem_of_getElem? (i := 563) (by decide +kernel)⟩
theorem lw_p17 : lw_okq (⟨"MessageActsModel", "rule", "(I)I"⟩, 23) := ⟨⟨by decide +kernel, by decide +kernel⟩, List.mem_of_getElem? (i := 448) (by decide +kernel), List.mem_of_getElem? (i := 566) (by decide +kernel), List.mem_of_getElem? (i := 567) (by decide +kernel)⟩
theorem lw_p18 : lw_okq (⟨"MessageActsModel", "many", "(I)I"⟩, 23) := ⟨⟨by decide +kernel, by decide +kernel⟩, List.mem_of_getElem? (i := 448) (by decide +kernel), List.mem_of_getElem? (i := 570) (by decide +kernel), List.mem_of_getElem? (i := 571) (by decide +kernel)⟩
theorem lw_p19 : lw_okq (⟨"MessageActsModel", "refused", "(II)I"⟩, 23) := ⟨⟨by decide +kernel, by decide +kernel⟩, List.mem_of_getElem? (i := 448) (by decide +kernel), List.mem_of_getElem? (i := 576) (by decide +kernel), List.mem_of_getElem? (i := 577) (by decide +kernel)⟩
theorem lw_p20 : lw_okq (⟨"MessageActsModel", "acts", "(I)V"⟩, 23) := ⟨⟨by decide +kernel, by decide +kernel⟩, List.mem_of_getElem? (i := 448) (by decide +kernel), List.mem_of_getElem? (i := 580) (by decide +kernel), List.mem_of_getElem? (i := 581) (by decide +kernel)⟩
theorem lw_p21 : lw_okq (⟨"MessageActsModel", "first", "(III)I"⟩, 23) := ⟨⟨by decide +kernel, by decide +kernel⟩, List.mem_of_getElem? (i := 448) (by decide +kernel), List.mem_of_getElem? (i := 584) (by decide +kernel), List.mem_of_getElem? (i := 585) (by decide +kernel)⟩
theorem lw_p22 : lw_okq (⟨"MessageActsModel", "releases", "(I)V"⟩, 23) := ⟨⟨by decide +kernel, by decide +kernel⟩, List.mem_of_getElem? (i := 448) (by decide +kernel), List.mem_of_getElem? (i := 588) (by decide +kernel), List.mem_of_getElem? (i := 589) (by decide +kernel)⟩
theorem lw_p23 : lw_okq (⟨"MessageActsModel", "isMessage", "(II)Z"⟩, 23) := ⟨⟨by decide +kernel, by decide +kernel⟩, List.mem_of_getElem? (i := 448) (by decide +kernel), List.mem_of_getElem? (i := 596) (by decide +kernel), List.mem_of_getElem? (i := 597) (by decide +kernel)⟩
def lw_privs_2 : List (MethodName × Nat) := [(⟨"MessageActsModel", "decides", "(I)I"⟩, 23), (⟨"MessageActsModel", "rule", "(I)I"⟩, 23), (⟨"MessageActsModel", "many", "(I)I"⟩, 23), (⟨"MessageActsModel", "refused", "(II)I"⟩, 23), (⟨"MessageActsModel", "acts", "(I)V"⟩, 23), (⟨"MessageActsModel", "first", "(III)I"⟩, 23), (⟨"MessageActsModel", "releases", "(I)V"⟩, 23), (⟨"MessageActsModel", "isMessage", "(II)Z"⟩, 23)]
theorem lw_r2 : ∀ q ∈ lw_privs_2, lw_okq q := List.forall_mem_cons.mpr ⟨lw_p16, List.forall_mem_cons.mpr ⟨lw_p17, List.forall_mem_cons.mpr ⟨lw_p18, List.forall_mem_cons.mpr ⟨lw_p19, List.forall_mem_cons.mpr ⟨lw_p20, List.forall_mem_cons.mpr ⟨lw_p21, List.forall_mem_cons.mpr ⟨lw_p22, List.forall_mem_cons.mpr ⟨lw_p23, fun _ h => absurd h List.not_mem_nil⟩⟩⟩⟩⟩⟩⟩⟩
def lw_privs : List (MethodName × Nat) := lw_privs_1 ++ (lw_privs_2)
def lw_tbl : List Cond := k2_sels lw_privs ++ tables_1
theorem lw_privs_ok : ∀ q ∈ lw_privs, lw_okq q := by
  show ∀ q ∈ lw_privs_1 ++ (lw_privs_2), lw_okq q
  exact List.forall_mem_append.mpr ⟨lw_r1, lw_r2⟩
-- ===== end of PART A; then your names; then what follows =====
end
section
/-! names: a class, its fields in the order of the slots, its methods (by a program out of the listing) -/
def mn_RA : String := "MessageActs"
def mn_TA : u_T := fun k => match k with
  | 0 => ("MessageActs", "senders", "[LMessageActs$Sender;", true)
  | 1 => ("MessageActs", "subjects", "[LMessageActs$Subject;", true)
  | 2 => ("MessageActs", "failing", "[Z", true)
  | 3 => ("MessageActs", "acts", "LMessageActs$Line;", true)
  | 4 => ("MessageActs", "deads", "LMessageActs$Line;", true)
  | 5 => ("MessageActs", "waiting", "LMessageActs$Line;", true)
  | 6 => ("MessageActs", "failed", "LMessageActs$Line;", true)
  | 7 => ("MessageActs", "now", "I", false)
  | _ => ("MessageActs", "doubles", "I", false)
def mn_yA : Nat → FieldType := fun k => match k with
  | 0 => .array (.object "MessageActs$Sender")
  | 1 => .array (.object "MessageActs$Subject")
  | 2 => .array .boolean
  | 3 => .object "MessageActs$Line"
  | 4 => .object "MessageActs$Line"
  | 5 => .object "MessageActs$Line"
  | 6 => .object "MessageActs$Line"
  | 7 => .int
  | _ => .int
theorem mn_nA : ∀ a, a < 9 → ∀ b, b < 9 → a ≠ b → (mn_TA a).2.1 ≠ (mn_TA b).2.1 := by decide +kernel
theorem mn_pA : ∀ k, k < 9 → parseFieldDescriptor (mn_TA k).2.2.1 = some (mn_yA k) := by decide +kernel
def mn_RL : String := "MessageActs$Line"
def mn_TL : u_T := fun k => match k with
  | 0 => ("MessageActs$Line", "places", "[LMessageActs$Message;", true)
  | _ => ("MessageActs$Line", "length", "I", false)
def mn_yL : Nat → FieldType := fun k => match k with
  | 0 => .array (.object "MessageActs$Message")
  | _ => .int
theorem mn_nL : ∀ a, a < 2 → ∀ b, b < 2 → a ≠ b → (mn_TL a).2.1 ≠ (mn_TL b).2.1 := by decide +kernel
theorem mn_pL : ∀ k, k < 2 → parseFieldDescriptor (mn_TL k).2.2.1 = some (mn_yL k) := by decide +kernel
def mn_RG : String := "MessageActs$Message"
def mn_TG : u_T := fun k => match k with
  | 0 => ("MessageActs$Message", "name", "I", true)
  | 1 => ("MessageActs$Message", "function", "I", true)
  | 2 => ("MessageActs$Message", "subject", "LMessageActs$Subject;", true)
  | 3 => ("MessageActs$Message", "v", "I", true)
  | 4 => ("MessageActs$Message", "status", "I", false)
  | 5 => ("MessageActs$Message", "answer", "I", false)
  | 6 => ("MessageActs$Message", "cameAt", "I", false)
  | _ => ("MessageActs$Message", "waitsSince", "I", false)
def mn_yG : Nat → FieldType := fun k => match k with
  | 0 => .int
  | 1 => .int
  | 2 => .object "MessageActs$Subject"
  | 3 => .int
  | 4 => .int
  | 5 => .int
  | 6 => .int
  | _ => .int
theorem mn_nG : ∀ a, a < 8 → ∀ b, b < 8 → a ≠ b → (mn_TG a).2.1 ≠ (mn_TG b).2.1 := by decide +kernel
theorem mn_pG : ∀ k, k < 8 → parseFieldDescriptor (mn_TG k).2.2.1 = some (mn_yG k) := by decide +kernel
def mn_RS : String := "MessageActs$Sender"
def mn_TS : u_T := fun k => match k with
  | 0 => ("MessageActs$Sender", "messages", "[LMessageActs$Message;", true)
  | _ => ("MessageActs$Sender", "skipped", "[Z", true)
def mn_yS : Nat → FieldType := fun k => match k with
  | 0 => .array (.object "MessageActs$Message")
  | _ => .array .boolean
theorem mn_nS : ∀ a, a < 2 → ∀ b, b < 2 → a ≠ b → (mn_TS a).2.1 ≠ (mn_TS b).2.1 := by decide +kernel
theorem mn_pS : ∀ k, k < 2 → parseFieldDescriptor (mn_TS k).2.2.1 = some (mn_yS k) := by decide +kernel
def mn_RU : String := "MessageActs$Subject"
def mn_TU : u_T := fun k => match k with
  | 0 => ("MessageActs$Subject", "state", "I", false)
  | 1 => ("MessageActs$Subject", "value", "I", false)
  | _ => ("MessageActs$Subject", "acts", "I", false)
def mn_yU : Nat → FieldType := fun k => match k with
  | 0 => .int
  | 1 => .int
  | _ => .int
theorem mn_nU : ∀ a, a < 3 → ∀ b, b < 3 → a ≠ b → (mn_TU a).2.1 ≠ (mn_TU b).2.1 := by decide +kernel
theorem mn_pU : ∀ k, k < 3 → parseFieldDescriptor (mn_TU k).2.2.1 = some (mn_yU k) := by decide +kernel
def mn_RB : String := "MessageActsModel"
def mn_TB : u_T := fun k => match k with
  | 0 => ("MessageActsModel", "thrown", "I", false)
  | 1 => ("MessageActsModel", "now", "I", false)
  | 2 => ("MessageActsModel", "subjectState", "[I", true)
  | 3 => ("MessageActsModel", "subjectValue", "[I", true)
  | 4 => ("MessageActsModel", "actedOn", "[I", true)
  | 5 => ("MessageActsModel", "came", "[Z", true)
  | 6 => ("MessageActsModel", "skipped", "[Z", true)
  | 7 => ("MessageActsModel", "function", "[I", true)
  | 8 => ("MessageActsModel", "subject", "[I", true)
  | 9 => ("MessageActsModel", "value", "[I", true)
  | 10 => ("MessageActsModel", "status", "[I", true)
  | 11 => ("MessageActsModel", "answer", "[I", true)
  | 12 => ("MessageActsModel", "cameAt", "[I", true)
  | 13 => ("MessageActsModel", "since", "[I", true)
  | 14 => ("MessageActsModel", "second", "[Z", true)
  | 15 => ("MessageActsModel", "turn", "[I", true)
  | 16 => ("MessageActsModel", "turns", "I", false)
  | 17 => ("MessageActsModel", "failing", "[Z", true)
  | 18 => ("MessageActsModel", "acts", "I", false)
  | 19 => ("MessageActsModel", "actOf", "[I", true)
  | 20 => ("MessageActsModel", "deads", "I", false)
  | 21 => ("MessageActsModel", "deadOf", "[I", true)
  | _ => ("MessageActsModel", "doubles", "I", false)
def mn_yB : Nat → FieldType := fun k => match k with
  | 0 => .int
  | 1 => .int
  | 2 => .array .int
  | 3 => .array .int
  | 4 => .array .int
  | 5 => .array .boolean
  | 6 => .array .boolean
  | 7 => .array .int
  | 8 => .array .int
  | 9 => .array .int
  | 10 => .array .int
  | 11 => .array .int
  | 12 => .array .int
  | 13 => .array .int
  | 14 => .array .boolean
  | 15 => .array .int
  | 16 => .int
  | 17 => .array .boolean
  | 18 => .int
  | 19 => .array .int
  | 20 => .int
  | 21 => .array .int
  | _ => .int
theorem mn_nB : ∀ a, a < 23 → ∀ b, b < 23 → a ≠ b → (mn_TB a).2.1 ≠ (mn_TB b).2.1 := by decide +kernel
theorem mn_pB : ∀ k, k < 23 → parseFieldDescriptor (mn_TB k).2.2.1 = some (mn_yB k) := by decide +kernel
def mn_RW : String := "MessageActsLaw"
abbrev mn_cl : List vw_C := [(mn_RA, mn_TA, 9), (mn_RL, mn_TL, 2), (mn_RG, mn_TG, 8), (mn_RS, mn_TS, 2), (mn_RU, mn_TU, 3), (mn_RB, mn_TB, 23)]
abbrev mc_A_init : ByteArray := prog_1_method_1_code
def my_A_init : MethodName := ⟨mn_RA, "<init>", "()V"⟩
abbrev mc_A_receive : ByteArray := prog_1_method_2_code
def my_A_receive : MethodName := ⟨mn_RA, "receive", "(IIIII)I"⟩
abbrev mc_A_status : ByteArray := prog_1_method_3_code
def my_A_status : MethodName := ⟨mn_RA, "status", "(II)I"⟩
abbrev mc_A_answer : ByteArray := prog_1_method_4_code
def my_A_answer : MethodName := ⟨mn_RA, "answer", "(II)I"⟩
abbrev mc_A_point : ByteArray := prog_1_method_5_code
def my_A_point : MethodName := ⟨mn_RA, "point", "(I)Z"⟩
abbrev mc_A_fails : ByteArray := prog_1_method_6_code
def my_A_fails : MethodName := ⟨mn_RA, "fails", "(IZ)Z"⟩
abbrev mc_A_tick : ByteArray := prog_1_method_7_code
def my_A_tick : MethodName := ⟨mn_RA, "tick", "(I)I"⟩
abbrev mc_A_skip : ByteArray := prog_1_method_8_code
def my_A_skip : MethodName := ⟨mn_RA, "skip", "(I)I"⟩
abbrev mc_A_cut : ByteArray := prog_1_method_9_code
def my_A_cut : MethodName := ⟨mn_RA, "cut", "(I)I"⟩
abbrev mc_A_replay : ByteArray := prog_1_method_10_code
def my_A_replay : MethodName := ⟨mn_RA, "replay", "(II)I"⟩
abbrev mc_A_look : ByteArray := prog_1_method_11_code
def my_A_look : MethodName := ⟨mn_RA, "look", "(II)I"⟩
abbrev mc_A_act : ByteArray := prog_1_method_12_code
def my_A_act : MethodName := ⟨mn_RA, "act", "(I)I"⟩
abbrev mc_A_dead : ByteArray := prog_1_method_13_code
def my_A_dead : MethodName := ⟨mn_RA, "dead", "(I)I"⟩
abbrev mc_A_of : ByteArray := prog_1_method_14_code
def my_A_of : MethodName := ⟨mn_RA, "of", "(II)I"⟩
abbrev mc_A_count : ByteArray := prog_1_method_15_code
def my_A_count : MethodName := ⟨mn_RA, "count", "(I)I"⟩
abbrev mc_A_isSender : ByteArray := prog_1_method_16_code
def my_A_isSender : MethodName := ⟨mn_RA, "isSender", "(I)Z"⟩
abbrev mc_A_isSubject : ByteArray := prog_1_method_17_code
def my_A_isSubject : MethodName := ⟨mn_RA, "isSubject", "(I)Z"⟩
abbrev mc_A_isFunction : ByteArray := prog_1_method_18_code
def my_A_isFunction : MethodName := ⟨mn_RA, "isFunction", "(I)Z"⟩
abbrev mc_A_isNumber : ByteArray := prog_1_method_19_code
def my_A_isNumber : MethodName := ⟨mn_RA, "isNumber", "(I)Z"⟩
abbrev mc_A_isWithin : ByteArray := prog_1_method_20_code
def my_A_isWithin : MethodName := ⟨mn_RA, "isWithin", "(II)Z"⟩
abbrev mc_A_checkSender : ByteArray := prog_1_method_21_code
def my_A_checkSender : MethodName := ⟨mn_RA, "checkSender", "(I)V"⟩
abbrev mc_A_checkNumber : ByteArray := prog_1_method_22_code
def my_A_checkNumber : MethodName := ⟨mn_RA, "checkNumber", "(I)V"⟩
abbrev mc_A_checkContent : ByteArray := prog_1_method_23_code
def my_A_checkContent : MethodName := ⟨mn_RA, "checkContent", "(III)V"⟩
abbrev mc_A_come : ByteArray := prog_1_method_24_code
def my_A_come : MethodName := ⟨mn_RA, "come", "(LMessageActs$Sender;LMessageActs$Message;)V"⟩
abbrev mc_A_giveTurns : ByteArray := prog_1_method_25_code
def my_A_giveTurns : MethodName := ⟨mn_RA, "giveTurns", "(LMessageActs$Sender;)V"⟩
abbrev mc_A_haveTurn : ByteArray := prog_1_method_26_code
def my_A_haveTurn : MethodName := ⟨mn_RA, "haveTurn", "(LMessageActs$Message;Z)V"⟩
abbrev mc_A_settle : ByteArray := prog_1_method_27_code
def my_A_settle : MethodName := ⟨mn_RA, "settle", "(LMessageActs$Message;Z)V"⟩
abbrev mc_A_verdict : ByteArray := prog_1_method_28_code
def my_A_verdict : MethodName := ⟨mn_RA, "verdict", "(LMessageActs$Message;)I"⟩
abbrev mc_A_verdictIfOpenIsAsked : ByteArray := prog_1_method_29_code
def my_A_verdictIfOpenIsAsked : MethodName := ⟨mn_RA, "verdictIfOpenIsAsked", "(I)I"⟩
abbrev mc_A_fail : ByteArray := prog_1_method_30_code
def my_A_fail : MethodName := ⟨mn_RA, "fail", "(LMessageActs$Message;Z)V"⟩
abbrev mc_A_perform : ByteArray := prog_1_method_31_code
def my_A_perform : MethodName := ⟨mn_RA, "perform", "(LMessageActs$Message;)V"⟩
abbrev mc_A_tryFailedAgain : ByteArray := prog_1_method_32_code
def my_A_tryFailedAgain : MethodName := ⟨mn_RA, "tryFailedAgain", "()V"⟩
abbrev mc_A_endLongWaits : ByteArray := prog_1_method_33_code
def my_A_endLongWaits : MethodName := ⟨mn_RA, "endLongWaits", "()V"⟩
abbrev mc_A_received : ByteArray := prog_1_method_34_code
def my_A_received : MethodName := ⟨mn_RA, "received", "(LMessageActs$Message;)I"⟩
abbrev mc_A_nameAt : ByteArray := prog_1_method_35_code
def my_A_nameAt : MethodName := ⟨mn_RA, "nameAt", "(LMessageActs$Line;I)I"⟩
abbrev mc_B_init : ByteArray := prog_7_method_1_code
def my_B_init : MethodName := ⟨mn_RB, "<init>", "()V"⟩
abbrev mc_B_thrown : ByteArray := prog_7_method_2_code
def my_B_thrown : MethodName := ⟨mn_RB, "thrown", "()I"⟩
abbrev mc_B_refuse : ByteArray := prog_7_method_3_code
def my_B_refuse : MethodName := ⟨mn_RB, "refuse", "(I)I"⟩
abbrev mc_B_in : ByteArray := prog_7_method_4_code
def my_B_in : MethodName := ⟨mn_RB, "in", "(III)Z"⟩
abbrev mc_B_isSender : ByteArray := prog_7_method_5_code
def my_B_isSender : MethodName := ⟨mn_RB, "isSender", "(I)Z"⟩
abbrev mc_B_isNumber : ByteArray := prog_7_method_6_code
def my_B_isNumber : MethodName := ⟨mn_RB, "isNumber", "(I)Z"⟩
abbrev mc_B_isHere : ByteArray := prog_7_method_7_code
def my_B_isHere : MethodName := ⟨mn_RB, "isHere", "(I)Z"⟩
abbrev mc_B_gap : ByteArray := prog_7_method_8_code
def my_B_gap : MethodName := ⟨mn_RB, "gap", "(I)I"⟩
abbrev mc_B_many : ByteArray := prog_7_method_9_code
def my_B_many : MethodName := ⟨mn_RB, "many", "(I)I"⟩
abbrev mc_B_refused : ByteArray := prog_7_method_10_code
def my_B_refused : MethodName := ⟨mn_RB, "refused", "(II)I"⟩
abbrev mc_B_rule : ByteArray := prog_7_method_11_code
def my_B_rule : MethodName := ⟨mn_RB, "rule", "(I)I"⟩
abbrev mc_B_acts : ByteArray := prog_7_method_12_code
def my_B_acts : MethodName := ⟨mn_RB, "acts", "(I)V"⟩
abbrev mc_B_decides : ByteArray := prog_7_method_13_code
def my_B_decides : MethodName := ⟨mn_RB, "decides", "(I)I"⟩
abbrev mc_B_first : ByteArray := prog_7_method_14_code
def my_B_first : MethodName := ⟨mn_RB, "first", "(III)I"⟩
abbrev mc_B_takes : ByteArray := prog_7_method_15_code
def my_B_takes : MethodName := ⟨mn_RB, "takes", "(I)I"⟩
abbrev mc_B_releases : ByteArray := prog_7_method_16_code
def my_B_releases : MethodName := ⟨mn_RB, "releases", "(I)V"⟩
abbrev mc_B_comes : ByteArray := prog_7_method_17_code
def my_B_comes : MethodName := ⟨mn_RB, "comes", "(I)I"⟩
abbrev mc_B_receive : ByteArray := prog_7_method_18_code
def my_B_receive : MethodName := ⟨mn_RB, "receive", "(IIIII)I"⟩
abbrev mc_B_isMessage : ByteArray := prog_7_method_19_code
def my_B_isMessage : MethodName := ⟨mn_RB, "isMessage", "(II)Z"⟩
abbrev mc_B_status : ByteArray := prog_7_method_20_code
def my_B_status : MethodName := ⟨mn_RB, "status", "(II)I"⟩
abbrev mc_B_answer : ByteArray := prog_7_method_21_code
def my_B_answer : MethodName := ⟨mn_RB, "answer", "(II)I"⟩
abbrev mc_B_point : ByteArray := prog_7_method_22_code
def my_B_point : MethodName := ⟨mn_RB, "point", "(I)Z"⟩
abbrev mc_B_fails : ByteArray := prog_7_method_23_code
def my_B_fails : MethodName := ⟨mn_RB, "fails", "(IZ)Z"⟩
abbrev mc_B_tick : ByteArray := prog_7_method_24_code
def my_B_tick : MethodName := ⟨mn_RB, "tick", "(I)I"⟩
abbrev mc_B_skip : ByteArray := prog_7_method_25_code
def my_B_skip : MethodName := ⟨mn_RB, "skip", "(I)I"⟩
abbrev mc_B_cut : ByteArray := prog_7_method_26_code
def my_B_cut : MethodName := ⟨mn_RB, "cut", "(I)I"⟩
abbrev mc_B_replay : ByteArray := prog_7_method_27_code
def my_B_replay : MethodName := ⟨mn_RB, "replay", "(II)I"⟩
abbrev mc_B_look : ByteArray := prog_7_method_28_code
def my_B_look : MethodName := ⟨mn_RB, "look", "(II)I"⟩
abbrev mc_B_name : ByteArray := prog_7_method_29_code
def my_B_name : MethodName := ⟨mn_RB, "name", "(I)I"⟩
abbrev mc_B_act : ByteArray := prog_7_method_30_code
def my_B_act : MethodName := ⟨mn_RB, "act", "(I)I"⟩
abbrev mc_B_dead : ByteArray := prog_7_method_31_code
def my_B_dead : MethodName := ⟨mn_RB, "dead", "(I)I"⟩
abbrev mc_B_of : ByteArray := prog_7_method_32_code
def my_B_of : MethodName := ⟨mn_RB, "of", "(II)I"⟩
abbrev mc_B_count : ByteArray := prog_7_method_33_code
def my_B_count : MethodName := ⟨mn_RB, "count", "(I)I"⟩
abbrev mc_L_init : ByteArray := prog_2_method_1_code
def my_L_init : MethodName := ⟨mn_RL, "<init>", "()V"⟩
abbrev mc_L_append : ByteArray := prog_2_method_2_code
def my_L_append : MethodName := ⟨mn_RL, "append", "(LMessageActs$Message;)V"⟩
abbrev mc_L_get : ByteArray := prog_2_method_3_code
def my_L_get : MethodName := ⟨mn_RL, "get", "(I)LMessageActs$Message;"⟩
abbrev mc_L_take : ByteArray := prog_2_method_4_code
def my_L_take : MethodName := ⟨mn_RL, "take", "(I)LMessageActs$Message;"⟩
abbrev mc_L_takeFirstFor : ByteArray := prog_2_method_5_code
def my_L_takeFirstFor : MethodName := ⟨mn_RL, "takeFirstFor", "(LMessageActs$Subject;)LMessageActs$Message;"⟩
abbrev mc_L_lengthFor : ByteArray := prog_2_method_6_code
def my_L_lengthFor : MethodName := ⟨mn_RL, "lengthFor", "(LMessageActs$Subject;)I"⟩
abbrev mc_G_init : ByteArray := prog_3_method_1_code
def my_G_init : MethodName := ⟨mn_RG, "<init>", "(IILMessageActs$Subject;I)V"⟩
abbrev mc_S_init : ByteArray := prog_4_method_1_code
def my_S_init : MethodName := ⟨mn_RS, "<init>", "()V"⟩
abbrev mc_S_get : ByteArray := prog_4_method_2_code
def my_S_get : MethodName := ⟨mn_RS, "get", "(I)LMessageActs$Message;"⟩
abbrev mc_S_put : ByteArray := prog_4_method_3_code
def my_S_put : MethodName := ⟨mn_RS, "put", "(ILMessageActs$Message;)V"⟩
abbrev mc_S_close : ByteArray := prog_4_method_4_code
def my_S_close : MethodName := ⟨mn_RS, "close", "(I)V"⟩
abbrev mc_S_isGap : ByteArray := prog_4_method_5_code
def my_S_isGap : MethodName := ⟨mn_RS, "isGap", "(I)Z"⟩
abbrev mc_S_isHere : ByteArray := prog_4_method_6_code
def my_S_isHere : MethodName := ⟨mn_RS, "isHere", "(LMessageActs$Message;)Z"⟩
abbrev mc_S_leastGap : ByteArray := prog_4_method_7_code
def my_S_leastGap : MethodName := ⟨mn_RS, "leastGap", "()I"⟩
abbrev mc_S_greatest : ByteArray := prog_4_method_8_code
def my_S_greatest : MethodName := ⟨mn_RS, "greatest", "()I"⟩
abbrev mc_S_cameBehind : ByteArray := prog_4_method_9_code
def my_S_cameBehind : MethodName := ⟨mn_RS, "cameBehind", "(II)Z"⟩
abbrev mc_S_withStatus : ByteArray := prog_4_method_10_code
def my_S_withStatus : MethodName := ⟨mn_RS, "withStatus", "(I)I"⟩
abbrev mc_S_loseHeld : ByteArray := prog_4_method_11_code
def my_S_loseHeld : MethodName := ⟨mn_RS, "loseHeld", "()I"⟩
abbrev mc_U_init : ByteArray := prog_5_method_1_code
def my_U_init : MethodName := ⟨mn_RU, "<init>", "()V"⟩
abbrev mc_W_receive : ByteArray := method_3_code
def my_W_receive : MethodName := ⟨mn_RW, "receive", "(LMessageActs;IIIII[J)I"⟩
abbrev mc_W_status : ByteArray := method_4_code
def my_W_status : MethodName := ⟨mn_RW, "status", "(LMessageActs;II[J)I"⟩
abbrev mc_W_answer : ByteArray := method_5_code
def my_W_answer : MethodName := ⟨mn_RW, "answer", "(LMessageActs;II[J)I"⟩
abbrev mc_W_tick : ByteArray := method_6_code
def my_W_tick : MethodName := ⟨mn_RW, "tick", "(LMessageActs;I[J)I"⟩
abbrev mc_W_skip : ByteArray := method_7_code
def my_W_skip : MethodName := ⟨mn_RW, "skip", "(LMessageActs;I[J)I"⟩
abbrev mc_W_cut : ByteArray := method_8_code
def my_W_cut : MethodName := ⟨mn_RW, "cut", "(LMessageActs;I[J)I"⟩
abbrev mc_W_replay : ByteArray := method_9_code
def my_W_replay : MethodName := ⟨mn_RW, "replay", "(LMessageActs;II[J)I"⟩
abbrev mc_W_look : ByteArray := method_10_code
def my_W_look : MethodName := ⟨mn_RW, "look", "(LMessageActs;II[J)I"⟩
abbrev mc_W_law : ByteArray := code
def my_W_law : MethodName := ⟨mn_RW, "law", "([I)Z"⟩
end
section
theorem md_A_init_0 : decode mc_A_init 0 = .ok (.aload_n 0, 1) := by decide +kernel
theorem md_A_init_1 : decode mc_A_init 1 = .ok (.invokespecial 3, 3) := by decide +kernel
theorem md_A_init_4 : decode mc_A_init 4 = .ok (.aload_n 0, 1) := by decide +kernel
theorem md_A_init_5 : decode mc_A_init 5 = .ok (.iconst 4, 1) := by decide +kernel
theorem md_A_init_6 : decode mc_A_init 6 = .ok (.anewarray 9, 3) := by decide +kernel
theorem md_A_init_9 : decode mc_A_init 9 = .ok (.putfield 11, 3) := by decide +kernel
theorem md_A_init_12 : decode mc_A_init 12 = .ok (.aload_n 0, 1) := by decide +kernel
theorem md_A_init_13 : decode mc_A_init 13 = .ok (.bipush 16, 2) := by decide +kernel
theorem md_A_init_15 : decode mc_A_init 15 = .ok (.anewarray 15, 3) := by decide +kernel
theorem md_A_init_18 : decode mc_A_init 18 = .ok (.putfield 17, 3) := by decide +kernel
theorem md_A_init_21 : decode mc_A_init 21 = .ok (.aload_n 0, 1) := by decide +kernel
theorem md_A_init_22 : decode mc_A_init 22 = .ok (.iconst 5, 1) := by decide +kernel
theorem md_A_init_23 : decode mc_A_init 23 = .ok (.newarray .boolean, 2) := by decide +kernel
theorem md_A_init_25 : decode mc_A_init 25 = .ok (.putfield 21, 3) := by decide +kernel
theorem md_A_init_28 : decode mc_A_init 28 = .ok (.aload_n 0, 1) := by decide +kernel
theorem md_A_init_29 : decode mc_A_init 29 = .ok (.new 25, 3) := by decide +kernel
theorem md_A_init_32 : decode mc_A_init 32 = .ok (.dup, 1) := by decide +kernel
theorem md_A_init_33 : decode mc_A_init 33 = .ok (.invokespecial 27, 3) := by decide +kernel
theorem md_A_init_36 : decode mc_A_init 36 = .ok (.putfield 28, 3) := by decide +kernel
theorem md_A_init_39 : decode mc_A_init 39 = .ok (.aload_n 0, 1) := by decide +kernel
theorem md_A_init_40 : decode mc_A_init 40 = .ok (.new 25, 3) := by decide +kernel
theorem md_A_init_43 : decode mc_A_init 43 = .ok (.dup, 1) := by decide +kernel
theorem md_A_init_44 : decode mc_A_init 44 = .ok (.invokespecial 27, 3) := by decide +kernel
theorem md_A_init_47 : decode mc_A_init 47 = .ok (.putfield 32, 3) := by decide +kernel
theorem md_A_init_50 : decode mc_A_init 50 = .ok (.aload_n 0, 1) := by decide +kernel
theorem md_A_init_51 : decode mc_A_init 51 = .ok (.new 25, 3) := by decide +kernel
theorem md_A_init_54 : decode mc_A_init 54 = .ok (.dup, 1) := by decide +kernel
theorem md_A_init_55 : decode mc_A_init 55 = .ok (.invokespecial 27, 3) := by decide +kernel
theorem md_A_init_58 : decode mc_A_init 58 = .ok (.putfield 35, 3) := by decide +kernel
theorem md_A_init_61 : decode mc_A_init 61 = .ok (.aload_n 0, 1) := by decide +kernel
theorem md_A_init_62 : decode mc_A_init 62 = .ok (.new 25, 3) := by decide +kernel
theorem md_A_init_65 : decode mc_A_init 65 = .ok (.dup, 1) := by decide +kernel
theorem md_A_init_66 : decode mc_A_init 66 = .ok (.invokespecial 27, 3) := by decide +kernel
theorem md_A_init_69 : decode mc_A_init 69 = .ok (.putfield 38, 3) := by decide +kernel
theorem md_A_init_72 : decode mc_A_init 72 = .ok (.aload_n 0, 1) := by decide +kernel
theorem md_A_init_73 : decode mc_A_init 73 = .ok (.iconst 0, 1) := by decide +kernel
theorem md_A_init_74 : decode mc_A_init 74 = .ok (.putfield 41, 3) := by decide +kernel
theorem md_A_init_77 : decode mc_A_init 77 = .ok (.aload_n 0, 1) := by decide +kernel
theorem md_A_init_78 : decode mc_A_init 78 = .ok (.iconst 0, 1) := by decide +kernel
theorem md_A_init_79 : decode mc_A_init 79 = .ok (.putfield 45, 3) := by decide +kernel
theorem md_A_init_82 : decode mc_A_init 82 = .ok (.iconst 0, 1) := by decide +kernel
theorem md_A_init_83 : decode mc_A_init 83 = .ok (.istore_n 1, 1) := by decide +kernel
theorem md_A_init_84 : decode mc_A_init 84 = .ok (.iload_n 1, 1) := by decide +kernel
theorem md_A_init_85 : decode mc_A_init 85 = .ok (.iconst 4, 1) := by decide +kernel
theorem md_A_init_86 : decode mc_A_init 86 = .ok (.if_icmp .ge 22, 3) := by decide +kernel
theorem md_A_init_89 : decode mc_A_init 89 = .ok (.aload_n 0, 1) := by decide +kernel
theorem md_A_init_90 : decode mc_A_init 90 = .ok (.getfield 11, 3) := by decide +kernel
theorem md_A_init_93 : decode mc_A_init 93 = .ok (.iload_n 1, 1) := by decide +kernel
theorem md_A_init_94 : decode mc_A_init 94 = .ok (.new 9, 3) := by decide +kernel
theorem md_A_init_97 : decode mc_A_init 97 = .ok (.dup, 1) := by decide +kernel
theorem md_A_init_98 : decode mc_A_init 98 = .ok (.invokespecial 48, 3) := by decide +kernel
theorem md_A_init_101 : decode mc_A_init 101 = .ok (.aastore, 1) := by decide +kernel
theorem md_A_init_102 : decode mc_A_init 102 = .ok (.iinc 1 1, 3) := by decide +kernel
theorem md_A_init_105 : decode mc_A_init 105 = .ok (.goto (-21), 3) := by decide +kernel
theorem md_A_init_108 : decode mc_A_init 108 = .ok (.iconst 0, 1) := by decide +kernel
theorem md_A_init_109 : decode mc_A_init 109 = .ok (.istore_n 1, 1) := by decide +kernel
theorem md_A_init_110 : decode mc_A_init 110 = .ok (.iload_n 1, 1) := by decide +kernel
theorem md_A_init_111 : decode mc_A_init 111 = .ok (.bipush 16, 2) := by decide +kernel
theorem md_A_init_113 : decode mc_A_init 113 = .ok (.if_icmp .ge 22, 3) := by decide +kernel
theorem md_A_init_116 : decode mc_A_init 116 = .ok (.aload_n 0, 1) := by decide +kernel
theorem md_A_init_117 : decode mc_A_init 117 = .ok (.getfield 17, 3) := by decide +kernel
theorem md_A_init_120 : decode mc_A_init 120 = .ok (.iload_n 1, 1) := by decide +kernel
theorem md_A_init_121 : decode mc_A_init 121 = .ok (.new 15, 3) := by decide +kernel
theorem md_A_init_124 : decode mc_A_init 124 = .ok (.dup, 1) := by decide +kernel
theorem md_A_init_125 : decode mc_A_init 125 = .ok (.invokespecial 49, 3) := by decide +kernel
theorem md_A_init_128 : decode mc_A_init 128 = .ok (.aastore, 1) := by decide +kernel
theorem md_A_init_129 : decode mc_A_init 129 = .ok (.iinc 1 1, 3) := by decide +kernel
theorem md_A_init_132 : decode mc_A_init 132 = .ok (.goto (-22), 3) := by decide +kernel
theorem md_A_init_135 : decode mc_A_init 135 = .ok (.return_, 1) := by decide +kernel
theorem md_A_receive_0 : decode mc_A_receive 0 = .ok (.iload_n 1, 1) := by decide +kernel
theorem md_A_receive_1 : decode mc_A_receive 1 = .ok (.invokestatic 50, 3) := by decide +kernel
theorem md_A_receive_4 : decode mc_A_receive 4 = .ok (.iload_n 2, 1) := by decide +kernel
theorem md_A_receive_5 : decode mc_A_receive 5 = .ok (.invokestatic 54, 3) := by decide +kernel
theorem md_A_receive_8 : decode mc_A_receive 8 = .ok (.iload_n 3, 1) := by decide +kernel
theorem md_A_receive_9 : decode mc_A_receive 9 = .ok (.iload 4, 2) := by decide +kernel
theorem md_A_receive_11 : decode mc_A_receive 11 = .ok (.iload 5, 2) := by decide +kernel
theorem md_A_receive_13 : decode mc_A_receive 13 = .ok (.invokestatic 57, 3) := by decide +kernel
theorem md_A_receive_16 : decode mc_A_receive 16 = .ok (.aload_n 0, 1) := by decide +kernel
theorem md_A_receive_17 : decode mc_A_receive 17 = .ok (.getfield 11, 3) := by decide +kernel
theorem md_A_receive_20 : decode mc_A_receive 20 = .ok (.iload_n 1, 1) := by decide +kernel
theorem md_A_receive_21 : decode mc_A_receive 21 = .ok (.aaload, 1) := by decide +kernel
theorem md_A_receive_22 : decode mc_A_receive 22 = .ok (.astore 6, 2) := by decide +kernel
theorem md_A_receive_24 : decode mc_A_receive 24 = .ok (.aload 6, 2) := by decide +kernel
theorem md_A_receive_26 : decode mc_A_receive 26 = .ok (.iload_n 2, 1) := by decide +kernel
theorem md_A_receive_27 : decode mc_A_receive 27 = .ok (.invokevirtual 61, 3) := by decide +kernel
theorem md_A_receive_30 : decode mc_A_receive 30 = .ok (.ifCond .ne 15, 3) := by decide +kernel
theorem md_A_receive_33 : decode mc_A_receive 33 = .ok (.aload_n 0, 1) := by decide +kernel
theorem md_A_receive_34 : decode mc_A_receive 34 = .ok (.dup, 1) := by decide +kernel
theorem md_A_receive_35 : decode mc_A_receive 35 = .ok (.getfield 45, 3) := by decide +kernel
theorem md_A_receive_38 : decode mc_A_receive 38 = .ok (.iconst 1, 1) := by decide +kernel
theorem md_A_receive_39 : decode mc_A_receive 39 = .ok (.iadd, 1) := by decide +kernel
theorem md_A_receive_40 : decode mc_A_receive 40 = .ok (.putfield 45, 3) := by decide +kernel
theorem md_A_receive_43 : decode mc_A_receive 43 = .ok (.iconst 3, 1) := by decide +kernel
theorem md_A_receive_44 : decode mc_A_receive 44 = .ok (.ireturn, 1) := by decide +kernel
theorem md_A_receive_45 : decode mc_A_receive 45 = .ok (.new 65, 3) := by decide +kernel
theorem md_A_receive_48 : decode mc_A_receive 48 = .ok (.dup, 1) := by decide +kernel
theorem md_A_receive_49 : decode mc_A_receive 49 = .ok (.sipush 1000, 3) := by decide +kernel
theorem md_A_receive_52 : decode mc_A_receive 52 = .ok (.iload_n 1, 1) := by decide +kernel
theorem md_A_receive_53 : decode mc_A_receive 53 = .ok (.imul, 1) := by decide +kernel
theorem md_A_receive_54 : decode mc_A_receive 54 = .ok (.iload_n 2, 1) := by decide +kernel
theorem md_A_receive_55 : decode mc_A_receive 55 = .ok (.iadd, 1) := by decide +kernel
theorem md_A_receive_56 : decode mc_A_receive 56 = .ok (.iload_n 3, 1) := by decide +kernel
theorem md_A_receive_57 : decode mc_A_receive 57 = .ok (.aload_n 0, 1) := by decide +kernel
theorem md_A_receive_58 : decode mc_A_receive 58 = .ok (.getfield 17, 3) := by decide +kernel
theorem md_A_receive_61 : decode mc_A_receive 61 = .ok (.iload 4, 2) := by decide +kernel
theorem md_A_receive_63 : decode mc_A_receive 63 = .ok (.aaload, 1) := by decide +kernel
theorem md_A_receive_64 : decode mc_A_receive 64 = .ok (.iload 5, 2) := by decide +kernel
theorem md_A_receive_66 : decode mc_A_receive 66 = .ok (.invokespecial 67, 3) := by decide +kernel
theorem md_A_receive_69 : decode mc_A_receive 69 = .ok (.astore 7, 2) := by decide +kernel
theorem md_A_receive_71 : decode mc_A_receive 71 = .ok (.aload 6, 2) := by decide +kernel
theorem md_A_receive_73 : decode mc_A_receive 73 = .ok (.iload_n 2, 1) := by decide +kernel
theorem md_A_receive_74 : decode mc_A_receive 74 = .ok (.aload 7, 2) := by decide +kernel
theorem md_A_receive_76 : decode mc_A_receive 76 = .ok (.invokevirtual 70, 3) := by decide +kernel
theorem md_A_receive_79 : decode mc_A_receive 79 = .ok (.aload_n 0, 1) := by decide +kernel
theorem md_A_receive_80 : decode mc_A_receive 80 = .ok (.aload 6, 2) := by decide +kernel
theorem md_A_receive_82 : decode mc_A_receive 82 = .ok (.aload 7, 2) := by decide +kernel
theorem md_A_receive_84 : decode mc_A_receive 84 = .ok (.invokevirtual 74, 3) := by decide +kernel
theorem md_A_receive_87 : decode mc_A_receive 87 = .ok (.aload 7, 2) := by decide +kernel
theorem md_A_receive_89 : decode mc_A_receive 89 = .ok (.invokestatic 78, 3) := by decide +kernel
theorem md_A_receive_92 : decode mc_A_receive 92 = .ok (.ireturn, 1) := by decide +kernel
theorem md_A_status_0 : decode mc_A_status 0 = .ok (.iload_n 1, 1) := by decide +kernel
theorem md_A_status_1 : decode mc_A_status 1 = .ok (.invokestatic 50, 3) := by decide +kernel
theorem md_A_status_4 : decode mc_A_status 4 = .ok (.iload_n 2, 1) := by decide +kernel
theorem md_A_status_5 : decode mc_A_status 5 = .ok (.invokestatic 54, 3) := by decide +kernel
theorem md_A_status_8 : decode mc_A_status 8 = .ok (.aload_n 0, 1) := by decide +kernel
theorem md_A_status_9 : decode mc_A_status 9 = .ok (.getfield 11, 3) := by decide +kernel
theorem md_A_status_12 : decode mc_A_status 12 = .ok (.iload_n 1, 1) := by decide +kernel
theorem md_A_status_13 : decode mc_A_status 13 = .ok (.aaload, 1) := by decide +kernel
theorem md_A_status_14 : decode mc_A_status 14 = .ok (.iload_n 2, 1) := by decide +kernel
theorem md_A_status_15 : decode mc_A_status 15 = .ok (.invokevirtual 82, 3) := by decide +kernel
theorem md_A_status_18 : decode mc_A_status 18 = .ok (.astore_n 3, 1) := by decide +kernel
theorem md_A_status_19 : decode mc_A_status 19 = .ok (.aload_n 3, 1) := by decide +kernel
theorem md_A_status_20 : decode mc_A_status 20 = .ok (.ifnonnull 7, 3) := by decide +kernel
theorem md_A_status_23 : decode mc_A_status 23 = .ok (.iconst (-1), 1) := by decide +kernel
theorem md_A_status_24 : decode mc_A_status 24 = .ok (.goto 7, 3) := by decide +kernel
theorem md_A_status_27 : decode mc_A_status 27 = .ok (.aload_n 3, 1) := by decide +kernel
theorem md_A_status_28 : decode mc_A_status 28 = .ok (.getfield 86, 3) := by decide +kernel
theorem md_A_status_31 : decode mc_A_status 31 = .ok (.ireturn, 1) := by decide +kernel
theorem md_A_answer_0 : decode mc_A_answer 0 = .ok (.iload_n 1, 1) := by decide +kernel
theorem md_A_answer_1 : decode mc_A_answer 1 = .ok (.invokestatic 50, 3) := by decide +kernel
theorem md_A_answer_4 : decode mc_A_answer 4 = .ok (.iload_n 2, 1) := by decide +kernel
theorem md_A_answer_5 : decode mc_A_answer 5 = .ok (.invokestatic 54, 3) := by decide +kernel
theorem md_A_answer_8 : decode mc_A_answer 8 = .ok (.aload_n 0, 1) := by decide +kernel
theorem md_A_answer_9 : decode mc_A_answer 9 = .ok (.getfield 11, 3) := by decide +kernel
theorem md_A_answer_12 : decode mc_A_answer 12 = .ok (.iload_n 1, 1) := by decide +kernel
theorem md_A_answer_13 : decode mc_A_answer 13 = .ok (.aaload, 1) := by decide +kernel
theorem md_A_answer_14 : decode mc_A_answer 14 = .ok (.iload_n 2, 1) := by decide +kernel
theorem md_A_answer_15 : decode mc_A_answer 15 = .ok (.invokevirtual 82, 3) := by decide +kernel
theorem md_A_answer_18 : decode mc_A_answer 18 = .ok (.astore_n 3, 1) := by decide +kernel
theorem md_A_answer_19 : decode mc_A_answer 19 = .ok (.aload_n 3, 1) := by decide +kernel
theorem md_A_answer_20 : decode mc_A_answer 20 = .ok (.ifnonnull 7, 3) := by decide +kernel
theorem md_A_answer_23 : decode mc_A_answer 23 = .ok (.iconst 0, 1) := by decide +kernel
theorem md_A_answer_24 : decode mc_A_answer 24 = .ok (.goto 7, 3) := by decide +kernel
theorem md_A_answer_27 : decode mc_A_answer 27 = .ok (.aload_n 3, 1) := by decide +kernel
theorem md_A_answer_28 : decode mc_A_answer 28 = .ok (.getfield 89, 3) := by decide +kernel
theorem md_A_answer_31 : decode mc_A_answer 31 = .ok (.ireturn, 1) := by decide +kernel
theorem md_A_point_0 : decode mc_A_point 0 = .ok (.iload_n 1, 1) := by decide +kernel
theorem md_A_point_1 : decode mc_A_point 1 = .ok (.invokestatic 92, 3) := by decide +kernel
theorem md_A_point_4 : decode mc_A_point 4 = .ok (.ifCond .eq 16, 3) := by decide +kernel
theorem md_A_point_7 : decode mc_A_point 7 = .ok (.aload_n 0, 1) := by decide +kernel
theorem md_A_point_8 : decode mc_A_point 8 = .ok (.getfield 17, 3) := by decide +kernel
theorem md_A_point_11 : decode mc_A_point 11 = .ok (.iload_n 1, 1) := by decide +kernel
theorem md_A_point_12 : decode mc_A_point 12 = .ok (.aaload, 1) := by decide +kernel
theorem md_A_point_13 : decode mc_A_point 13 = .ok (.getfield 95, 3) := by decide +kernel
theorem md_A_point_16 : decode mc_A_point 16 = .ok (.iconst 1, 1) := by decide +kernel
theorem md_A_point_17 : decode mc_A_point 17 = .ok (.if_icmp .eq 5, 3) := by decide +kernel
theorem md_A_point_20 : decode mc_A_point 20 = .ok (.iconst 0, 1) := by decide +kernel
theorem md_A_point_21 : decode mc_A_point 21 = .ok (.ireturn, 1) := by decide +kernel
theorem md_A_point_22 : decode mc_A_point 22 = .ok (.aload_n 0, 1) := by decide +kernel
theorem md_A_point_23 : decode mc_A_point 23 = .ok (.getfield 17, 3) := by decide +kernel
theorem md_A_point_26 : decode mc_A_point 26 = .ok (.iload_n 1, 1) := by decide +kernel
theorem md_A_point_27 : decode mc_A_point 27 = .ok (.aaload, 1) := by decide +kernel
theorem md_A_point_28 : decode mc_A_point 28 = .ok (.iconst 2, 1) := by decide +kernel
theorem md_A_point_29 : decode mc_A_point 29 = .ok (.putfield 95, 3) := by decide +kernel
theorem md_A_point_32 : decode mc_A_point 32 = .ok (.iconst 1, 1) := by decide +kernel
theorem md_A_point_33 : decode mc_A_point 33 = .ok (.ireturn, 1) := by decide +kernel
theorem md_A_fails_0 : decode mc_A_fails 0 = .ok (.iload_n 1, 1) := by decide +kernel
theorem md_A_fails_1 : decode mc_A_fails 1 = .ok (.invokestatic 98, 3) := by decide +kernel
theorem md_A_fails_4 : decode mc_A_fails 4 = .ok (.ifCond .eq 13, 3) := by decide +kernel
theorem md_A_fails_7 : decode mc_A_fails 7 = .ok (.aload_n 0, 1) := by decide +kernel
theorem md_A_fails_8 : decode mc_A_fails 8 = .ok (.getfield 21, 3) := by decide +kernel
theorem md_A_fails_11 : decode mc_A_fails 11 = .ok (.iload_n 1, 1) := by decide +kernel
theorem md_A_fails_12 : decode mc_A_fails 12 = .ok (.baload, 1) := by decide +kernel
theorem md_A_fails_13 : decode mc_A_fails 13 = .ok (.iload_n 2, 1) := by decide +kernel
theorem md_A_fails_14 : decode mc_A_fails 14 = .ok (.if_icmp .ne 5, 3) := by decide +kernel
theorem md_A_fails_17 : decode mc_A_fails 17 = .ok (.iconst 0, 1) := by decide +kernel
theorem md_A_fails_18 : decode mc_A_fails 18 = .ok (.ireturn, 1) := by decide +kernel
theorem md_A_fails_19 : decode mc_A_fails 19 = .ok (.aload_n 0, 1) := by decide +kernel
theorem md_A_fails_20 : decode mc_A_fails 20 = .ok (.getfield 21, 3) := by decide +kernel
theorem md_A_fails_23 : decode mc_A_fails 23 = .ok (.iload_n 1, 1) := by decide +kernel
theorem md_A_fails_24 : decode mc_A_fails 24 = .ok (.iload_n 2, 1) := by decide +kernel
theorem md_A_fails_25 : decode mc_A_fails 25 = .ok (.bastore, 1) := by decide +kernel
theorem md_A_fails_26 : decode mc_A_fails 26 = .ok (.iconst 1, 1) := by decide +kernel
theorem md_A_fails_27 : decode mc_A_fails 27 = .ok (.ireturn, 1) := by decide +kernel
theorem md_A_tick_0 : decode mc_A_tick 0 = .ok (.iload_n 1, 1) := by decide +kernel
theorem md_A_tick_1 : decode mc_A_tick 1 = .ok (.aload_n 0, 1) := by decide +kernel
theorem md_A_tick_2 : decode mc_A_tick 2 = .ok (.getfield 41, 3) := by decide +kernel
theorem md_A_tick_5 : decode mc_A_tick 5 = .ok (.if_icmp .lt 9, 3) := by decide +kernel
theorem md_A_tick_8 : decode mc_A_tick 8 = .ok (.iload_n 1, 1) := by decide +kernel
theorem md_A_tick_9 : decode mc_A_tick 9 = .ok (.ldc 101, 2) := by decide +kernel
theorem md_A_tick_11 : decode mc_A_tick 11 = .ok (.if_icmp .le 13, 3) := by decide +kernel
theorem md_A_tick_14 : decode mc_A_tick 14 = .ok (.new 102, 3) := by decide +kernel
theorem md_A_tick_17 : decode mc_A_tick 17 = .ok (.dup, 1) := by decide +kernel
theorem md_A_tick_18 : decode mc_A_tick 18 = .ok (.ldc 104, 2) := by decide +kernel
theorem md_A_tick_20 : decode mc_A_tick 20 = .ok (.invokespecial 106, 3) := by decide +kernel
theorem md_A_tick_23 : decode mc_A_tick 23 = .ok (.athrow, 1) := by decide +kernel
theorem md_A_tick_24 : decode mc_A_tick 24 = .ok (.aload_n 0, 1) := by decide +kernel
theorem md_A_tick_25 : decode mc_A_tick 25 = .ok (.getfield 32, 3) := by decide +kernel
theorem md_A_tick_28 : decode mc_A_tick 28 = .ok (.getfield 109, 3) := by decide +kernel
theorem md_A_tick_31 : decode mc_A_tick 31 = .ok (.istore_n 2, 1) := by decide +kernel
theorem md_A_tick_32 : decode mc_A_tick 32 = .ok (.aload_n 0, 1) := by decide +kernel
theorem md_A_tick_33 : decode mc_A_tick 33 = .ok (.iload_n 1, 1) := by decide +kernel
theorem md_A_tick_34 : decode mc_A_tick 34 = .ok (.putfield 41, 3) := by decide +kernel
theorem md_A_tick_37 : decode mc_A_tick 37 = .ok (.aload_n 0, 1) := by decide +kernel
theorem md_A_tick_38 : decode mc_A_tick 38 = .ok (.invokevirtual 112, 3) := by decide +kernel
theorem md_A_tick_41 : decode mc_A_tick 41 = .ok (.aload_n 0, 1) := by decide +kernel
theorem md_A_tick_42 : decode mc_A_tick 42 = .ok (.invokevirtual 115, 3) := by decide +kernel
theorem md_A_tick_45 : decode mc_A_tick 45 = .ok (.aload_n 0, 1) := by decide +kernel
theorem md_A_tick_46 : decode mc_A_tick 46 = .ok (.getfield 32, 3) := by decide +kernel
theorem md_A_tick_49 : decode mc_A_tick 49 = .ok (.getfield 109, 3) := by decide +kernel
theorem md_A_tick_52 : decode mc_A_tick 52 = .ok (.iload_n 2, 1) := by decide +kernel
theorem md_A_tick_53 : decode mc_A_tick 53 = .ok (.isub, 1) := by decide +kernel
theorem md_A_tick_54 : decode mc_A_tick 54 = .ok (.ireturn, 1) := by decide +kernel
theorem md_A_skip_0 : decode mc_A_skip 0 = .ok (.iload_n 1, 1) := by decide +kernel
theorem md_A_skip_1 : decode mc_A_skip 1 = .ok (.invokestatic 50, 3) := by decide +kernel
theorem md_A_skip_4 : decode mc_A_skip 4 = .ok (.aload_n 0, 1) := by decide +kernel
theorem md_A_skip_5 : decode mc_A_skip 5 = .ok (.getfield 11, 3) := by decide +kernel
theorem md_A_skip_8 : decode mc_A_skip 8 = .ok (.iload_n 1, 1) := by decide +kernel
theorem md_A_skip_9 : decode mc_A_skip 9 = .ok (.aaload, 1) := by decide +kernel
theorem md_A_skip_10 : decode mc_A_skip 10 = .ok (.astore_n 2, 1) := by decide +kernel
theorem md_A_skip_11 : decode mc_A_skip 11 = .ok (.aload_n 2, 1) := by decide +kernel
theorem md_A_skip_12 : decode mc_A_skip 12 = .ok (.invokevirtual 118, 3) := by decide +kernel
theorem md_A_skip_15 : decode mc_A_skip 15 = .ok (.istore_n 3, 1) := by decide +kernel
theorem md_A_skip_16 : decode mc_A_skip 16 = .ok (.aload_n 2, 1) := by decide +kernel
theorem md_A_skip_17 : decode mc_A_skip 17 = .ok (.iload_n 3, 1) := by decide +kernel
theorem md_A_skip_18 : decode mc_A_skip 18 = .ok (.aload_n 0, 1) := by decide +kernel
theorem md_A_skip_19 : decode mc_A_skip 19 = .ok (.getfield 41, 3) := by decide +kernel
theorem md_A_skip_22 : decode mc_A_skip 22 = .ok (.bipush 100, 2) := by decide +kernel
theorem md_A_skip_24 : decode mc_A_skip 24 = .ok (.isub, 1) := by decide +kernel
theorem md_A_skip_25 : decode mc_A_skip 25 = .ok (.invokevirtual 122, 3) := by decide +kernel
theorem md_A_skip_28 : decode mc_A_skip 28 = .ok (.ifCond .ne 5, 3) := by decide +kernel
theorem md_A_skip_31 : decode mc_A_skip 31 = .ok (.iconst (-1), 1) := by decide +kernel
theorem md_A_skip_32 : decode mc_A_skip 32 = .ok (.ireturn, 1) := by decide +kernel
theorem md_A_skip_33 : decode mc_A_skip 33 = .ok (.aload_n 2, 1) := by decide +kernel
theorem md_A_skip_34 : decode mc_A_skip 34 = .ok (.iload_n 3, 1) := by decide +kernel
theorem md_A_skip_35 : decode mc_A_skip 35 = .ok (.invokevirtual 126, 3) := by decide +kernel
theorem md_A_skip_38 : decode mc_A_skip 38 = .ok (.aload_n 0, 1) := by decide +kernel
theorem md_A_skip_39 : decode mc_A_skip 39 = .ok (.aload_n 2, 1) := by decide +kernel
theorem md_A_skip_40 : decode mc_A_skip 40 = .ok (.invokevirtual 129, 3) := by decide +kernel
theorem md_A_skip_43 : decode mc_A_skip 43 = .ok (.iload_n 3, 1) := by decide +kernel
theorem md_A_skip_44 : decode mc_A_skip 44 = .ok (.ireturn, 1) := by decide +kernel
theorem md_A_cut_0 : decode mc_A_cut 0 = .ok (.iload_n 1, 1) := by decide +kernel
theorem md_A_cut_1 : decode mc_A_cut 1 = .ok (.invokestatic 50, 3) := by decide +kernel
theorem md_A_cut_4 : decode mc_A_cut 4 = .ok (.aload_n 0, 1) := by decide +kernel
theorem md_A_cut_5 : decode mc_A_cut 5 = .ok (.getfield 11, 3) := by decide +kernel
theorem md_A_cut_8 : decode mc_A_cut 8 = .ok (.iload_n 1, 1) := by decide +kernel
theorem md_A_cut_9 : decode mc_A_cut 9 = .ok (.aaload, 1) := by decide +kernel
theorem md_A_cut_10 : decode mc_A_cut 10 = .ok (.invokevirtual 133, 3) := by decide +kernel
theorem md_A_cut_13 : decode mc_A_cut 13 = .ok (.ireturn, 1) := by decide +kernel
theorem md_A_replay_0 : decode mc_A_replay 0 = .ok (.iload_n 1, 1) := by decide +kernel
theorem md_A_replay_1 : decode mc_A_replay 1 = .ok (.invokestatic 50, 3) := by decide +kernel
theorem md_A_replay_4 : decode mc_A_replay 4 = .ok (.iload_n 2, 1) := by decide +kernel
theorem md_A_replay_5 : decode mc_A_replay 5 = .ok (.invokestatic 54, 3) := by decide +kernel
theorem md_A_replay_8 : decode mc_A_replay 8 = .ok (.aload_n 0, 1) := by decide +kernel
theorem md_A_replay_9 : decode mc_A_replay 9 = .ok (.getfield 11, 3) := by decide +kernel
theorem md_A_replay_12 : decode mc_A_replay 12 = .ok (.iload_n 1, 1) := by decide +kernel
theorem md_A_replay_13 : decode mc_A_replay 13 = .ok (.aaload, 1) := by decide +kernel
theorem md_A_replay_14 : decode mc_A_replay 14 = .ok (.astore_n 3, 1) := by decide +kernel
theorem md_A_replay_15 : decode mc_A_replay 15 = .ok (.iconst 0, 1) := by decide +kernel
theorem md_A_replay_16 : decode mc_A_replay 16 = .ok (.istore 4, 2) := by decide +kernel
theorem md_A_replay_18 : decode mc_A_replay 18 = .ok (.iload_n 2, 1) := by decide +kernel
theorem md_A_replay_19 : decode mc_A_replay 19 = .ok (.istore 5, 2) := by decide +kernel
theorem md_A_replay_21 : decode mc_A_replay 21 = .ok (.iload 5, 2) := by decide +kernel
theorem md_A_replay_23 : decode mc_A_replay 23 = .ok (.bipush 24, 2) := by decide +kernel
theorem md_A_replay_25 : decode mc_A_replay 25 = .ok (.if_icmp .gt 51, 3) := by decide +kernel
theorem md_A_replay_28 : decode mc_A_replay 28 = .ok (.aload_n 3, 1) := by decide +kernel
theorem md_A_replay_29 : decode mc_A_replay 29 = .ok (.iload 5, 2) := by decide +kernel
theorem md_A_replay_31 : decode mc_A_replay 31 = .ok (.invokevirtual 82, 3) := by decide +kernel
theorem md_A_replay_34 : decode mc_A_replay 34 = .ok (.astore 6, 2) := by decide +kernel
theorem md_A_replay_36 : decode mc_A_replay 36 = .ok (.aload 6, 2) := by decide +kernel
theorem md_A_replay_38 : decode mc_A_replay 38 = .ok (.ifnull 32, 3) := by decide +kernel
theorem md_A_replay_41 : decode mc_A_replay 41 = .ok (.aload 6, 2) := by decide +kernel
theorem md_A_replay_43 : decode mc_A_replay 43 = .ok (.getfield 86, 3) := by decide +kernel
theorem md_A_replay_46 : decode mc_A_replay 46 = .ok (.bipush 6, 2) := by decide +kernel
theorem md_A_replay_48 : decode mc_A_replay 48 = .ok (.if_icmp .ne 22, 3) := by decide +kernel
theorem md_A_replay_51 : decode mc_A_replay 51 = .ok (.aload_n 3, 1) := by decide +kernel
theorem md_A_replay_52 : decode mc_A_replay 52 = .ok (.iload 5, 2) := by decide +kernel
theorem md_A_replay_54 : decode mc_A_replay 54 = .ok (.invokevirtual 61, 3) := by decide +kernel
theorem md_A_replay_57 : decode mc_A_replay 57 = .ok (.ifCond .eq 13, 3) := by decide +kernel
theorem md_A_replay_60 : decode mc_A_replay 60 = .ok (.aload_n 0, 1) := by decide +kernel
theorem md_A_replay_61 : decode mc_A_replay 61 = .ok (.aload_n 3, 1) := by decide +kernel
theorem md_A_replay_62 : decode mc_A_replay 62 = .ok (.aload 6, 2) := by decide +kernel
theorem md_A_replay_64 : decode mc_A_replay 64 = .ok (.invokevirtual 74, 3) := by decide +kernel
theorem md_A_replay_67 : decode mc_A_replay 67 = .ok (.iinc 4 1, 3) := by decide +kernel
theorem md_A_replay_70 : decode mc_A_replay 70 = .ok (.iinc 5 1, 3) := by decide +kernel
theorem md_A_replay_73 : decode mc_A_replay 73 = .ok (.goto (-52), 3) := by decide +kernel
theorem md_A_replay_76 : decode mc_A_replay 76 = .ok (.iload 4, 2) := by decide +kernel
theorem md_A_replay_78 : decode mc_A_replay 78 = .ok (.ireturn, 1) := by decide +kernel
theorem md_A_look_0 : decode mc_A_look 0 = .ok (.iload_n 1, 1) := by decide +kernel
theorem md_A_look_1 : decode mc_A_look 1 = .ok (.invokestatic 92, 3) := by decide +kernel
theorem md_A_look_4 : decode mc_A_look 4 = .ok (.ifCond .ne 13, 3) := by decide +kernel
theorem md_A_look_7 : decode mc_A_look 7 = .ok (.new 136, 3) := by decide +kernel
theorem md_A_look_10 : decode mc_A_look 10 = .ok (.dup, 1) := by decide +kernel
theorem md_A_look_11 : decode mc_A_look 11 = .ok (.ldc 138, 2) := by decide +kernel
theorem md_A_look_13 : decode mc_A_look 13 = .ok (.invokespecial 140, 3) := by decide +kernel
theorem md_A_look_16 : decode mc_A_look 16 = .ok (.athrow, 1) := by decide +kernel
theorem md_A_look_17 : decode mc_A_look 17 = .ok (.aload_n 0, 1) := by decide +kernel
theorem md_A_look_18 : decode mc_A_look 18 = .ok (.getfield 17, 3) := by decide +kernel
theorem md_A_look_21 : decode mc_A_look 21 = .ok (.iload_n 1, 1) := by decide +kernel
theorem md_A_look_22 : decode mc_A_look 22 = .ok (.aaload, 1) := by decide +kernel
theorem md_A_look_23 : decode mc_A_look 23 = .ok (.astore_n 3, 1) := by decide +kernel
theorem md_A_look_24 : decode mc_A_look 24 = .ok (.iload_n 2, 1) := by decide +kernel
theorem md_A_look_25 : decode mc_A_look 25 = .ok (.tableswitch 55 0 3 #[31, 36, 41, 46], 31) := by decide +kernel
theorem md_A_look_56 : decode mc_A_look 56 = .ok (.aload_n 3, 1) := by decide +kernel
theorem md_A_look_57 : decode mc_A_look 57 = .ok (.getfield 95, 3) := by decide +kernel
theorem md_A_look_60 : decode mc_A_look 60 = .ok (.ireturn, 1) := by decide +kernel
theorem md_A_look_61 : decode mc_A_look 61 = .ok (.aload_n 3, 1) := by decide +kernel
theorem md_A_look_62 : decode mc_A_look 62 = .ok (.getfield 141, 3) := by decide +kernel
theorem md_A_look_65 : decode mc_A_look 65 = .ok (.ireturn, 1) := by decide +kernel
theorem md_A_look_66 : decode mc_A_look 66 = .ok (.aload_n 3, 1) := by decide +kernel
theorem md_A_look_67 : decode mc_A_look 67 = .ok (.getfield 144, 3) := by decide +kernel
theorem md_A_look_70 : decode mc_A_look 70 = .ok (.ireturn, 1) := by decide +kernel
theorem md_A_look_71 : decode mc_A_look 71 = .ok (.aload_n 0, 1) := by decide +kernel
theorem md_A_look_72 : decode mc_A_look 72 = .ok (.getfield 35, 3) := by decide +kernel
theorem md_A_look_75 : decode mc_A_look 75 = .ok (.aload_n 3, 1) := by decide +kernel
theorem md_A_look_76 : decode mc_A_look 76 = .ok (.invokevirtual 146, 3) := by decide +kernel
theorem md_A_look_79 : decode mc_A_look 79 = .ok (.ireturn, 1) := by decide +kernel
theorem md_A_look_80 : decode mc_A_look 80 = .ok (.new 136, 3) := by decide +kernel
theorem md_A_look_83 : decode mc_A_look 83 = .ok (.dup, 1) := by decide +kernel
theorem md_A_look_84 : decode mc_A_look 84 = .ok (.ldc 150, 2) := by decide +kernel
theorem md_A_look_86 : decode mc_A_look 86 = .ok (.invokespecial 140, 3) := by decide +kernel
theorem md_A_look_89 : decode mc_A_look 89 = .ok (.athrow, 1) := by decide +kernel
theorem md_A_act_0 : decode mc_A_act 0 = .ok (.aload_n 0, 1) := by decide +kernel
theorem md_A_act_1 : decode mc_A_act 1 = .ok (.getfield 28, 3) := by decide +kernel
theorem md_A_act_4 : decode mc_A_act 4 = .ok (.iload_n 1, 1) := by decide +kernel
theorem md_A_act_5 : decode mc_A_act 5 = .ok (.invokestatic 152, 3) := by decide +kernel
theorem md_A_act_8 : decode mc_A_act 8 = .ok (.ireturn, 1) := by decide +kernel
theorem md_A_dead_0 : decode mc_A_dead 0 = .ok (.aload_n 0, 1) := by decide +kernel
theorem md_A_dead_1 : decode mc_A_dead 1 = .ok (.getfield 32, 3) := by decide +kernel
theorem md_A_dead_4 : decode mc_A_dead 4 = .ok (.iload_n 1, 1) := by decide +kernel
theorem md_A_dead_5 : decode mc_A_dead 5 = .ok (.invokestatic 152, 3) := by decide +kernel
theorem md_A_dead_8 : decode mc_A_dead 8 = .ok (.ireturn, 1) := by decide +kernel
theorem md_A_of_0 : decode mc_A_of 0 = .ok (.iload_n 1, 1) := by decide +kernel
theorem md_A_of_1 : decode mc_A_of 1 = .ok (.invokestatic 156, 3) := by decide +kernel
theorem md_A_of_4 : decode mc_A_of 4 = .ok (.ifCond .ne 5, 3) := by decide +kernel
theorem md_A_of_7 : decode mc_A_of 7 = .ok (.iconst (-1), 1) := by decide +kernel
theorem md_A_of_8 : decode mc_A_of 8 = .ok (.ireturn, 1) := by decide +kernel
theorem md_A_of_9 : decode mc_A_of 9 = .ok (.aload_n 0, 1) := by decide +kernel
theorem md_A_of_10 : decode mc_A_of 10 = .ok (.getfield 11, 3) := by decide +kernel
theorem md_A_of_13 : decode mc_A_of 13 = .ok (.iload_n 1, 1) := by decide +kernel
theorem md_A_of_14 : decode mc_A_of 14 = .ok (.aaload, 1) := by decide +kernel
theorem md_A_of_15 : decode mc_A_of 15 = .ok (.astore_n 3, 1) := by decide +kernel
theorem md_A_of_16 : decode mc_A_of 16 = .ok (.iload_n 2, 1) := by decide +kernel
theorem md_A_of_17 : decode mc_A_of 17 = .ok (.tableswitch 54 0 3 #[31, 36, 42, 49], 31) := by decide +kernel
theorem md_A_of_48 : decode mc_A_of 48 = .ok (.aload_n 3, 1) := by decide +kernel
theorem md_A_of_49 : decode mc_A_of 49 = .ok (.invokevirtual 118, 3) := by decide +kernel
theorem md_A_of_52 : decode mc_A_of 52 = .ok (.ireturn, 1) := by decide +kernel
theorem md_A_of_53 : decode mc_A_of 53 = .ok (.aload_n 3, 1) := by decide +kernel
theorem md_A_of_54 : decode mc_A_of 54 = .ok (.iconst 0, 1) := by decide +kernel
theorem md_A_of_55 : decode mc_A_of 55 = .ok (.invokevirtual 159, 3) := by decide +kernel
theorem md_A_of_58 : decode mc_A_of 58 = .ok (.ireturn, 1) := by decide +kernel
theorem md_A_of_59 : decode mc_A_of 59 = .ok (.aload_n 3, 1) := by decide +kernel
theorem md_A_of_60 : decode mc_A_of 60 = .ok (.bipush 6, 2) := by decide +kernel
theorem md_A_of_62 : decode mc_A_of 62 = .ok (.invokevirtual 159, 3) := by decide +kernel
theorem md_A_of_65 : decode mc_A_of 65 = .ok (.ireturn, 1) := by decide +kernel
theorem md_A_of_66 : decode mc_A_of 66 = .ok (.aload_n 3, 1) := by decide +kernel
theorem md_A_of_67 : decode mc_A_of 67 = .ok (.invokevirtual 163, 3) := by decide +kernel
theorem md_A_of_70 : decode mc_A_of 70 = .ok (.ireturn, 1) := by decide +kernel
theorem md_A_of_71 : decode mc_A_of 71 = .ok (.iconst (-1), 1) := by decide +kernel
theorem md_A_of_72 : decode mc_A_of 72 = .ok (.ireturn, 1) := by decide +kernel
theorem md_A_count_0 : decode mc_A_count 0 = .ok (.iload_n 1, 1) := by decide +kernel
theorem md_A_count_1 : decode mc_A_count 1 = .ok (.tableswitch 81 0 5 #[39, 47, 55, 60, 65, 73], 39) := by decide +kernel
theorem md_A_count_40 : decode mc_A_count 40 = .ok (.aload_n 0, 1) := by decide +kernel
theorem md_A_count_41 : decode mc_A_count 41 = .ok (.getfield 28, 3) := by decide +kernel
theorem md_A_count_44 : decode mc_A_count 44 = .ok (.getfield 109, 3) := by decide +kernel
theorem md_A_count_47 : decode mc_A_count 47 = .ok (.ireturn, 1) := by decide +kernel
theorem md_A_count_48 : decode mc_A_count 48 = .ok (.aload_n 0, 1) := by decide +kernel
theorem md_A_count_49 : decode mc_A_count 49 = .ok (.getfield 32, 3) := by decide +kernel
theorem md_A_count_52 : decode mc_A_count 52 = .ok (.getfield 109, 3) := by decide +kernel
theorem md_A_count_55 : decode mc_A_count 55 = .ok (.ireturn, 1) := by decide +kernel
theorem md_A_count_56 : decode mc_A_count 56 = .ok (.aload_n 0, 1) := by decide +kernel
theorem md_A_count_57 : decode mc_A_count 57 = .ok (.getfield 41, 3) := by decide +kernel
theorem md_A_count_60 : decode mc_A_count 60 = .ok (.ireturn, 1) := by decide +kernel
theorem md_A_count_61 : decode mc_A_count 61 = .ok (.aload_n 0, 1) := by decide +kernel
theorem md_A_count_62 : decode mc_A_count 62 = .ok (.getfield 45, 3) := by decide +kernel
theorem md_A_count_65 : decode mc_A_count 65 = .ok (.ireturn, 1) := by decide +kernel
theorem md_A_count_66 : decode mc_A_count 66 = .ok (.aload_n 0, 1) := by decide +kernel
theorem md_A_count_67 : decode mc_A_count 67 = .ok (.getfield 35, 3) := by decide +kernel
theorem md_A_count_70 : decode mc_A_count 70 = .ok (.getfield 109, 3) := by decide +kernel
theorem md_A_count_73 : decode mc_A_count 73 = .ok (.ireturn, 1) := by decide +kernel
theorem md_A_count_74 : decode mc_A_count 74 = .ok (.aload_n 0, 1) := by decide +kernel
theorem md_A_count_75 : decode mc_A_count 75 = .ok (.getfield 38, 3) := by decide +kernel
theorem md_A_count_78 : decode mc_A_count 78 = .ok (.getfield 109, 3) := by decide +kernel
theorem md_A_count_81 : decode mc_A_count 81 = .ok (.ireturn, 1) := by decide +kernel
theorem md_A_count_82 : decode mc_A_count 82 = .ok (.iconst (-1), 1) := by decide +kernel
theorem md_A_count_83 : decode mc_A_count 83 = .ok (.ireturn, 1) := by decide +kernel
theorem md_A_isSender_0 : decode mc_A_isSender 0 = .ok (.iload_n 0, 1) := by decide +kernel
theorem md_A_isSender_1 : decode mc_A_isSender 1 = .ok (.ifCond .lt 12, 3) := by decide +kernel
theorem md_A_isSender_4 : decode mc_A_isSender 4 = .ok (.iload_n 0, 1) := by decide +kernel
theorem md_A_isSender_5 : decode mc_A_isSender 5 = .ok (.iconst 4, 1) := by decide +kernel
theorem md_A_isSender_6 : decode mc_A_isSender 6 = .ok (.if_icmp .ge 7, 3) := by decide +kernel
theorem md_A_isSender_9 : decode mc_A_isSender 9 = .ok (.iconst 1, 1) := by decide +kernel
theorem md_A_isSender_10 : decode mc_A_isSender 10 = .ok (.goto 4, 3) := by decide +kernel
theorem md_A_isSender_13 : decode mc_A_isSender 13 = .ok (.iconst 0, 1) := by decide +kernel
theorem md_A_isSender_14 : decode mc_A_isSender 14 = .ok (.ireturn, 1) := by decide +kernel
theorem md_A_isSubject_0 : decode mc_A_isSubject 0 = .ok (.iload_n 0, 1) := by decide +kernel
theorem md_A_isSubject_1 : decode mc_A_isSubject 1 = .ok (.ifCond .lt 13, 3) := by decide +kernel
theorem md_A_isSubject_4 : decode mc_A_isSubject 4 = .ok (.iload_n 0, 1) := by decide +kernel
theorem md_A_isSubject_5 : decode mc_A_isSubject 5 = .ok (.bipush 16, 2) := by decide +kernel
theorem md_A_isSubject_7 : decode mc_A_isSubject 7 = .ok (.if_icmp .ge 7, 3) := by decide +kernel
theorem md_A_isSubject_10 : decode mc_A_isSubject 10 = .ok (.iconst 1, 1) := by decide +kernel
theorem md_A_isSubject_11 : decode mc_A_isSubject 11 = .ok (.goto 4, 3) := by decide +kernel
theorem md_A_isSubject_14 : decode mc_A_isSubject 14 = .ok (.iconst 0, 1) := by decide +kernel
theorem md_A_isSubject_15 : decode mc_A_isSubject 15 = .ok (.ireturn, 1) := by decide +kernel
theorem md_A_isFunction_0 : decode mc_A_isFunction 0 = .ok (.iload_n 0, 1) := by decide +kernel
theorem md_A_isFunction_1 : decode mc_A_isFunction 1 = .ok (.ifCond .lt 12, 3) := by decide +kernel
theorem md_A_isFunction_4 : decode mc_A_isFunction 4 = .ok (.iload_n 0, 1) := by decide +kernel
theorem md_A_isFunction_5 : decode mc_A_isFunction 5 = .ok (.iconst 5, 1) := by decide +kernel
theorem md_A_isFunction_6 : decode mc_A_isFunction 6 = .ok (.if_icmp .ge 7, 3) := by decide +kernel
theorem md_A_isFunction_9 : decode mc_A_isFunction 9 = .ok (.iconst 1, 1) := by decide +kernel
theorem md_A_isFunction_10 : decode mc_A_isFunction 10 = .ok (.goto 4, 3) := by decide +kernel
theorem md_A_isFunction_13 : decode mc_A_isFunction 13 = .ok (.iconst 0, 1) := by decide +kernel
theorem md_A_isFunction_14 : decode mc_A_isFunction 14 = .ok (.ireturn, 1) := by decide +kernel
theorem md_A_isNumber_0 : decode mc_A_isNumber 0 = .ok (.iload_n 0, 1) := by decide +kernel
theorem md_A_isNumber_1 : decode mc_A_isNumber 1 = .ok (.iconst 1, 1) := by decide +kernel
theorem md_A_isNumber_2 : decode mc_A_isNumber 2 = .ok (.if_icmp .lt 13, 3) := by decide +kernel
theorem md_A_isNumber_5 : decode mc_A_isNumber 5 = .ok (.iload_n 0, 1) := by decide +kernel
theorem md_A_isNumber_6 : decode mc_A_isNumber 6 = .ok (.bipush 24, 2) := by decide +kernel
theorem md_A_isNumber_8 : decode mc_A_isNumber 8 = .ok (.if_icmp .gt 7, 3) := by decide +kernel
theorem md_A_isNumber_11 : decode mc_A_isNumber 11 = .ok (.iconst 1, 1) := by decide +kernel
theorem md_A_isNumber_12 : decode mc_A_isNumber 12 = .ok (.goto 4, 3) := by decide +kernel
theorem md_A_isNumber_15 : decode mc_A_isNumber 15 = .ok (.iconst 0, 1) := by decide +kernel
theorem md_A_isNumber_16 : decode mc_A_isNumber 16 = .ok (.ireturn, 1) := by decide +kernel
theorem md_A_isWithin_0 : decode mc_A_isWithin 0 = .ok (.iload_n 0, 1) := by decide +kernel
theorem md_A_isWithin_1 : decode mc_A_isWithin 1 = .ok (.iload_n 1, 1) := by decide +kernel
theorem md_A_isWithin_2 : decode mc_A_isWithin 2 = .ok (.ineg, 1) := by decide +kernel
theorem md_A_isWithin_3 : decode mc_A_isWithin 3 = .ok (.if_icmp .lt 12, 3) := by decide +kernel
theorem md_A_isWithin_6 : decode mc_A_isWithin 6 = .ok (.iload_n 0, 1) := by decide +kernel
theorem md_A_isWithin_7 : decode mc_A_isWithin 7 = .ok (.iload_n 1, 1) := by decide +kernel
theorem md_A_isWithin_8 : decode mc_A_isWithin 8 = .ok (.if_icmp .gt 7, 3) := by decide +kernel
theorem md_A_isWithin_11 : decode mc_A_isWithin 11 = .ok (.iconst 1, 1) := by decide +kernel
theorem md_A_isWithin_12 : decode mc_A_isWithin 12 = .ok (.goto 4, 3) := by decide +kernel
theorem md_A_isWithin_15 : decode mc_A_isWithin 15 = .ok (.iconst 0, 1) := by decide +kernel
theorem md_A_isWithin_16 : decode mc_A_isWithin 16 = .ok (.ireturn, 1) := by decide +kernel
theorem md_A_checkSender_0 : decode mc_A_checkSender 0 = .ok (.iload_n 0, 1) := by decide +kernel
theorem md_A_checkSender_1 : decode mc_A_checkSender 1 = .ok (.invokestatic 156, 3) := by decide +kernel
theorem md_A_checkSender_4 : decode mc_A_checkSender 4 = .ok (.ifCond .ne 13, 3) := by decide +kernel
theorem md_A_checkSender_7 : decode mc_A_checkSender 7 = .ok (.new 102, 3) := by decide +kernel
theorem md_A_checkSender_10 : decode mc_A_checkSender 10 = .ok (.dup, 1) := by decide +kernel
theorem md_A_checkSender_11 : decode mc_A_checkSender 11 = .ok (.ldc 166, 2) := by decide +kernel
theorem md_A_checkSender_13 : decode mc_A_checkSender 13 = .ok (.invokespecial 106, 3) := by decide +kernel
theorem md_A_checkSender_16 : decode mc_A_checkSender 16 = .ok (.athrow, 1) := by decide +kernel
theorem md_A_checkSender_17 : decode mc_A_checkSender 17 = .ok (.return_, 1) := by decide +kernel
theorem md_A_checkNumber_0 : decode mc_A_checkNumber 0 = .ok (.iload_n 0, 1) := by decide +kernel
theorem md_A_checkNumber_1 : decode mc_A_checkNumber 1 = .ok (.invokestatic 168, 3) := by decide +kernel
theorem md_A_checkNumber_4 : decode mc_A_checkNumber 4 = .ok (.ifCond .ne 13, 3) := by decide +kernel
theorem md_A_checkNumber_7 : decode mc_A_checkNumber 7 = .ok (.new 102, 3) := by decide +kernel
theorem md_A_checkNumber_10 : decode mc_A_checkNumber 10 = .ok (.dup, 1) := by decide +kernel
theorem md_A_checkNumber_11 : decode mc_A_checkNumber 11 = .ok (.ldc 171, 2) := by decide +kernel
theorem md_A_checkNumber_13 : decode mc_A_checkNumber 13 = .ok (.invokespecial 106, 3) := by decide +kernel
theorem md_A_checkNumber_16 : decode mc_A_checkNumber 16 = .ok (.athrow, 1) := by decide +kernel
theorem md_A_checkNumber_17 : decode mc_A_checkNumber 17 = .ok (.return_, 1) := by decide +kernel
theorem md_A_checkContent_0 : decode mc_A_checkContent 0 = .ok (.iload_n 0, 1) := by decide +kernel
theorem md_A_checkContent_1 : decode mc_A_checkContent 1 = .ok (.invokestatic 98, 3) := by decide +kernel
theorem md_A_checkContent_4 : decode mc_A_checkContent 4 = .ok (.ifCond .eq 20, 3) := by decide +kernel
theorem md_A_checkContent_7 : decode mc_A_checkContent 7 = .ok (.iload_n 1, 1) := by decide +kernel
theorem md_A_checkContent_8 : decode mc_A_checkContent 8 = .ok (.invokestatic 92, 3) := by decide +kernel
theorem md_A_checkContent_11 : decode mc_A_checkContent 11 = .ok (.ifCond .eq 13, 3) := by decide +kernel
theorem md_A_checkContent_14 : decode mc_A_checkContent 14 = .ok (.iload_n 2, 1) := by decide +kernel
theorem md_A_checkContent_15 : decode mc_A_checkContent 15 = .ok (.sipush 1000, 3) := by decide +kernel
theorem md_A_checkContent_18 : decode mc_A_checkContent 18 = .ok (.invokestatic 173, 3) := by decide +kernel
theorem md_A_checkContent_21 : decode mc_A_checkContent 21 = .ok (.ifCond .ne 13, 3) := by decide +kernel
theorem md_A_checkContent_24 : decode mc_A_checkContent 24 = .ok (.new 102, 3) := by decide +kernel
theorem md_A_checkContent_27 : decode mc_A_checkContent 27 = .ok (.dup, 1) := by decide +kernel
theorem md_A_checkContent_28 : decode mc_A_checkContent 28 = .ok (.ldc 176, 2) := by decide +kernel
theorem md_A_checkContent_30 : decode mc_A_checkContent 30 = .ok (.invokespecial 106, 3) := by decide +kernel
theorem md_A_checkContent_33 : decode mc_A_checkContent 33 = .ok (.athrow, 1) := by decide +kernel
theorem md_A_checkContent_34 : decode mc_A_checkContent 34 = .ok (.return_, 1) := by decide +kernel
theorem md_A_come_0 : decode mc_A_come 0 = .ok (.aload_n 2, 1) := by decide +kernel
theorem md_A_come_1 : decode mc_A_come 1 = .ok (.iconst 0, 1) := by decide +kernel
theorem md_A_come_2 : decode mc_A_come 2 = .ok (.putfield 86, 3) := by decide +kernel
theorem md_A_come_5 : decode mc_A_come 5 = .ok (.aload_n 2, 1) := by decide +kernel
theorem md_A_come_6 : decode mc_A_come 6 = .ok (.aload_n 0, 1) := by decide +kernel
theorem md_A_come_7 : decode mc_A_come 7 = .ok (.getfield 41, 3) := by decide +kernel
theorem md_A_come_10 : decode mc_A_come 10 = .ok (.putfield 178, 3) := by decide +kernel
theorem md_A_come_13 : decode mc_A_come 13 = .ok (.aload_n 2, 1) := by decide +kernel
theorem md_A_come_14 : decode mc_A_come 14 = .ok (.getfield 181, 3) := by decide +kernel
theorem md_A_come_17 : decode mc_A_come 17 = .ok (.iconst 3, 1) := by decide +kernel
theorem md_A_come_18 : decode mc_A_come 18 = .ok (.if_icmp .ne 9, 3) := by decide +kernel
theorem md_A_come_21 : decode mc_A_come 21 = .ok (.aload_n 0, 1) := by decide +kernel
theorem md_A_come_22 : decode mc_A_come 22 = .ok (.aload_n 2, 1) := by decide +kernel
theorem md_A_come_23 : decode mc_A_come 23 = .ok (.iconst 0, 1) := by decide +kernel
theorem md_A_come_24 : decode mc_A_come 24 = .ok (.invokevirtual 184, 3) := by decide +kernel
theorem md_A_come_27 : decode mc_A_come 27 = .ok (.aload_n 0, 1) := by decide +kernel
theorem md_A_come_28 : decode mc_A_come 28 = .ok (.aload_n 1, 1) := by decide +kernel
theorem md_A_come_29 : decode mc_A_come 29 = .ok (.invokevirtual 129, 3) := by decide +kernel
theorem md_A_come_32 : decode mc_A_come 32 = .ok (.return_, 1) := by decide +kernel
theorem md_A_giveTurns_0 : decode mc_A_giveTurns 0 = .ok (.aload_n 1, 1) := by decide +kernel
theorem md_A_giveTurns_1 : decode mc_A_giveTurns 1 = .ok (.invokevirtual 118, 3) := by decide +kernel
theorem md_A_giveTurns_4 : decode mc_A_giveTurns 4 = .ok (.istore_n 2, 1) := by decide +kernel
theorem md_A_giveTurns_5 : decode mc_A_giveTurns 5 = .ok (.iconst 1, 1) := by decide +kernel
theorem md_A_giveTurns_6 : decode mc_A_giveTurns 6 = .ok (.istore_n 3, 1) := by decide +kernel
theorem md_A_giveTurns_7 : decode mc_A_giveTurns 7 = .ok (.iload_n 3, 1) := by decide +kernel
theorem md_A_giveTurns_8 : decode mc_A_giveTurns 8 = .ok (.iload_n 2, 1) := by decide +kernel
theorem md_A_giveTurns_9 : decode mc_A_giveTurns 9 = .ok (.if_icmp .ge 36, 3) := by decide +kernel
theorem md_A_giveTurns_12 : decode mc_A_giveTurns 12 = .ok (.aload_n 1, 1) := by decide +kernel
theorem md_A_giveTurns_13 : decode mc_A_giveTurns 13 = .ok (.iload_n 3, 1) := by decide +kernel
theorem md_A_giveTurns_14 : decode mc_A_giveTurns 14 = .ok (.invokevirtual 82, 3) := by decide +kernel
theorem md_A_giveTurns_17 : decode mc_A_giveTurns 17 = .ok (.astore 4, 2) := by decide +kernel
theorem md_A_giveTurns_19 : decode mc_A_giveTurns 19 = .ok (.aload 4, 2) := by decide +kernel
theorem md_A_giveTurns_21 : decode mc_A_giveTurns 21 = .ok (.ifnull 18, 3) := by decide +kernel
theorem md_A_giveTurns_24 : decode mc_A_giveTurns 24 = .ok (.aload 4, 2) := by decide +kernel
theorem md_A_giveTurns_26 : decode mc_A_giveTurns 26 = .ok (.getfield 86, 3) := by decide +kernel
theorem md_A_giveTurns_29 : decode mc_A_giveTurns 29 = .ok (.ifCond .ne 10, 3) := by decide +kernel
theorem md_A_giveTurns_32 : decode mc_A_giveTurns 32 = .ok (.aload_n 0, 1) := by decide +kernel
theorem md_A_giveTurns_33 : decode mc_A_giveTurns 33 = .ok (.aload 4, 2) := by decide +kernel
theorem md_A_giveTurns_35 : decode mc_A_giveTurns 35 = .ok (.iconst 0, 1) := by decide +kernel
theorem md_A_giveTurns_36 : decode mc_A_giveTurns 36 = .ok (.invokevirtual 184, 3) := by decide +kernel
theorem md_A_giveTurns_39 : decode mc_A_giveTurns 39 = .ok (.iinc 3 1, 3) := by decide +kernel
theorem md_A_giveTurns_42 : decode mc_A_giveTurns 42 = .ok (.goto (-35), 3) := by decide +kernel
theorem md_A_giveTurns_45 : decode mc_A_giveTurns 45 = .ok (.return_, 1) := by decide +kernel
theorem md_A_haveTurn_0 : decode mc_A_haveTurn 0 = .ok (.aload_n 0, 1) := by decide +kernel
theorem md_A_haveTurn_1 : decode mc_A_haveTurn 1 = .ok (.aload_n 1, 1) := by decide +kernel
theorem md_A_haveTurn_2 : decode mc_A_haveTurn 2 = .ok (.iload_n 2, 1) := by decide +kernel
theorem md_A_haveTurn_3 : decode mc_A_haveTurn 3 = .ok (.invokevirtual 188, 3) := by decide +kernel
theorem md_A_haveTurn_6 : decode mc_A_haveTurn 6 = .ok (.aload_n 1, 1) := by decide +kernel
theorem md_A_haveTurn_7 : decode mc_A_haveTurn 7 = .ok (.getfield 191, 3) := by decide +kernel
theorem md_A_haveTurn_10 : decode mc_A_haveTurn 10 = .ok (.getfield 95, 3) := by decide +kernel
theorem md_A_haveTurn_13 : decode mc_A_haveTurn 13 = .ok (.ifCond .ne 4, 3) := by decide +kernel
theorem md_A_haveTurn_16 : decode mc_A_haveTurn 16 = .ok (.return_, 1) := by decide +kernel
theorem md_A_haveTurn_17 : decode mc_A_haveTurn 17 = .ok (.iconst 0, 1) := by decide +kernel
theorem md_A_haveTurn_18 : decode mc_A_haveTurn 18 = .ok (.istore_n 3, 1) := by decide +kernel
theorem md_A_haveTurn_19 : decode mc_A_haveTurn 19 = .ok (.iload_n 3, 1) := by decide +kernel
theorem md_A_haveTurn_20 : decode mc_A_haveTurn 20 = .ok (.bipush 12, 2) := by decide +kernel
theorem md_A_haveTurn_22 : decode mc_A_haveTurn 22 = .ok (.if_icmp .ge 35, 3) := by decide +kernel
theorem md_A_haveTurn_25 : decode mc_A_haveTurn 25 = .ok (.aload_n 0, 1) := by decide +kernel
theorem md_A_haveTurn_26 : decode mc_A_haveTurn 26 = .ok (.getfield 35, 3) := by decide +kernel
theorem md_A_haveTurn_29 : decode mc_A_haveTurn 29 = .ok (.aload_n 1, 1) := by decide +kernel
theorem md_A_haveTurn_30 : decode mc_A_haveTurn 30 = .ok (.getfield 191, 3) := by decide +kernel
theorem md_A_haveTurn_33 : decode mc_A_haveTurn 33 = .ok (.invokevirtual 195, 3) := by decide +kernel
theorem md_A_haveTurn_36 : decode mc_A_haveTurn 36 = .ok (.astore 4, 2) := by decide +kernel
theorem md_A_haveTurn_38 : decode mc_A_haveTurn 38 = .ok (.aload 4, 2) := by decide +kernel
theorem md_A_haveTurn_40 : decode mc_A_haveTurn 40 = .ok (.ifnonnull 4, 3) := by decide +kernel
theorem md_A_haveTurn_43 : decode mc_A_haveTurn 43 = .ok (.return_, 1) := by decide +kernel
theorem md_A_haveTurn_44 : decode mc_A_haveTurn 44 = .ok (.aload_n 0, 1) := by decide +kernel
theorem md_A_haveTurn_45 : decode mc_A_haveTurn 45 = .ok (.aload 4, 2) := by decide +kernel
theorem md_A_haveTurn_47 : decode mc_A_haveTurn 47 = .ok (.iconst 0, 1) := by decide +kernel
theorem md_A_haveTurn_48 : decode mc_A_haveTurn 48 = .ok (.invokevirtual 188, 3) := by decide +kernel
theorem md_A_haveTurn_51 : decode mc_A_haveTurn 51 = .ok (.iinc 3 1, 3) := by decide +kernel
theorem md_A_haveTurn_54 : decode mc_A_haveTurn 54 = .ok (.goto (-35), 3) := by decide +kernel
theorem md_A_haveTurn_57 : decode mc_A_haveTurn 57 = .ok (.return_, 1) := by decide +kernel
theorem md_A_settle_0 : decode mc_A_settle 0 = .ok (.aload_n 0, 1) := by decide +kernel
theorem md_A_settle_1 : decode mc_A_settle 1 = .ok (.aload_n 1, 1) := by decide +kernel
theorem md_A_settle_2 : decode mc_A_settle 2 = .ok (.invokevirtual 199, 3) := by decide +kernel
theorem md_A_settle_5 : decode mc_A_settle 5 = .ok (.istore_n 3, 1) := by decide +kernel
theorem md_A_settle_6 : decode mc_A_settle 6 = .ok (.iload_n 3, 1) := by decide +kernel
theorem md_A_settle_7 : decode mc_A_settle 7 = .ok (.iconst (-1), 1) := by decide +kernel
theorem md_A_settle_8 : decode mc_A_settle 8 = .ok (.if_icmp .ne 27, 3) := by decide +kernel
theorem md_A_settle_11 : decode mc_A_settle 11 = .ok (.aload_n 1, 1) := by decide +kernel
theorem md_A_settle_12 : decode mc_A_settle 12 = .ok (.iconst 3, 1) := by decide +kernel
theorem md_A_settle_13 : decode mc_A_settle 13 = .ok (.putfield 86, 3) := by decide +kernel
theorem md_A_settle_16 : decode mc_A_settle 16 = .ok (.aload_n 1, 1) := by decide +kernel
theorem md_A_settle_17 : decode mc_A_settle 17 = .ok (.aload_n 0, 1) := by decide +kernel
theorem md_A_settle_18 : decode mc_A_settle 18 = .ok (.getfield 41, 3) := by decide +kernel
theorem md_A_settle_21 : decode mc_A_settle 21 = .ok (.putfield 202, 3) := by decide +kernel
theorem md_A_settle_24 : decode mc_A_settle 24 = .ok (.aload_n 0, 1) := by decide +kernel
theorem md_A_settle_25 : decode mc_A_settle 25 = .ok (.getfield 35, 3) := by decide +kernel
theorem md_A_settle_28 : decode mc_A_settle 28 = .ok (.aload_n 1, 1) := by decide +kernel
theorem md_A_settle_29 : decode mc_A_settle 29 = .ok (.invokevirtual 205, 3) := by decide +kernel
theorem md_A_settle_32 : decode mc_A_settle 32 = .ok (.goto 57, 3) := by decide +kernel
theorem md_A_settle_35 : decode mc_A_settle 35 = .ok (.iload_n 3, 1) := by decide +kernel
theorem md_A_settle_36 : decode mc_A_settle 36 = .ok (.ifCond .eq 17, 3) := by decide +kernel
theorem md_A_settle_39 : decode mc_A_settle 39 = .ok (.aload_n 1, 1) := by decide +kernel
theorem md_A_settle_40 : decode mc_A_settle 40 = .ok (.iconst 2, 1) := by decide +kernel
theorem md_A_settle_41 : decode mc_A_settle 41 = .ok (.putfield 86, 3) := by decide +kernel
theorem md_A_settle_44 : decode mc_A_settle 44 = .ok (.aload_n 1, 1) := by decide +kernel
theorem md_A_settle_45 : decode mc_A_settle 45 = .ok (.iload_n 3, 1) := by decide +kernel
theorem md_A_settle_46 : decode mc_A_settle 46 = .ok (.ineg, 1) := by decide +kernel
theorem md_A_settle_47 : decode mc_A_settle 47 = .ok (.putfield 89, 3) := by decide +kernel
theorem md_A_settle_50 : decode mc_A_settle 50 = .ok (.goto 39, 3) := by decide +kernel
theorem md_A_settle_53 : decode mc_A_settle 53 = .ok (.aload_n 0, 1) := by decide +kernel
theorem md_A_settle_54 : decode mc_A_settle 54 = .ok (.getfield 21, 3) := by decide +kernel
theorem md_A_settle_57 : decode mc_A_settle 57 = .ok (.aload_n 1, 1) := by decide +kernel
theorem md_A_settle_58 : decode mc_A_settle 58 = .ok (.getfield 181, 3) := by decide +kernel
theorem md_A_settle_61 : decode mc_A_settle 61 = .ok (.baload, 1) := by decide +kernel
theorem md_A_settle_62 : decode mc_A_settle 62 = .ok (.ifCond .eq 22, 3) := by decide +kernel
theorem md_A_settle_65 : decode mc_A_settle 65 = .ok (.aload_n 0, 1) := by decide +kernel
theorem md_A_settle_66 : decode mc_A_settle 66 = .ok (.getfield 21, 3) := by decide +kernel
theorem md_A_settle_69 : decode mc_A_settle 69 = .ok (.aload_n 1, 1) := by decide +kernel
theorem md_A_settle_70 : decode mc_A_settle 70 = .ok (.getfield 181, 3) := by decide +kernel
theorem md_A_settle_73 : decode mc_A_settle 73 = .ok (.iconst 0, 1) := by decide +kernel
theorem md_A_settle_74 : decode mc_A_settle 74 = .ok (.bastore, 1) := by decide +kernel
theorem md_A_settle_75 : decode mc_A_settle 75 = .ok (.aload_n 0, 1) := by decide +kernel
theorem md_A_settle_76 : decode mc_A_settle 76 = .ok (.aload_n 1, 1) := by decide +kernel
theorem md_A_settle_77 : decode mc_A_settle 77 = .ok (.iload_n 2, 1) := by decide +kernel
theorem md_A_settle_78 : decode mc_A_settle 78 = .ok (.invokevirtual 209, 3) := by decide +kernel
theorem md_A_settle_81 : decode mc_A_settle 81 = .ok (.goto 8, 3) := by decide +kernel
theorem md_A_settle_84 : decode mc_A_settle 84 = .ok (.aload_n 0, 1) := by decide +kernel
theorem md_A_settle_85 : decode mc_A_settle 85 = .ok (.aload_n 1, 1) := by decide +kernel
theorem md_A_settle_86 : decode mc_A_settle 86 = .ok (.invokevirtual 212, 3) := by decide +kernel
theorem md_A_settle_89 : decode mc_A_settle 89 = .ok (.return_, 1) := by decide +kernel
theorem md_A_verdict_0 : decode mc_A_verdict 0 = .ok (.aload_n 1, 1) := by decide +kernel
theorem md_A_verdict_1 : decode mc_A_verdict 1 = .ok (.getfield 191, 3) := by decide +kernel
theorem md_A_verdict_4 : decode mc_A_verdict 4 = .ok (.getfield 95, 3) := by decide +kernel
theorem md_A_verdict_7 : decode mc_A_verdict 7 = .ok (.istore_n 2, 1) := by decide +kernel
theorem md_A_verdict_8 : decode mc_A_verdict 8 = .ok (.aload_n 1, 1) := by decide +kernel
theorem md_A_verdict_9 : decode mc_A_verdict 9 = .ok (.getfield 181, 3) := by decide +kernel
theorem md_A_verdict_12 : decode mc_A_verdict 12 = .ok (.tableswitch 90 0 4 #[36, 84, 51, 90, 84], 36) := by decide +kernel
theorem md_A_verdict_48 : decode mc_A_verdict 48 = .ok (.iload_n 2, 1) := by decide +kernel
theorem md_A_verdict_49 : decode mc_A_verdict 49 = .ok (.ifCond .eq 8, 3) := by decide +kernel
theorem md_A_verdict_52 : decode mc_A_verdict 52 = .ok (.iload_n 2, 1) := by decide +kernel
theorem md_A_verdict_53 : decode mc_A_verdict 53 = .ok (.iconst 3, 1) := by decide +kernel
theorem md_A_verdict_54 : decode mc_A_verdict 54 = .ok (.if_icmp .ne 7, 3) := by decide +kernel
theorem md_A_verdict_57 : decode mc_A_verdict 57 = .ok (.iconst 0, 1) := by decide +kernel
theorem md_A_verdict_58 : decode mc_A_verdict 58 = .ok (.goto 4, 3) := by decide +kernel
theorem md_A_verdict_61 : decode mc_A_verdict 61 = .ok (.iconst 1, 1) := by decide +kernel
theorem md_A_verdict_62 : decode mc_A_verdict 62 = .ok (.ireturn, 1) := by decide +kernel
theorem md_A_verdict_63 : decode mc_A_verdict 63 = .ok (.iload_n 2, 1) := by decide +kernel
theorem md_A_verdict_64 : decode mc_A_verdict 64 = .ok (.iconst 1, 1) := by decide +kernel
theorem md_A_verdict_65 : decode mc_A_verdict 65 = .ok (.if_icmp .ne 25, 3) := by decide +kernel
theorem md_A_verdict_68 : decode mc_A_verdict 68 = .ok (.aload_n 1, 1) := by decide +kernel
theorem md_A_verdict_69 : decode mc_A_verdict 69 = .ok (.getfield 191, 3) := by decide +kernel
theorem md_A_verdict_72 : decode mc_A_verdict 72 = .ok (.getfield 141, 3) := by decide +kernel
theorem md_A_verdict_75 : decode mc_A_verdict 75 = .ok (.aload_n 1, 1) := by decide +kernel
theorem md_A_verdict_76 : decode mc_A_verdict 76 = .ok (.getfield 215, 3) := by decide +kernel
theorem md_A_verdict_79 : decode mc_A_verdict 79 = .ok (.iadd, 1) := by decide +kernel
theorem md_A_verdict_80 : decode mc_A_verdict 80 = .ok (.ldc 218, 2) := by decide +kernel
theorem md_A_verdict_82 : decode mc_A_verdict 82 = .ok (.invokestatic 173, 3) := by decide +kernel
theorem md_A_verdict_85 : decode mc_A_verdict 85 = .ok (.ifCond .ne 5, 3) := by decide +kernel
theorem md_A_verdict_88 : decode mc_A_verdict 88 = .ok (.iconst 4, 1) := by decide +kernel
theorem md_A_verdict_89 : decode mc_A_verdict 89 = .ok (.ireturn, 1) := by decide +kernel
theorem md_A_verdict_90 : decode mc_A_verdict 90 = .ok (.aload_n 0, 1) := by decide +kernel
theorem md_A_verdict_91 : decode mc_A_verdict 91 = .ok (.iload_n 2, 1) := by decide +kernel
theorem md_A_verdict_92 : decode mc_A_verdict 92 = .ok (.invokevirtual 219, 3) := by decide +kernel
theorem md_A_verdict_95 : decode mc_A_verdict 95 = .ok (.ireturn, 1) := by decide +kernel
theorem md_A_verdict_96 : decode mc_A_verdict 96 = .ok (.aload_n 0, 1) := by decide +kernel
theorem md_A_verdict_97 : decode mc_A_verdict 97 = .ok (.iload_n 2, 1) := by decide +kernel
theorem md_A_verdict_98 : decode mc_A_verdict 98 = .ok (.invokevirtual 219, 3) := by decide +kernel
theorem md_A_verdict_101 : decode mc_A_verdict 101 = .ok (.ireturn, 1) := by decide +kernel
theorem md_A_verdict_102 : decode mc_A_verdict 102 = .ok (.iconst 0, 1) := by decide +kernel
theorem md_A_verdict_103 : decode mc_A_verdict 103 = .ok (.ireturn, 1) := by decide +kernel
theorem md_A_verdictIfOpenIsAsked_0 : decode mc_A_verdictIfOpenIsAsked 0 = .ok (.iload_n 1, 1) := by decide +kernel
theorem md_A_verdictIfOpenIsAsked_1 : decode mc_A_verdictIfOpenIsAsked 1 = .ok (.tableswitch 53 0 3 #[31, 53, 49, 51], 31) := by decide +kernel
theorem md_A_verdictIfOpenIsAsked_32 : decode mc_A_verdictIfOpenIsAsked 32 = .ok (.aload_n 0, 1) := by decide +kernel
theorem md_A_verdictIfOpenIsAsked_33 : decode mc_A_verdictIfOpenIsAsked 33 = .ok (.getfield 35, 3) := by decide +kernel
theorem md_A_verdictIfOpenIsAsked_36 : decode mc_A_verdictIfOpenIsAsked 36 = .ok (.getfield 109, 3) := by decide +kernel
theorem md_A_verdictIfOpenIsAsked_39 : decode mc_A_verdictIfOpenIsAsked 39 = .ok (.bipush 12, 2) := by decide +kernel
theorem md_A_verdictIfOpenIsAsked_41 : decode mc_A_verdictIfOpenIsAsked 41 = .ok (.if_icmp .ge 7, 3) := by decide +kernel
theorem md_A_verdictIfOpenIsAsked_44 : decode mc_A_verdictIfOpenIsAsked 44 = .ok (.iconst (-1), 1) := by decide +kernel
theorem md_A_verdictIfOpenIsAsked_45 : decode mc_A_verdictIfOpenIsAsked 45 = .ok (.goto 4, 3) := by decide +kernel
theorem md_A_verdictIfOpenIsAsked_48 : decode mc_A_verdictIfOpenIsAsked 48 = .ok (.iconst 5, 1) := by decide +kernel
theorem md_A_verdictIfOpenIsAsked_49 : decode mc_A_verdictIfOpenIsAsked 49 = .ok (.ireturn, 1) := by decide +kernel
theorem md_A_verdictIfOpenIsAsked_50 : decode mc_A_verdictIfOpenIsAsked 50 = .ok (.iconst 2, 1) := by decide +kernel
theorem md_A_verdictIfOpenIsAsked_51 : decode mc_A_verdictIfOpenIsAsked 51 = .ok (.ireturn, 1) := by decide +kernel
theorem md_A_verdictIfOpenIsAsked_52 : decode mc_A_verdictIfOpenIsAsked 52 = .ok (.iconst 3, 1) := by decide +kernel
theorem md_A_verdictIfOpenIsAsked_53 : decode mc_A_verdictIfOpenIsAsked 53 = .ok (.ireturn, 1) := by decide +kernel
theorem md_A_verdictIfOpenIsAsked_54 : decode mc_A_verdictIfOpenIsAsked 54 = .ok (.iconst 0, 1) := by decide +kernel
theorem md_A_verdictIfOpenIsAsked_55 : decode mc_A_verdictIfOpenIsAsked 55 = .ok (.ireturn, 1) := by decide +kernel
theorem md_A_fail_0 : decode mc_A_fail 0 = .ok (.iload_n 2, 1) := by decide +kernel
theorem md_A_fail_1 : decode mc_A_fail 1 = .ok (.ifCond .eq 10, 3) := by decide +kernel
theorem md_A_fail_4 : decode mc_A_fail 4 = .ok (.aload_n 0, 1) := by decide +kernel
theorem md_A_fail_5 : decode mc_A_fail 5 = .ok (.getfield 32, 3) := by decide +kernel
theorem md_A_fail_8 : decode mc_A_fail 8 = .ok (.goto 7, 3) := by decide +kernel
theorem md_A_fail_11 : decode mc_A_fail 11 = .ok (.aload_n 0, 1) := by decide +kernel
theorem md_A_fail_12 : decode mc_A_fail 12 = .ok (.getfield 38, 3) := by decide +kernel
theorem md_A_fail_15 : decode mc_A_fail 15 = .ok (.astore_n 3, 1) := by decide +kernel
theorem md_A_fail_16 : decode mc_A_fail 16 = .ok (.aload_n 1, 1) := by decide +kernel
theorem md_A_fail_17 : decode mc_A_fail 17 = .ok (.iload_n 2, 1) := by decide +kernel
theorem md_A_fail_18 : decode mc_A_fail 18 = .ok (.ifCond .eq 7, 3) := by decide +kernel
theorem md_A_fail_21 : decode mc_A_fail 21 = .ok (.iconst 5, 1) := by decide +kernel
theorem md_A_fail_22 : decode mc_A_fail 22 = .ok (.goto 4, 3) := by decide +kernel
theorem md_A_fail_25 : decode mc_A_fail 25 = .ok (.iconst 4, 1) := by decide +kernel
theorem md_A_fail_26 : decode mc_A_fail 26 = .ok (.putfield 86, 3) := by decide +kernel
theorem md_A_fail_29 : decode mc_A_fail 29 = .ok (.aload_n 3, 1) := by decide +kernel
theorem md_A_fail_30 : decode mc_A_fail 30 = .ok (.aload_n 1, 1) := by decide +kernel
theorem md_A_fail_31 : decode mc_A_fail 31 = .ok (.invokevirtual 205, 3) := by decide +kernel
theorem md_A_fail_34 : decode mc_A_fail 34 = .ok (.return_, 1) := by decide +kernel
theorem md_A_perform_0 : decode mc_A_perform 0 = .ok (.aload_n 1, 1) := by decide +kernel
theorem md_A_perform_1 : decode mc_A_perform 1 = .ok (.getfield 191, 3) := by decide +kernel
theorem md_A_perform_4 : decode mc_A_perform 4 = .ok (.astore_n 2, 1) := by decide +kernel
theorem md_A_perform_5 : decode mc_A_perform 5 = .ok (.aload_n 1, 1) := by decide +kernel
theorem md_A_perform_6 : decode mc_A_perform 6 = .ok (.getfield 181, 3) := by decide +kernel
theorem md_A_perform_9 : decode mc_A_perform 9 = .ok (.tableswitch 86 0 4 #[35, 51, 62, 86, 78], 35) := by decide +kernel
theorem md_A_perform_44 : decode mc_A_perform 44 = .ok (.aload_n 2, 1) := by decide +kernel
theorem md_A_perform_45 : decode mc_A_perform 45 = .ok (.iconst 1, 1) := by decide +kernel
theorem md_A_perform_46 : decode mc_A_perform 46 = .ok (.putfield 95, 3) := by decide +kernel
theorem md_A_perform_49 : decode mc_A_perform 49 = .ok (.aload_n 2, 1) := by decide +kernel
theorem md_A_perform_50 : decode mc_A_perform 50 = .ok (.aload_n 1, 1) := by decide +kernel
theorem md_A_perform_51 : decode mc_A_perform 51 = .ok (.getfield 215, 3) := by decide +kernel
theorem md_A_perform_54 : decode mc_A_perform 54 = .ok (.putfield 141, 3) := by decide +kernel
theorem md_A_perform_57 : decode mc_A_perform 57 = .ok (.goto 54, 3) := by decide +kernel
theorem md_A_perform_60 : decode mc_A_perform 60 = .ok (.aload_n 2, 1) := by decide +kernel
theorem md_A_perform_61 : decode mc_A_perform 61 = .ok (.aload_n 1, 1) := by decide +kernel
theorem md_A_perform_62 : decode mc_A_perform 62 = .ok (.getfield 215, 3) := by decide +kernel
theorem md_A_perform_65 : decode mc_A_perform 65 = .ok (.putfield 141, 3) := by decide +kernel
theorem md_A_perform_68 : decode mc_A_perform 68 = .ok (.goto 43, 3) := by decide +kernel
theorem md_A_perform_71 : decode mc_A_perform 71 = .ok (.aload_n 2, 1) := by decide +kernel
theorem md_A_perform_72 : decode mc_A_perform 72 = .ok (.dup, 1) := by decide +kernel
theorem md_A_perform_73 : decode mc_A_perform 73 = .ok (.getfield 141, 3) := by decide +kernel
theorem md_A_perform_76 : decode mc_A_perform 76 = .ok (.aload_n 1, 1) := by decide +kernel
theorem md_A_perform_77 : decode mc_A_perform 77 = .ok (.getfield 215, 3) := by decide +kernel
theorem md_A_perform_80 : decode mc_A_perform 80 = .ok (.iadd, 1) := by decide +kernel
theorem md_A_perform_81 : decode mc_A_perform 81 = .ok (.putfield 141, 3) := by decide +kernel
theorem md_A_perform_84 : decode mc_A_perform 84 = .ok (.goto 27, 3) := by decide +kernel
theorem md_A_perform_87 : decode mc_A_perform 87 = .ok (.aload_n 2, 1) := by decide +kernel
theorem md_A_perform_88 : decode mc_A_perform 88 = .ok (.iconst 3, 1) := by decide +kernel
theorem md_A_perform_89 : decode mc_A_perform 89 = .ok (.putfield 95, 3) := by decide +kernel
theorem md_A_perform_92 : decode mc_A_perform 92 = .ok (.goto 19, 3) := by decide +kernel
theorem md_A_perform_95 : decode mc_A_perform 95 = .ok (.aload_n 1, 1) := by decide +kernel
theorem md_A_perform_96 : decode mc_A_perform 96 = .ok (.bipush 10, 2) := by decide +kernel
theorem md_A_perform_98 : decode mc_A_perform 98 = .ok (.aload_n 2, 1) := by decide +kernel
theorem md_A_perform_99 : decode mc_A_perform 99 = .ok (.getfield 141, 3) := by decide +kernel
theorem md_A_perform_102 : decode mc_A_perform 102 = .ok (.imul, 1) := by decide +kernel
theorem md_A_perform_103 : decode mc_A_perform 103 = .ok (.aload_n 2, 1) := by decide +kernel
theorem md_A_perform_104 : decode mc_A_perform 104 = .ok (.getfield 95, 3) := by decide +kernel
theorem md_A_perform_107 : decode mc_A_perform 107 = .ok (.iadd, 1) := by decide +kernel
theorem md_A_perform_108 : decode mc_A_perform 108 = .ok (.putfield 89, 3) := by decide +kernel
theorem md_A_perform_111 : decode mc_A_perform 111 = .ok (.aload_n 2, 1) := by decide +kernel
theorem md_A_perform_112 : decode mc_A_perform 112 = .ok (.dup, 1) := by decide +kernel
theorem md_A_perform_113 : decode mc_A_perform 113 = .ok (.getfield 144, 3) := by decide +kernel
theorem md_A_perform_116 : decode mc_A_perform 116 = .ok (.iconst 1, 1) := by decide +kernel
theorem md_A_perform_117 : decode mc_A_perform 117 = .ok (.iadd, 1) := by decide +kernel
theorem md_A_perform_118 : decode mc_A_perform 118 = .ok (.putfield 144, 3) := by decide +kernel
theorem md_A_perform_121 : decode mc_A_perform 121 = .ok (.aload_n 1, 1) := by decide +kernel
theorem md_A_perform_122 : decode mc_A_perform 122 = .ok (.iconst 1, 1) := by decide +kernel
theorem md_A_perform_123 : decode mc_A_perform 123 = .ok (.putfield 86, 3) := by decide +kernel
theorem md_A_perform_126 : decode mc_A_perform 126 = .ok (.aload_n 0, 1) := by decide +kernel
theorem md_A_perform_127 : decode mc_A_perform 127 = .ok (.getfield 28, 3) := by decide +kernel
theorem md_A_perform_130 : decode mc_A_perform 130 = .ok (.aload_n 1, 1) := by decide +kernel
theorem md_A_perform_131 : decode mc_A_perform 131 = .ok (.invokevirtual 205, 3) := by decide +kernel
theorem md_A_perform_134 : decode mc_A_perform 134 = .ok (.return_, 1) := by decide +kernel
theorem md_A_tryFailedAgain_0 : decode mc_A_tryFailedAgain 0 = .ok (.aload_n 0, 1) := by decide +kernel
theorem md_A_tryFailedAgain_1 : decode mc_A_tryFailedAgain 1 = .ok (.getfield 38, 3) := by decide +kernel
theorem md_A_tryFailedAgain_4 : decode mc_A_tryFailedAgain 4 = .ok (.getfield 109, 3) := by decide +kernel
theorem md_A_tryFailedAgain_7 : decode mc_A_tryFailedAgain 7 = .ok (.istore_n 1, 1) := by decide +kernel
theorem md_A_tryFailedAgain_8 : decode mc_A_tryFailedAgain 8 = .ok (.iconst 0, 1) := by decide +kernel
theorem md_A_tryFailedAgain_9 : decode mc_A_tryFailedAgain 9 = .ok (.istore_n 2, 1) := by decide +kernel
theorem md_A_tryFailedAgain_10 : decode mc_A_tryFailedAgain 10 = .ok (.iload_n 2, 1) := by decide +kernel
theorem md_A_tryFailedAgain_11 : decode mc_A_tryFailedAgain 11 = .ok (.iload_n 1, 1) := by decide +kernel
theorem md_A_tryFailedAgain_12 : decode mc_A_tryFailedAgain 12 = .ok (.if_icmp .ge 28, 3) := by decide +kernel
theorem md_A_tryFailedAgain_15 : decode mc_A_tryFailedAgain 15 = .ok (.aload_n 0, 1) := by decide +kernel
theorem md_A_tryFailedAgain_16 : decode mc_A_tryFailedAgain 16 = .ok (.getfield 38, 3) := by decide +kernel
theorem md_A_tryFailedAgain_19 : decode mc_A_tryFailedAgain 19 = .ok (.iconst 0, 1) := by decide +kernel
theorem md_A_tryFailedAgain_20 : decode mc_A_tryFailedAgain 20 = .ok (.invokevirtual 222, 3) := by decide +kernel
theorem md_A_tryFailedAgain_23 : decode mc_A_tryFailedAgain 23 = .ok (.astore_n 3, 1) := by decide +kernel
theorem md_A_tryFailedAgain_24 : decode mc_A_tryFailedAgain 24 = .ok (.aload_n 3, 1) := by decide +kernel
theorem md_A_tryFailedAgain_25 : decode mc_A_tryFailedAgain 25 = .ok (.ifnull 9, 3) := by decide +kernel
theorem md_A_tryFailedAgain_28 : decode mc_A_tryFailedAgain 28 = .ok (.aload_n 0, 1) := by decide +kernel
theorem md_A_tryFailedAgain_29 : decode mc_A_tryFailedAgain 29 = .ok (.aload_n 3, 1) := by decide +kernel
theorem md_A_tryFailedAgain_30 : decode mc_A_tryFailedAgain 30 = .ok (.iconst 1, 1) := by decide +kernel
theorem md_A_tryFailedAgain_31 : decode mc_A_tryFailedAgain 31 = .ok (.invokevirtual 184, 3) := by decide +kernel
theorem md_A_tryFailedAgain_34 : decode mc_A_tryFailedAgain 34 = .ok (.iinc 2 1, 3) := by decide +kernel
theorem md_A_tryFailedAgain_37 : decode mc_A_tryFailedAgain 37 = .ok (.goto (-27), 3) := by decide +kernel
theorem md_A_tryFailedAgain_40 : decode mc_A_tryFailedAgain 40 = .ok (.return_, 1) := by decide +kernel
theorem md_A_endLongWaits_0 : decode mc_A_endLongWaits 0 = .ok (.aload_n 0, 1) := by decide +kernel
theorem md_A_endLongWaits_1 : decode mc_A_endLongWaits 1 = .ok (.getfield 35, 3) := by decide +kernel
theorem md_A_endLongWaits_4 : decode mc_A_endLongWaits 4 = .ok (.getfield 109, 3) := by decide +kernel
theorem md_A_endLongWaits_7 : decode mc_A_endLongWaits 7 = .ok (.istore_n 1, 1) := by decide +kernel
theorem md_A_endLongWaits_8 : decode mc_A_endLongWaits 8 = .ok (.iload_n 1, 1) := by decide +kernel
theorem md_A_endLongWaits_9 : decode mc_A_endLongWaits 9 = .ok (.ifCond .le 59, 3) := by decide +kernel
theorem md_A_endLongWaits_12 : decode mc_A_endLongWaits 12 = .ok (.aload_n 0, 1) := by decide +kernel
theorem md_A_endLongWaits_13 : decode mc_A_endLongWaits 13 = .ok (.getfield 35, 3) := by decide +kernel
theorem md_A_endLongWaits_16 : decode mc_A_endLongWaits 16 = .ok (.iconst 0, 1) := by decide +kernel
theorem md_A_endLongWaits_17 : decode mc_A_endLongWaits 17 = .ok (.invokevirtual 225, 3) := by decide +kernel
theorem md_A_endLongWaits_20 : decode mc_A_endLongWaits 20 = .ok (.astore_n 2, 1) := by decide +kernel
theorem md_A_endLongWaits_21 : decode mc_A_endLongWaits 21 = .ok (.aload_n 2, 1) := by decide +kernel
theorem md_A_endLongWaits_22 : decode mc_A_endLongWaits 22 = .ok (.ifnull 17, 3) := by decide +kernel
theorem md_A_endLongWaits_25 : decode mc_A_endLongWaits 25 = .ok (.aload_n 0, 1) := by decide +kernel
theorem md_A_endLongWaits_26 : decode mc_A_endLongWaits 26 = .ok (.getfield 41, 3) := by decide +kernel
theorem md_A_endLongWaits_29 : decode mc_A_endLongWaits 29 = .ok (.aload_n 2, 1) := by decide +kernel
theorem md_A_endLongWaits_30 : decode mc_A_endLongWaits 30 = .ok (.getfield 202, 3) := by decide +kernel
theorem md_A_endLongWaits_33 : decode mc_A_endLongWaits 33 = .ok (.isub, 1) := by decide +kernel
theorem md_A_endLongWaits_34 : decode mc_A_endLongWaits 34 = .ok (.bipush 50, 2) := by decide +kernel
theorem md_A_endLongWaits_36 : decode mc_A_endLongWaits 36 = .ok (.if_icmp .gt 4, 3) := by decide +kernel
theorem md_A_endLongWaits_39 : decode mc_A_endLongWaits 39 = .ok (.return_, 1) := by decide +kernel
theorem md_A_endLongWaits_40 : decode mc_A_endLongWaits 40 = .ok (.aload_n 0, 1) := by decide +kernel
theorem md_A_endLongWaits_41 : decode mc_A_endLongWaits 41 = .ok (.getfield 35, 3) := by decide +kernel
theorem md_A_endLongWaits_44 : decode mc_A_endLongWaits 44 = .ok (.iconst 0, 1) := by decide +kernel
theorem md_A_endLongWaits_45 : decode mc_A_endLongWaits 45 = .ok (.invokevirtual 222, 3) := by decide +kernel
theorem md_A_endLongWaits_48 : decode mc_A_endLongWaits 48 = .ok (.pop, 1) := by decide +kernel
theorem md_A_endLongWaits_49 : decode mc_A_endLongWaits 49 = .ok (.aload_n 2, 1) := by decide +kernel
theorem md_A_endLongWaits_50 : decode mc_A_endLongWaits 50 = .ok (.iconst 5, 1) := by decide +kernel
theorem md_A_endLongWaits_51 : decode mc_A_endLongWaits 51 = .ok (.putfield 86, 3) := by decide +kernel
theorem md_A_endLongWaits_54 : decode mc_A_endLongWaits 54 = .ok (.aload_n 0, 1) := by decide +kernel
theorem md_A_endLongWaits_55 : decode mc_A_endLongWaits 55 = .ok (.getfield 32, 3) := by decide +kernel
theorem md_A_endLongWaits_58 : decode mc_A_endLongWaits 58 = .ok (.aload_n 2, 1) := by decide +kernel
theorem md_A_endLongWaits_59 : decode mc_A_endLongWaits 59 = .ok (.invokevirtual 205, 3) := by decide +kernel
theorem md_A_endLongWaits_62 : decode mc_A_endLongWaits 62 = .ok (.iinc 1 (-1), 3) := by decide +kernel
theorem md_A_endLongWaits_65 : decode mc_A_endLongWaits 65 = .ok (.goto (-57), 3) := by decide +kernel
theorem md_A_endLongWaits_68 : decode mc_A_endLongWaits 68 = .ok (.return_, 1) := by decide +kernel
theorem md_A_received_0 : decode mc_A_received 0 = .ok (.aload_n 0, 1) := by decide +kernel
theorem md_A_received_1 : decode mc_A_received 1 = .ok (.getfield 86, 3) := by decide +kernel
theorem md_A_received_4 : decode mc_A_received 4 = .ok (.tableswitch 43 1 4 #[32, 38, 34, 36], 32) := by decide +kernel
theorem md_A_received_36 : decode mc_A_received 36 = .ok (.iconst 1, 1) := by decide +kernel
theorem md_A_received_37 : decode mc_A_received 37 = .ok (.ireturn, 1) := by decide +kernel
theorem md_A_received_38 : decode mc_A_received 38 = .ok (.iconst 4, 1) := by decide +kernel
theorem md_A_received_39 : decode mc_A_received 39 = .ok (.ireturn, 1) := by decide +kernel
theorem md_A_received_40 : decode mc_A_received 40 = .ok (.iconst 5, 1) := by decide +kernel
theorem md_A_received_41 : decode mc_A_received 41 = .ok (.ireturn, 1) := by decide +kernel
theorem md_A_received_42 : decode mc_A_received 42 = .ok (.aload_n 0, 1) := by decide +kernel
theorem md_A_received_43 : decode mc_A_received 43 = .ok (.getfield 89, 3) := by decide +kernel
theorem md_A_received_46 : decode mc_A_received 46 = .ok (.ireturn, 1) := by decide +kernel
theorem md_A_received_47 : decode mc_A_received 47 = .ok (.iconst 2, 1) := by decide +kernel
theorem md_A_received_48 : decode mc_A_received 48 = .ok (.ireturn, 1) := by decide +kernel
theorem md_A_nameAt_0 : decode mc_A_nameAt 0 = .ok (.aload_n 0, 1) := by decide +kernel
theorem md_A_nameAt_1 : decode mc_A_nameAt 1 = .ok (.iload_n 1, 1) := by decide +kernel
theorem md_A_nameAt_2 : decode mc_A_nameAt 2 = .ok (.invokevirtual 225, 3) := by decide +kernel
theorem md_A_nameAt_5 : decode mc_A_nameAt 5 = .ok (.astore_n 2, 1) := by decide +kernel
theorem md_A_nameAt_6 : decode mc_A_nameAt 6 = .ok (.aload_n 2, 1) := by decide +kernel
theorem md_A_nameAt_7 : decode mc_A_nameAt 7 = .ok (.ifnonnull 7, 3) := by decide +kernel
theorem md_A_nameAt_10 : decode mc_A_nameAt 10 = .ok (.iconst (-1), 1) := by decide +kernel
theorem md_A_nameAt_11 : decode mc_A_nameAt 11 = .ok (.goto 7, 3) := by decide +kernel
theorem md_A_nameAt_14 : decode mc_A_nameAt 14 = .ok (.aload_n 2, 1) := by decide +kernel
theorem md_A_nameAt_15 : decode mc_A_nameAt 15 = .ok (.getfield 226, 3) := by decide +kernel
theorem md_A_nameAt_18 : decode mc_A_nameAt 18 = .ok (.ireturn, 1) := by decide +kernel
end
section
theorem md_L_init_0 : decode mc_L_init 0 = .ok (.aload_n 0, 1) := by decide +kernel
theorem md_L_init_1 : decode mc_L_init 1 = .ok (.invokespecial 3, 3) := by decide +kernel
theorem md_L_init_4 : decode mc_L_init 4 = .ok (.aload_n 0, 1) := by decide +kernel
theorem md_L_init_5 : decode mc_L_init 5 = .ok (.bipush 96, 2) := by decide +kernel
theorem md_L_init_7 : decode mc_L_init 7 = .ok (.anewarray 9, 3) := by decide +kernel
theorem md_L_init_10 : decode mc_L_init 10 = .ok (.putfield 11, 3) := by decide +kernel
theorem md_L_init_13 : decode mc_L_init 13 = .ok (.aload_n 0, 1) := by decide +kernel
theorem md_L_init_14 : decode mc_L_init 14 = .ok (.iconst 0, 1) := by decide +kernel
theorem md_L_init_15 : decode mc_L_init 15 = .ok (.putfield 17, 3) := by decide +kernel
theorem md_L_init_18 : decode mc_L_init 18 = .ok (.return_, 1) := by decide +kernel
theorem md_L_append_0 : decode mc_L_append 0 = .ok (.aload_n 0, 1) := by decide +kernel
theorem md_L_append_1 : decode mc_L_append 1 = .ok (.getfield 17, 3) := by decide +kernel
theorem md_L_append_4 : decode mc_L_append 4 = .ok (.ifCond .lt 35, 3) := by decide +kernel
theorem md_L_append_7 : decode mc_L_append 7 = .ok (.aload_n 0, 1) := by decide +kernel
theorem md_L_append_8 : decode mc_L_append 8 = .ok (.getfield 17, 3) := by decide +kernel
theorem md_L_append_11 : decode mc_L_append 11 = .ok (.aload_n 0, 1) := by decide +kernel
theorem md_L_append_12 : decode mc_L_append 12 = .ok (.getfield 11, 3) := by decide +kernel
theorem md_L_append_15 : decode mc_L_append 15 = .ok (.arraylength, 1) := by decide +kernel
theorem md_L_append_16 : decode mc_L_append 16 = .ok (.if_icmp .ge 23, 3) := by decide +kernel
theorem md_L_append_19 : decode mc_L_append 19 = .ok (.aload_n 0, 1) := by decide +kernel
theorem md_L_append_20 : decode mc_L_append 20 = .ok (.getfield 11, 3) := by decide +kernel
theorem md_L_append_23 : decode mc_L_append 23 = .ok (.aload_n 0, 1) := by decide +kernel
theorem md_L_append_24 : decode mc_L_append 24 = .ok (.getfield 17, 3) := by decide +kernel
theorem md_L_append_27 : decode mc_L_append 27 = .ok (.aload_n 1, 1) := by decide +kernel
theorem md_L_append_28 : decode mc_L_append 28 = .ok (.aastore, 1) := by decide +kernel
theorem md_L_append_29 : decode mc_L_append 29 = .ok (.aload_n 0, 1) := by decide +kernel
theorem md_L_append_30 : decode mc_L_append 30 = .ok (.dup, 1) := by decide +kernel
theorem md_L_append_31 : decode mc_L_append 31 = .ok (.getfield 17, 3) := by decide +kernel
theorem md_L_append_34 : decode mc_L_append 34 = .ok (.iconst 1, 1) := by decide +kernel
theorem md_L_append_35 : decode mc_L_append 35 = .ok (.iadd, 1) := by decide +kernel
theorem md_L_append_36 : decode mc_L_append 36 = .ok (.putfield 17, 3) := by decide +kernel
theorem md_L_append_39 : decode mc_L_append 39 = .ok (.return_, 1) := by decide +kernel
theorem md_L_get_0 : decode mc_L_get 0 = .ok (.iload_n 1, 1) := by decide +kernel
theorem md_L_get_1 : decode mc_L_get 1 = .ok (.ifCond .lt 29, 3) := by decide +kernel
theorem md_L_get_4 : decode mc_L_get 4 = .ok (.iload_n 1, 1) := by decide +kernel
theorem md_L_get_5 : decode mc_L_get 5 = .ok (.aload_n 0, 1) := by decide +kernel
theorem md_L_get_6 : decode mc_L_get 6 = .ok (.getfield 17, 3) := by decide +kernel
theorem md_L_get_9 : decode mc_L_get 9 = .ok (.if_icmp .ge 21, 3) := by decide +kernel
theorem md_L_get_12 : decode mc_L_get 12 = .ok (.iload_n 1, 1) := by decide +kernel
theorem md_L_get_13 : decode mc_L_get 13 = .ok (.aload_n 0, 1) := by decide +kernel
theorem md_L_get_14 : decode mc_L_get 14 = .ok (.getfield 11, 3) := by decide +kernel
theorem md_L_get_17 : decode mc_L_get 17 = .ok (.arraylength, 1) := by decide +kernel
theorem md_L_get_18 : decode mc_L_get 18 = .ok (.if_icmp .ge 12, 3) := by decide +kernel
theorem md_L_get_21 : decode mc_L_get 21 = .ok (.aload_n 0, 1) := by decide +kernel
theorem md_L_get_22 : decode mc_L_get 22 = .ok (.getfield 11, 3) := by decide +kernel
theorem md_L_get_25 : decode mc_L_get 25 = .ok (.iload_n 1, 1) := by decide +kernel
theorem md_L_get_26 : decode mc_L_get 26 = .ok (.aaload, 1) := by decide +kernel
theorem md_L_get_27 : decode mc_L_get 27 = .ok (.goto 4, 3) := by decide +kernel
theorem md_L_get_30 : decode mc_L_get 30 = .ok (.aconst_null, 1) := by decide +kernel
theorem md_L_get_31 : decode mc_L_get 31 = .ok (.areturn, 1) := by decide +kernel
theorem md_L_take_0 : decode mc_L_take 0 = .ok (.aload_n 0, 1) := by decide +kernel
theorem md_L_take_1 : decode mc_L_take 1 = .ok (.iload_n 1, 1) := by decide +kernel
theorem md_L_take_2 : decode mc_L_take 2 = .ok (.invokevirtual 21, 3) := by decide +kernel
theorem md_L_take_5 : decode mc_L_take 5 = .ok (.astore_n 2, 1) := by decide +kernel
theorem md_L_take_6 : decode mc_L_take 6 = .ok (.aload_n 2, 1) := by decide +kernel
theorem md_L_take_7 : decode mc_L_take 7 = .ok (.ifnull 55, 3) := by decide +kernel
theorem md_L_take_10 : decode mc_L_take 10 = .ok (.iload_n 1, 1) := by decide +kernel
theorem md_L_take_11 : decode mc_L_take 11 = .ok (.iconst 1, 1) := by decide +kernel
theorem md_L_take_12 : decode mc_L_take 12 = .ok (.iadd, 1) := by decide +kernel
theorem md_L_take_13 : decode mc_L_take 13 = .ok (.istore_n 3, 1) := by decide +kernel
theorem md_L_take_14 : decode mc_L_take 14 = .ok (.iload_n 3, 1) := by decide +kernel
theorem md_L_take_15 : decode mc_L_take 15 = .ok (.aload_n 0, 1) := by decide +kernel
theorem md_L_take_16 : decode mc_L_take 16 = .ok (.getfield 17, 3) := by decide +kernel
theorem md_L_take_19 : decode mc_L_take 19 = .ok (.if_icmp .ge 23, 3) := by decide +kernel
theorem md_L_take_22 : decode mc_L_take 22 = .ok (.aload_n 0, 1) := by decide +kernel
theorem md_L_take_23 : decode mc_L_take 23 = .ok (.getfield 11, 3) := by decide +kernel
theorem md_L_take_26 : decode mc_L_take 26 = .ok (.iload_n 3, 1) := by decide +kernel
theorem md_L_take_27 : decode mc_L_take 27 = .ok (.iconst 1, 1) := by decide +kernel
theorem md_L_take_28 : decode mc_L_take 28 = .ok (.isub, 1) := by decide +kernel
theorem md_L_take_29 : decode mc_L_take 29 = .ok (.aload_n 0, 1) := by decide +kernel
theorem md_L_take_30 : decode mc_L_take 30 = .ok (.getfield 11, 3) := by decide +kernel
theorem md_L_take_33 : decode mc_L_take 33 = .ok (.iload_n 3, 1) := by decide +kernel
theorem md_L_take_34 : decode mc_L_take 34 = .ok (.aaload, 1) := by decide +kernel
theorem md_L_take_35 : decode mc_L_take 35 = .ok (.aastore, 1) := by decide +kernel
theorem md_L_take_36 : decode mc_L_take 36 = .ok (.iinc 3 1, 3) := by decide +kernel
theorem md_L_take_39 : decode mc_L_take 39 = .ok (.goto (-25), 3) := by decide +kernel
theorem md_L_take_42 : decode mc_L_take 42 = .ok (.aload_n 0, 1) := by decide +kernel
theorem md_L_take_43 : decode mc_L_take 43 = .ok (.dup, 1) := by decide +kernel
theorem md_L_take_44 : decode mc_L_take 44 = .ok (.getfield 17, 3) := by decide +kernel
theorem md_L_take_47 : decode mc_L_take 47 = .ok (.iconst 1, 1) := by decide +kernel
theorem md_L_take_48 : decode mc_L_take 48 = .ok (.isub, 1) := by decide +kernel
theorem md_L_take_49 : decode mc_L_take 49 = .ok (.putfield 17, 3) := by decide +kernel
theorem md_L_take_52 : decode mc_L_take 52 = .ok (.aload_n 0, 1) := by decide +kernel
theorem md_L_take_53 : decode mc_L_take 53 = .ok (.getfield 11, 3) := by decide +kernel
theorem md_L_take_56 : decode mc_L_take 56 = .ok (.aload_n 0, 1) := by decide +kernel
theorem md_L_take_57 : decode mc_L_take 57 = .ok (.getfield 17, 3) := by decide +kernel
theorem md_L_take_60 : decode mc_L_take 60 = .ok (.aconst_null, 1) := by decide +kernel
theorem md_L_take_61 : decode mc_L_take 61 = .ok (.aastore, 1) := by decide +kernel
theorem md_L_take_62 : decode mc_L_take 62 = .ok (.aload_n 2, 1) := by decide +kernel
theorem md_L_take_63 : decode mc_L_take 63 = .ok (.areturn, 1) := by decide +kernel
theorem md_L_takeFirstFor_0 : decode mc_L_takeFirstFor 0 = .ok (.iconst 0, 1) := by decide +kernel
theorem md_L_takeFirstFor_1 : decode mc_L_takeFirstFor 1 = .ok (.istore_n 2, 1) := by decide +kernel
theorem md_L_takeFirstFor_2 : decode mc_L_takeFirstFor 2 = .ok (.iload_n 2, 1) := by decide +kernel
theorem md_L_takeFirstFor_3 : decode mc_L_takeFirstFor 3 = .ok (.aload_n 0, 1) := by decide +kernel
theorem md_L_takeFirstFor_4 : decode mc_L_takeFirstFor 4 = .ok (.getfield 17, 3) := by decide +kernel
theorem md_L_takeFirstFor_7 : decode mc_L_takeFirstFor 7 = .ok (.if_icmp .ge 33, 3) := by decide +kernel
theorem md_L_takeFirstFor_10 : decode mc_L_takeFirstFor 10 = .ok (.aload_n 0, 1) := by decide +kernel
theorem md_L_takeFirstFor_11 : decode mc_L_takeFirstFor 11 = .ok (.iload_n 2, 1) := by decide +kernel
theorem md_L_takeFirstFor_12 : decode mc_L_takeFirstFor 12 = .ok (.invokevirtual 21, 3) := by decide +kernel
theorem md_L_takeFirstFor_15 : decode mc_L_takeFirstFor 15 = .ok (.astore_n 3, 1) := by decide +kernel
theorem md_L_takeFirstFor_16 : decode mc_L_takeFirstFor 16 = .ok (.aload_n 3, 1) := by decide +kernel
theorem md_L_takeFirstFor_17 : decode mc_L_takeFirstFor 17 = .ok (.ifnull 17, 3) := by decide +kernel
theorem md_L_takeFirstFor_20 : decode mc_L_takeFirstFor 20 = .ok (.aload_n 3, 1) := by decide +kernel
theorem md_L_takeFirstFor_21 : decode mc_L_takeFirstFor 21 = .ok (.getfield 25, 3) := by decide +kernel
theorem md_L_takeFirstFor_24 : decode mc_L_takeFirstFor 24 = .ok (.aload_n 1, 1) := by decide +kernel
theorem md_L_takeFirstFor_25 : decode mc_L_takeFirstFor 25 = .ok (.if_acmp .ne 9, 3) := by decide +kernel
theorem md_L_takeFirstFor_28 : decode mc_L_takeFirstFor 28 = .ok (.aload_n 0, 1) := by decide +kernel
theorem md_L_takeFirstFor_29 : decode mc_L_takeFirstFor 29 = .ok (.iload_n 2, 1) := by decide +kernel
theorem md_L_takeFirstFor_30 : decode mc_L_takeFirstFor 30 = .ok (.invokevirtual 29, 3) := by decide +kernel
theorem md_L_takeFirstFor_33 : decode mc_L_takeFirstFor 33 = .ok (.areturn, 1) := by decide +kernel
theorem md_L_takeFirstFor_34 : decode mc_L_takeFirstFor 34 = .ok (.iinc 2 1, 3) := by decide +kernel
theorem md_L_takeFirstFor_37 : decode mc_L_takeFirstFor 37 = .ok (.goto (-35), 3) := by decide +kernel
theorem md_L_takeFirstFor_40 : decode mc_L_takeFirstFor 40 = .ok (.aconst_null, 1) := by decide +kernel
theorem md_L_takeFirstFor_41 : decode mc_L_takeFirstFor 41 = .ok (.areturn, 1) := by decide +kernel
theorem md_L_lengthFor_0 : decode mc_L_lengthFor 0 = .ok (.iconst 0, 1) := by decide +kernel
theorem md_L_lengthFor_1 : decode mc_L_lengthFor 1 = .ok (.istore_n 2, 1) := by decide +kernel
theorem md_L_lengthFor_2 : decode mc_L_lengthFor 2 = .ok (.iconst 0, 1) := by decide +kernel
theorem md_L_lengthFor_3 : decode mc_L_lengthFor 3 = .ok (.istore_n 3, 1) := by decide +kernel
theorem md_L_lengthFor_4 : decode mc_L_lengthFor 4 = .ok (.iload_n 3, 1) := by decide +kernel
theorem md_L_lengthFor_5 : decode mc_L_lengthFor 5 = .ok (.aload_n 0, 1) := by decide +kernel
theorem md_L_lengthFor_6 : decode mc_L_lengthFor 6 = .ok (.getfield 17, 3) := by decide +kernel
theorem md_L_lengthFor_9 : decode mc_L_lengthFor 9 = .ok (.if_icmp .ge 33, 3) := by decide +kernel
theorem md_L_lengthFor_12 : decode mc_L_lengthFor 12 = .ok (.aload_n 0, 1) := by decide +kernel
theorem md_L_lengthFor_13 : decode mc_L_lengthFor 13 = .ok (.iload_n 3, 1) := by decide +kernel
theorem md_L_lengthFor_14 : decode mc_L_lengthFor 14 = .ok (.invokevirtual 21, 3) := by decide +kernel
theorem md_L_lengthFor_17 : decode mc_L_lengthFor 17 = .ok (.astore 4, 2) := by decide +kernel
theorem md_L_lengthFor_19 : decode mc_L_lengthFor 19 = .ok (.aload 4, 2) := by decide +kernel
theorem md_L_lengthFor_21 : decode mc_L_lengthFor 21 = .ok (.ifnull 15, 3) := by decide +kernel
theorem md_L_lengthFor_24 : decode mc_L_lengthFor 24 = .ok (.aload 4, 2) := by decide +kernel
theorem md_L_lengthFor_26 : decode mc_L_lengthFor 26 = .ok (.getfield 25, 3) := by decide +kernel
theorem md_L_lengthFor_29 : decode mc_L_lengthFor 29 = .ok (.aload_n 1, 1) := by decide +kernel
theorem md_L_lengthFor_30 : decode mc_L_lengthFor 30 = .ok (.if_acmp .ne 6, 3) := by decide +kernel
theorem md_L_lengthFor_33 : decode mc_L_lengthFor 33 = .ok (.iinc 2 1, 3) := by decide +kernel
theorem md_L_lengthFor_36 : decode mc_L_lengthFor 36 = .ok (.iinc 3 1, 3) := by decide +kernel
theorem md_L_lengthFor_39 : decode mc_L_lengthFor 39 = .ok (.goto (-35), 3) := by decide +kernel
theorem md_L_lengthFor_42 : decode mc_L_lengthFor 42 = .ok (.iload_n 2, 1) := by decide +kernel
theorem md_L_lengthFor_43 : decode mc_L_lengthFor 43 = .ok (.ireturn, 1) := by decide +kernel
theorem md_G_init_0 : decode mc_G_init 0 = .ok (.aload_n 0, 1) := by decide +kernel
theorem md_G_init_1 : decode mc_G_init 1 = .ok (.invokespecial 3, 3) := by decide +kernel
theorem md_G_init_4 : decode mc_G_init 4 = .ok (.aload_n 0, 1) := by decide +kernel
theorem md_G_init_5 : decode mc_G_init 5 = .ok (.iconst 0, 1) := by decide +kernel
theorem md_G_init_6 : decode mc_G_init 6 = .ok (.putfield 9, 3) := by decide +kernel
theorem md_G_init_9 : decode mc_G_init 9 = .ok (.aload_n 0, 1) := by decide +kernel
theorem md_G_init_10 : decode mc_G_init 10 = .ok (.iconst 0, 1) := by decide +kernel
theorem md_G_init_11 : decode mc_G_init 11 = .ok (.putfield 15, 3) := by decide +kernel
theorem md_G_init_14 : decode mc_G_init 14 = .ok (.aload_n 0, 1) := by decide +kernel
theorem md_G_init_15 : decode mc_G_init 15 = .ok (.iconst 0, 1) := by decide +kernel
theorem md_G_init_16 : decode mc_G_init 16 = .ok (.putfield 18, 3) := by decide +kernel
theorem md_G_init_19 : decode mc_G_init 19 = .ok (.aload_n 0, 1) := by decide +kernel
theorem md_G_init_20 : decode mc_G_init 20 = .ok (.iconst 0, 1) := by decide +kernel
theorem md_G_init_21 : decode mc_G_init 21 = .ok (.putfield 21, 3) := by decide +kernel
theorem md_G_init_24 : decode mc_G_init 24 = .ok (.aload_n 0, 1) := by decide +kernel
theorem md_G_init_25 : decode mc_G_init 25 = .ok (.iload_n 1, 1) := by decide +kernel
theorem md_G_init_26 : decode mc_G_init 26 = .ok (.putfield 24, 3) := by decide +kernel
theorem md_G_init_29 : decode mc_G_init 29 = .ok (.aload_n 0, 1) := by decide +kernel
theorem md_G_init_30 : decode mc_G_init 30 = .ok (.iload_n 2, 1) := by decide +kernel
theorem md_G_init_31 : decode mc_G_init 31 = .ok (.putfield 27, 3) := by decide +kernel
theorem md_G_init_34 : decode mc_G_init 34 = .ok (.aload_n 0, 1) := by decide +kernel
theorem md_G_init_35 : decode mc_G_init 35 = .ok (.aload_n 3, 1) := by decide +kernel
theorem md_G_init_36 : decode mc_G_init 36 = .ok (.putfield 30, 3) := by decide +kernel
theorem md_G_init_39 : decode mc_G_init 39 = .ok (.aload_n 0, 1) := by decide +kernel
theorem md_G_init_40 : decode mc_G_init 40 = .ok (.iload 4, 2) := by decide +kernel
theorem md_G_init_42 : decode mc_G_init 42 = .ok (.putfield 34, 3) := by decide +kernel
theorem md_G_init_45 : decode mc_G_init 45 = .ok (.return_, 1) := by decide +kernel
theorem md_S_init_0 : decode mc_S_init 0 = .ok (.aload_n 0, 1) := by decide +kernel
theorem md_S_init_1 : decode mc_S_init 1 = .ok (.invokespecial 3, 3) := by decide +kernel
theorem md_S_init_4 : decode mc_S_init 4 = .ok (.aload_n 0, 1) := by decide +kernel
theorem md_S_init_5 : decode mc_S_init 5 = .ok (.bipush 25, 2) := by decide +kernel
theorem md_S_init_7 : decode mc_S_init 7 = .ok (.anewarray 9, 3) := by decide +kernel
theorem md_S_init_10 : decode mc_S_init 10 = .ok (.putfield 11, 3) := by decide +kernel
theorem md_S_init_13 : decode mc_S_init 13 = .ok (.aload_n 0, 1) := by decide +kernel
theorem md_S_init_14 : decode mc_S_init 14 = .ok (.bipush 25, 2) := by decide +kernel
theorem md_S_init_16 : decode mc_S_init 16 = .ok (.newarray .boolean, 2) := by decide +kernel
theorem md_S_init_18 : decode mc_S_init 18 = .ok (.putfield 17, 3) := by decide +kernel
theorem md_S_init_21 : decode mc_S_init 21 = .ok (.return_, 1) := by decide +kernel
theorem md_S_get_0 : decode mc_S_get 0 = .ok (.iload_n 1, 1) := by decide +kernel
theorem md_S_get_1 : decode mc_S_get 1 = .ok (.invokestatic 21, 3) := by decide +kernel
theorem md_S_get_4 : decode mc_S_get 4 = .ok (.ifCond .eq 12, 3) := by decide +kernel
theorem md_S_get_7 : decode mc_S_get 7 = .ok (.aload_n 0, 1) := by decide +kernel
theorem md_S_get_8 : decode mc_S_get 8 = .ok (.getfield 11, 3) := by decide +kernel
theorem md_S_get_11 : decode mc_S_get 11 = .ok (.iload_n 1, 1) := by decide +kernel
theorem md_S_get_12 : decode mc_S_get 12 = .ok (.aaload, 1) := by decide +kernel
theorem md_S_get_13 : decode mc_S_get 13 = .ok (.goto 4, 3) := by decide +kernel
theorem md_S_get_16 : decode mc_S_get 16 = .ok (.aconst_null, 1) := by decide +kernel
theorem md_S_get_17 : decode mc_S_get 17 = .ok (.areturn, 1) := by decide +kernel
theorem md_S_put_0 : decode mc_S_put 0 = .ok (.iload_n 1, 1) := by decide +kernel
theorem md_S_put_1 : decode mc_S_put 1 = .ok (.invokestatic 21, 3) := by decide +kernel
theorem md_S_put_4 : decode mc_S_put 4 = .ok (.ifCond .eq 10, 3) := by decide +kernel
theorem md_S_put_7 : decode mc_S_put 7 = .ok (.aload_n 0, 1) := by decide +kernel
theorem md_S_put_8 : decode mc_S_put 8 = .ok (.getfield 11, 3) := by decide +kernel
theorem md_S_put_11 : decode mc_S_put 11 = .ok (.iload_n 1, 1) := by decide +kernel
theorem md_S_put_12 : decode mc_S_put 12 = .ok (.aload_n 2, 1) := by decide +kernel
theorem md_S_put_13 : decode mc_S_put 13 = .ok (.aastore, 1) := by decide +kernel
theorem md_S_put_14 : decode mc_S_put 14 = .ok (.return_, 1) := by decide +kernel
theorem md_S_close_0 : decode mc_S_close 0 = .ok (.iload_n 1, 1) := by decide +kernel
theorem md_S_close_1 : decode mc_S_close 1 = .ok (.invokestatic 21, 3) := by decide +kernel
theorem md_S_close_4 : decode mc_S_close 4 = .ok (.ifCond .eq 10, 3) := by decide +kernel
theorem md_S_close_7 : decode mc_S_close 7 = .ok (.aload_n 0, 1) := by decide +kernel
theorem md_S_close_8 : decode mc_S_close 8 = .ok (.getfield 17, 3) := by decide +kernel
theorem md_S_close_11 : decode mc_S_close 11 = .ok (.iload_n 1, 1) := by decide +kernel
theorem md_S_close_12 : decode mc_S_close 12 = .ok (.iconst 1, 1) := by decide +kernel
theorem md_S_close_13 : decode mc_S_close 13 = .ok (.bastore, 1) := by decide +kernel
theorem md_S_close_14 : decode mc_S_close 14 = .ok (.return_, 1) := by decide +kernel
theorem md_S_isGap_0 : decode mc_S_isGap 0 = .ok (.iload_n 1, 1) := by decide +kernel
theorem md_S_isGap_1 : decode mc_S_isGap 1 = .ok (.invokestatic 21, 3) := by decide +kernel
theorem md_S_isGap_4 : decode mc_S_isGap 4 = .ok (.ifCond .eq 28, 3) := by decide +kernel
theorem md_S_isGap_7 : decode mc_S_isGap 7 = .ok (.aload_n 0, 1) := by decide +kernel
theorem md_S_isGap_8 : decode mc_S_isGap 8 = .ok (.getfield 17, 3) := by decide +kernel
theorem md_S_isGap_11 : decode mc_S_isGap 11 = .ok (.iload_n 1, 1) := by decide +kernel
theorem md_S_isGap_12 : decode mc_S_isGap 12 = .ok (.baload, 1) := by decide +kernel
theorem md_S_isGap_13 : decode mc_S_isGap 13 = .ok (.ifCond .ne 19, 3) := by decide +kernel
theorem md_S_isGap_16 : decode mc_S_isGap 16 = .ok (.aload_n 0, 1) := by decide +kernel
theorem md_S_isGap_17 : decode mc_S_isGap 17 = .ok (.getfield 11, 3) := by decide +kernel
theorem md_S_isGap_20 : decode mc_S_isGap 20 = .ok (.iload_n 1, 1) := by decide +kernel
theorem md_S_isGap_21 : decode mc_S_isGap 21 = .ok (.aaload, 1) := by decide +kernel
theorem md_S_isGap_22 : decode mc_S_isGap 22 = .ok (.invokestatic 25, 3) := by decide +kernel
theorem md_S_isGap_25 : decode mc_S_isGap 25 = .ok (.ifCond .ne 7, 3) := by decide +kernel
theorem md_S_isGap_28 : decode mc_S_isGap 28 = .ok (.iconst 1, 1) := by decide +kernel
theorem md_S_isGap_29 : decode mc_S_isGap 29 = .ok (.goto 4, 3) := by decide +kernel
theorem md_S_isGap_32 : decode mc_S_isGap 32 = .ok (.iconst 0, 1) := by decide +kernel
theorem md_S_isGap_33 : decode mc_S_isGap 33 = .ok (.ireturn, 1) := by decide +kernel
theorem md_S_isHere_0 : decode mc_S_isHere 0 = .ok (.aload_n 0, 1) := by decide +kernel
theorem md_S_isHere_1 : decode mc_S_isHere 1 = .ok (.ifnull 16, 3) := by decide +kernel
theorem md_S_isHere_4 : decode mc_S_isHere 4 = .ok (.aload_n 0, 1) := by decide +kernel
theorem md_S_isHere_5 : decode mc_S_isHere 5 = .ok (.getfield 29, 3) := by decide +kernel
theorem md_S_isHere_8 : decode mc_S_isHere 8 = .ok (.bipush 6, 2) := by decide +kernel
theorem md_S_isHere_10 : decode mc_S_isHere 10 = .ok (.if_icmp .eq 7, 3) := by decide +kernel
theorem md_S_isHere_13 : decode mc_S_isHere 13 = .ok (.iconst 1, 1) := by decide +kernel
theorem md_S_isHere_14 : decode mc_S_isHere 14 = .ok (.goto 4, 3) := by decide +kernel
theorem md_S_isHere_17 : decode mc_S_isHere 17 = .ok (.iconst 0, 1) := by decide +kernel
theorem md_S_isHere_18 : decode mc_S_isHere 18 = .ok (.ireturn, 1) := by decide +kernel
theorem md_S_leastGap_0 : decode mc_S_leastGap 0 = .ok (.iconst 1, 1) := by decide +kernel
theorem md_S_leastGap_1 : decode mc_S_leastGap 1 = .ok (.istore_n 1, 1) := by decide +kernel
theorem md_S_leastGap_2 : decode mc_S_leastGap 2 = .ok (.iload_n 1, 1) := by decide +kernel
theorem md_S_leastGap_3 : decode mc_S_leastGap 3 = .ok (.bipush 24, 2) := by decide +kernel
theorem md_S_leastGap_5 : decode mc_S_leastGap 5 = .ok (.if_icmp .gt 19, 3) := by decide +kernel
theorem md_S_leastGap_8 : decode mc_S_leastGap 8 = .ok (.aload_n 0, 1) := by decide +kernel
theorem md_S_leastGap_9 : decode mc_S_leastGap 9 = .ok (.iload_n 1, 1) := by decide +kernel
theorem md_S_leastGap_10 : decode mc_S_leastGap 10 = .ok (.invokevirtual 33, 3) := by decide +kernel
theorem md_S_leastGap_13 : decode mc_S_leastGap 13 = .ok (.ifCond .eq 5, 3) := by decide +kernel
theorem md_S_leastGap_16 : decode mc_S_leastGap 16 = .ok (.iload_n 1, 1) := by decide +kernel
theorem md_S_leastGap_17 : decode mc_S_leastGap 17 = .ok (.ireturn, 1) := by decide +kernel
theorem md_S_leastGap_18 : decode mc_S_leastGap 18 = .ok (.iinc 1 1, 3) := by decide +kernel
theorem md_S_leastGap_21 : decode mc_S_leastGap 21 = .ok (.goto (-19), 3) := by decide +kernel
theorem md_S_leastGap_24 : decode mc_S_leastGap 24 = .ok (.bipush 25, 2) := by decide +kernel
theorem md_S_leastGap_26 : decode mc_S_leastGap 26 = .ok (.ireturn, 1) := by decide +kernel
theorem md_S_greatest_0 : decode mc_S_greatest 0 = .ok (.bipush 24, 2) := by decide +kernel
theorem md_S_greatest_2 : decode mc_S_greatest 2 = .ok (.istore_n 1, 1) := by decide +kernel
theorem md_S_greatest_3 : decode mc_S_greatest 3 = .ok (.iload_n 1, 1) := by decide +kernel
theorem md_S_greatest_4 : decode mc_S_greatest 4 = .ok (.ifCond .le 22, 3) := by decide +kernel
theorem md_S_greatest_7 : decode mc_S_greatest 7 = .ok (.aload_n 0, 1) := by decide +kernel
theorem md_S_greatest_8 : decode mc_S_greatest 8 = .ok (.iload_n 1, 1) := by decide +kernel
theorem md_S_greatest_9 : decode mc_S_greatest 9 = .ok (.invokevirtual 36, 3) := by decide +kernel
theorem md_S_greatest_12 : decode mc_S_greatest 12 = .ok (.invokestatic 25, 3) := by decide +kernel
theorem md_S_greatest_15 : decode mc_S_greatest 15 = .ok (.ifCond .eq 5, 3) := by decide +kernel
theorem md_S_greatest_18 : decode mc_S_greatest 18 = .ok (.iload_n 1, 1) := by decide +kernel
theorem md_S_greatest_19 : decode mc_S_greatest 19 = .ok (.ireturn, 1) := by decide +kernel
theorem md_S_greatest_20 : decode mc_S_greatest 20 = .ok (.iinc 1 (-1), 3) := by decide +kernel
theorem md_S_greatest_23 : decode mc_S_greatest 23 = .ok (.goto (-20), 3) := by decide +kernel
theorem md_S_greatest_26 : decode mc_S_greatest 26 = .ok (.iconst 0, 1) := by decide +kernel
theorem md_S_greatest_27 : decode mc_S_greatest 27 = .ok (.ireturn, 1) := by decide +kernel
theorem md_S_cameBehind_0 : decode mc_S_cameBehind 0 = .ok (.iload_n 1, 1) := by decide +kernel
theorem md_S_cameBehind_1 : decode mc_S_cameBehind 1 = .ok (.iconst 1, 1) := by decide +kernel
theorem md_S_cameBehind_2 : decode mc_S_cameBehind 2 = .ok (.iadd, 1) := by decide +kernel
theorem md_S_cameBehind_3 : decode mc_S_cameBehind 3 = .ok (.istore_n 3, 1) := by decide +kernel
theorem md_S_cameBehind_4 : decode mc_S_cameBehind 4 = .ok (.iload_n 3, 1) := by decide +kernel
theorem md_S_cameBehind_5 : decode mc_S_cameBehind 5 = .ok (.bipush 24, 2) := by decide +kernel
theorem md_S_cameBehind_7 : decode mc_S_cameBehind 7 = .ok (.if_icmp .gt 35, 3) := by decide +kernel
theorem md_S_cameBehind_10 : decode mc_S_cameBehind 10 = .ok (.aload_n 0, 1) := by decide +kernel
theorem md_S_cameBehind_11 : decode mc_S_cameBehind 11 = .ok (.iload_n 3, 1) := by decide +kernel
theorem md_S_cameBehind_12 : decode mc_S_cameBehind 12 = .ok (.invokevirtual 36, 3) := by decide +kernel
theorem md_S_cameBehind_15 : decode mc_S_cameBehind 15 = .ok (.astore 4, 2) := by decide +kernel
theorem md_S_cameBehind_17 : decode mc_S_cameBehind 17 = .ok (.aload 4, 2) := by decide +kernel
theorem md_S_cameBehind_19 : decode mc_S_cameBehind 19 = .ok (.invokestatic 25, 3) := by decide +kernel
theorem md_S_cameBehind_22 : decode mc_S_cameBehind 22 = .ok (.ifCond .eq 14, 3) := by decide +kernel
theorem md_S_cameBehind_25 : decode mc_S_cameBehind 25 = .ok (.aload 4, 2) := by decide +kernel
theorem md_S_cameBehind_27 : decode mc_S_cameBehind 27 = .ok (.getfield 40, 3) := by decide +kernel
theorem md_S_cameBehind_30 : decode mc_S_cameBehind 30 = .ok (.iload_n 2, 1) := by decide +kernel
theorem md_S_cameBehind_31 : decode mc_S_cameBehind 31 = .ok (.if_icmp .ge 5, 3) := by decide +kernel
theorem md_S_cameBehind_34 : decode mc_S_cameBehind 34 = .ok (.iconst 1, 1) := by decide +kernel
theorem md_S_cameBehind_35 : decode mc_S_cameBehind 35 = .ok (.ireturn, 1) := by decide +kernel
theorem md_S_cameBehind_36 : decode mc_S_cameBehind 36 = .ok (.iinc 3 1, 3) := by decide +kernel
theorem md_S_cameBehind_39 : decode mc_S_cameBehind 39 = .ok (.goto (-35), 3) := by decide +kernel
theorem md_S_cameBehind_42 : decode mc_S_cameBehind 42 = .ok (.iconst 0, 1) := by decide +kernel
theorem md_S_cameBehind_43 : decode mc_S_cameBehind 43 = .ok (.ireturn, 1) := by decide +kernel
theorem md_S_withStatus_0 : decode mc_S_withStatus 0 = .ok (.iconst 0, 1) := by decide +kernel
theorem md_S_withStatus_1 : decode mc_S_withStatus 1 = .ok (.istore_n 2, 1) := by decide +kernel
theorem md_S_withStatus_2 : decode mc_S_withStatus 2 = .ok (.iconst 1, 1) := by decide +kernel
theorem md_S_withStatus_3 : decode mc_S_withStatus 3 = .ok (.istore_n 3, 1) := by decide +kernel
theorem md_S_withStatus_4 : decode mc_S_withStatus 4 = .ok (.iload_n 3, 1) := by decide +kernel
theorem md_S_withStatus_5 : decode mc_S_withStatus 5 = .ok (.bipush 24, 2) := by decide +kernel
theorem md_S_withStatus_7 : decode mc_S_withStatus 7 = .ok (.if_icmp .gt 33, 3) := by decide +kernel
theorem md_S_withStatus_10 : decode mc_S_withStatus 10 = .ok (.aload_n 0, 1) := by decide +kernel
theorem md_S_withStatus_11 : decode mc_S_withStatus 11 = .ok (.iload_n 3, 1) := by decide +kernel
theorem md_S_withStatus_12 : decode mc_S_withStatus 12 = .ok (.invokevirtual 36, 3) := by decide +kernel
theorem md_S_withStatus_15 : decode mc_S_withStatus 15 = .ok (.astore 4, 2) := by decide +kernel
theorem md_S_withStatus_17 : decode mc_S_withStatus 17 = .ok (.aload 4, 2) := by decide +kernel
theorem md_S_withStatus_19 : decode mc_S_withStatus 19 = .ok (.ifnull 15, 3) := by decide +kernel
theorem md_S_withStatus_22 : decode mc_S_withStatus 22 = .ok (.aload 4, 2) := by decide +kernel
theorem md_S_withStatus_24 : decode mc_S_withStatus 24 = .ok (.getfield 29, 3) := by decide +kernel
theorem md_S_withStatus_27 : decode mc_S_withStatus 27 = .ok (.iload_n 1, 1) := by decide +kernel
theorem md_S_withStatus_28 : decode mc_S_withStatus 28 = .ok (.if_icmp .ne 6, 3) := by decide +kernel
theorem md_S_withStatus_31 : decode mc_S_withStatus 31 = .ok (.iinc 2 1, 3) := by decide +kernel
theorem md_S_withStatus_34 : decode mc_S_withStatus 34 = .ok (.iinc 3 1, 3) := by decide +kernel
theorem md_S_withStatus_37 : decode mc_S_withStatus 37 = .ok (.goto (-33), 3) := by decide +kernel
theorem md_S_withStatus_40 : decode mc_S_withStatus 40 = .ok (.iload_n 2, 1) := by decide +kernel
theorem md_S_withStatus_41 : decode mc_S_withStatus 41 = .ok (.ireturn, 1) := by decide +kernel
theorem md_S_loseHeld_0 : decode mc_S_loseHeld 0 = .ok (.iconst 0, 1) := by decide +kernel
theorem md_S_loseHeld_1 : decode mc_S_loseHeld 1 = .ok (.istore_n 1, 1) := by decide +kernel
theorem md_S_loseHeld_2 : decode mc_S_loseHeld 2 = .ok (.iconst 1, 1) := by decide +kernel
theorem md_S_loseHeld_3 : decode mc_S_loseHeld 3 = .ok (.istore_n 2, 1) := by decide +kernel
theorem md_S_loseHeld_4 : decode mc_S_loseHeld 4 = .ok (.iload_n 2, 1) := by decide +kernel
theorem md_S_loseHeld_5 : decode mc_S_loseHeld 5 = .ok (.bipush 24, 2) := by decide +kernel
theorem md_S_loseHeld_7 : decode mc_S_loseHeld 7 = .ok (.if_icmp .gt 35, 3) := by decide +kernel
theorem md_S_loseHeld_10 : decode mc_S_loseHeld 10 = .ok (.aload_n 0, 1) := by decide +kernel
theorem md_S_loseHeld_11 : decode mc_S_loseHeld 11 = .ok (.iload_n 2, 1) := by decide +kernel
theorem md_S_loseHeld_12 : decode mc_S_loseHeld 12 = .ok (.invokevirtual 36, 3) := by decide +kernel
theorem md_S_loseHeld_15 : decode mc_S_loseHeld 15 = .ok (.astore_n 3, 1) := by decide +kernel
theorem md_S_loseHeld_16 : decode mc_S_loseHeld 16 = .ok (.aload_n 3, 1) := by decide +kernel
theorem md_S_loseHeld_17 : decode mc_S_loseHeld 17 = .ok (.ifnull 19, 3) := by decide +kernel
theorem md_S_loseHeld_20 : decode mc_S_loseHeld 20 = .ok (.aload_n 3, 1) := by decide +kernel
theorem md_S_loseHeld_21 : decode mc_S_loseHeld 21 = .ok (.getfield 29, 3) := by decide +kernel
theorem md_S_loseHeld_24 : decode mc_S_loseHeld 24 = .ok (.ifCond .ne 12, 3) := by decide +kernel
theorem md_S_loseHeld_27 : decode mc_S_loseHeld 27 = .ok (.aload_n 3, 1) := by decide +kernel
theorem md_S_loseHeld_28 : decode mc_S_loseHeld 28 = .ok (.bipush 6, 2) := by decide +kernel
theorem md_S_loseHeld_30 : decode mc_S_loseHeld 30 = .ok (.putfield 29, 3) := by decide +kernel
theorem md_S_loseHeld_33 : decode mc_S_loseHeld 33 = .ok (.iinc 1 1, 3) := by decide +kernel
theorem md_S_loseHeld_36 : decode mc_S_loseHeld 36 = .ok (.iinc 2 1, 3) := by decide +kernel
theorem md_S_loseHeld_39 : decode mc_S_loseHeld 39 = .ok (.goto (-35), 3) := by decide +kernel
theorem md_S_loseHeld_42 : decode mc_S_loseHeld 42 = .ok (.iload_n 1, 1) := by decide +kernel
theorem md_S_loseHeld_43 : decode mc_S_loseHeld 43 = .ok (.ireturn, 1) := by decide +kernel
theorem md_U_init_0 : decode mc_U_init 0 = .ok (.aload_n 0, 1) := by decide +kernel
theorem md_U_init_1 : decode mc_U_init 1 = .ok (.invokespecial 3, 3) := by decide +kernel
theorem md_U_init_4 : decode mc_U_init 4 = .ok (.aload_n 0, 1) := by decide +kernel
theorem md_U_init_5 : decode mc_U_init 5 = .ok (.iconst 0, 1) := by decide +kernel
theorem md_U_init_6 : decode mc_U_init 6 = .ok (.putfield 9, 3) := by decide +kernel
theorem md_U_init_9 : decode mc_U_init 9 = .ok (.aload_n 0, 1) := by decide +kernel
theorem md_U_init_10 : decode mc_U_init 10 = .ok (.iconst 0, 1) := by decide +kernel
theorem md_U_init_11 : decode mc_U_init 11 = .ok (.putfield 15, 3) := by decide +kernel
theorem md_U_init_14 : decode mc_U_init 14 = .ok (.aload_n 0, 1) := by decide +kernel
theorem md_U_init_15 : decode mc_U_init 15 = .ok (.iconst 0, 1) := by decide +kernel
theorem md_U_init_16 : decode mc_U_init 16 = .ok (.putfield 18, 3) := by decide +kernel
theorem md_U_init_19 : decode mc_U_init 19 = .ok (.return_, 1) := by decide +kernel
end
section
theorem md_B_init_0 : decode mc_B_init 0 = .ok (.aload_n 0, 1) := by decide +kernel
theorem md_B_init_1 : decode mc_B_init 1 = .ok (.invokespecial 1, 3) := by decide +kernel
theorem md_B_init_4 : decode mc_B_init 4 = .ok (.aload_n 0, 1) := by decide +kernel
theorem md_B_init_5 : decode mc_B_init 5 = .ok (.bipush 16, 2) := by decide +kernel
theorem md_B_init_7 : decode mc_B_init 7 = .ok (.newarray .int, 2) := by decide +kernel
theorem md_B_init_9 : decode mc_B_init 9 = .ok (.putfield 7, 3) := by decide +kernel
theorem md_B_init_12 : decode mc_B_init 12 = .ok (.aload_n 0, 1) := by decide +kernel
theorem md_B_init_13 : decode mc_B_init 13 = .ok (.bipush 16, 2) := by decide +kernel
theorem md_B_init_15 : decode mc_B_init 15 = .ok (.newarray .int, 2) := by decide +kernel
theorem md_B_init_17 : decode mc_B_init 17 = .ok (.putfield 13, 3) := by decide +kernel
theorem md_B_init_20 : decode mc_B_init 20 = .ok (.aload_n 0, 1) := by decide +kernel
theorem md_B_init_21 : decode mc_B_init 21 = .ok (.bipush 16, 2) := by decide +kernel
theorem md_B_init_23 : decode mc_B_init 23 = .ok (.newarray .int, 2) := by decide +kernel
theorem md_B_init_25 : decode mc_B_init 25 = .ok (.putfield 16, 3) := by decide +kernel
theorem md_B_init_28 : decode mc_B_init 28 = .ok (.aload_n 0, 1) := by decide +kernel
theorem md_B_init_29 : decode mc_B_init 29 = .ok (.bipush 96, 2) := by decide +kernel
theorem md_B_init_31 : decode mc_B_init 31 = .ok (.newarray .boolean, 2) := by decide +kernel
theorem md_B_init_33 : decode mc_B_init 33 = .ok (.putfield 19, 3) := by decide +kernel
theorem md_B_init_36 : decode mc_B_init 36 = .ok (.aload_n 0, 1) := by decide +kernel
theorem md_B_init_37 : decode mc_B_init 37 = .ok (.bipush 96, 2) := by decide +kernel
theorem md_B_init_39 : decode mc_B_init 39 = .ok (.newarray .boolean, 2) := by decide +kernel
theorem md_B_init_41 : decode mc_B_init 41 = .ok (.putfield 23, 3) := by decide +kernel
theorem md_B_init_44 : decode mc_B_init 44 = .ok (.aload_n 0, 1) := by decide +kernel
theorem md_B_init_45 : decode mc_B_init 45 = .ok (.bipush 96, 2) := by decide +kernel
theorem md_B_init_47 : decode mc_B_init 47 = .ok (.newarray .int, 2) := by decide +kernel
theorem md_B_init_49 : decode mc_B_init 49 = .ok (.putfield 26, 3) := by decide +kernel
theorem md_B_init_52 : decode mc_B_init 52 = .ok (.aload_n 0, 1) := by decide +kernel
theorem md_B_init_53 : decode mc_B_init 53 = .ok (.bipush 96, 2) := by decide +kernel
theorem md_B_init_55 : decode mc_B_init 55 = .ok (.newarray .int, 2) := by decide +kernel
theorem md_B_init_57 : decode mc_B_init 57 = .ok (.putfield 29, 3) := by decide +kernel
theorem md_B_init_60 : decode mc_B_init 60 = .ok (.aload_n 0, 1) := by decide +kernel
theorem md_B_init_61 : decode mc_B_init 61 = .ok (.bipush 96, 2) := by decide +kernel
theorem md_B_init_63 : decode mc_B_init 63 = .ok (.newarray .int, 2) := by decide +kernel
theorem md_B_init_65 : decode mc_B_init 65 = .ok (.putfield 32, 3) := by decide +kernel
theorem md_B_init_68 : decode mc_B_init 68 = .ok (.aload_n 0, 1) := by decide +kernel
theorem md_B_init_69 : decode mc_B_init 69 = .ok (.bipush 96, 2) := by decide +kernel
theorem md_B_init_71 : decode mc_B_init 71 = .ok (.newarray .int, 2) := by decide +kernel
theorem md_B_init_73 : decode mc_B_init 73 = .ok (.putfield 35, 3) := by decide +kernel
theorem md_B_init_76 : decode mc_B_init 76 = .ok (.aload_n 0, 1) := by decide +kernel
theorem md_B_init_77 : decode mc_B_init 77 = .ok (.bipush 96, 2) := by decide +kernel
theorem md_B_init_79 : decode mc_B_init 79 = .ok (.newarray .int, 2) := by decide +kernel
theorem md_B_init_81 : decode mc_B_init 81 = .ok (.putfield 38, 3) := by decide +kernel
theorem md_B_init_84 : decode mc_B_init 84 = .ok (.aload_n 0, 1) := by decide +kernel
theorem md_B_init_85 : decode mc_B_init 85 = .ok (.bipush 96, 2) := by decide +kernel
theorem md_B_init_87 : decode mc_B_init 87 = .ok (.newarray .int, 2) := by decide +kernel
theorem md_B_init_89 : decode mc_B_init 89 = .ok (.putfield 41, 3) := by decide +kernel
theorem md_B_init_92 : decode mc_B_init 92 = .ok (.aload_n 0, 1) := by decide +kernel
theorem md_B_init_93 : decode mc_B_init 93 = .ok (.bipush 96, 2) := by decide +kernel
theorem md_B_init_95 : decode mc_B_init 95 = .ok (.newarray .int, 2) := by decide +kernel
theorem md_B_init_97 : decode mc_B_init 97 = .ok (.putfield 44, 3) := by decide +kernel
theorem md_B_init_100 : decode mc_B_init 100 = .ok (.aload_n 0, 1) := by decide +kernel
theorem md_B_init_101 : decode mc_B_init 101 = .ok (.bipush 96, 2) := by decide +kernel
theorem md_B_init_103 : decode mc_B_init 103 = .ok (.newarray .boolean, 2) := by decide +kernel
theorem md_B_init_105 : decode mc_B_init 105 = .ok (.putfield 47, 3) := by decide +kernel
theorem md_B_init_108 : decode mc_B_init 108 = .ok (.aload_n 0, 1) := by decide +kernel
theorem md_B_init_109 : decode mc_B_init 109 = .ok (.bipush 96, 2) := by decide +kernel
theorem md_B_init_111 : decode mc_B_init 111 = .ok (.newarray .int, 2) := by decide +kernel
theorem md_B_init_113 : decode mc_B_init 113 = .ok (.putfield 50, 3) := by decide +kernel
theorem md_B_init_116 : decode mc_B_init 116 = .ok (.aload_n 0, 1) := by decide +kernel
theorem md_B_init_117 : decode mc_B_init 117 = .ok (.iconst 5, 1) := by decide +kernel
theorem md_B_init_118 : decode mc_B_init 118 = .ok (.newarray .boolean, 2) := by decide +kernel
theorem md_B_init_120 : decode mc_B_init 120 = .ok (.putfield 53, 3) := by decide +kernel
theorem md_B_init_123 : decode mc_B_init 123 = .ok (.aload_n 0, 1) := by decide +kernel
theorem md_B_init_124 : decode mc_B_init 124 = .ok (.bipush 96, 2) := by decide +kernel
theorem md_B_init_126 : decode mc_B_init 126 = .ok (.newarray .int, 2) := by decide +kernel
theorem md_B_init_128 : decode mc_B_init 128 = .ok (.putfield 56, 3) := by decide +kernel
theorem md_B_init_131 : decode mc_B_init 131 = .ok (.aload_n 0, 1) := by decide +kernel
theorem md_B_init_132 : decode mc_B_init 132 = .ok (.bipush 96, 2) := by decide +kernel
theorem md_B_init_134 : decode mc_B_init 134 = .ok (.newarray .int, 2) := by decide +kernel
theorem md_B_init_136 : decode mc_B_init 136 = .ok (.putfield 59, 3) := by decide +kernel
theorem md_B_init_139 : decode mc_B_init 139 = .ok (.return_, 1) := by decide +kernel
theorem md_B_thrown_0 : decode mc_B_thrown 0 = .ok (.aload_n 0, 1) := by decide +kernel
theorem md_B_thrown_1 : decode mc_B_thrown 1 = .ok (.getfield 62, 3) := by decide +kernel
theorem md_B_thrown_4 : decode mc_B_thrown 4 = .ok (.ireturn, 1) := by decide +kernel
theorem md_B_refuse_0 : decode mc_B_refuse 0 = .ok (.aload_n 0, 1) := by decide +kernel
theorem md_B_refuse_1 : decode mc_B_refuse 1 = .ok (.iload_n 1, 1) := by decide +kernel
theorem md_B_refuse_2 : decode mc_B_refuse 2 = .ok (.putfield 62, 3) := by decide +kernel
theorem md_B_refuse_5 : decode mc_B_refuse 5 = .ok (.iconst 0, 1) := by decide +kernel
theorem md_B_refuse_6 : decode mc_B_refuse 6 = .ok (.ireturn, 1) := by decide +kernel
theorem md_B_in_0 : decode mc_B_in 0 = .ok (.iload_n 0, 1) := by decide +kernel
theorem md_B_in_1 : decode mc_B_in 1 = .ok (.iload_n 1, 1) := by decide +kernel
theorem md_B_in_2 : decode mc_B_in 2 = .ok (.if_icmp .lt 12, 3) := by decide +kernel
theorem md_B_in_5 : decode mc_B_in 5 = .ok (.iload_n 0, 1) := by decide +kernel
theorem md_B_in_6 : decode mc_B_in 6 = .ok (.iload_n 2, 1) := by decide +kernel
theorem md_B_in_7 : decode mc_B_in 7 = .ok (.if_icmp .gt 7, 3) := by decide +kernel
theorem md_B_in_10 : decode mc_B_in 10 = .ok (.iconst 1, 1) := by decide +kernel
theorem md_B_in_11 : decode mc_B_in 11 = .ok (.goto 4, 3) := by decide +kernel
theorem md_B_in_14 : decode mc_B_in 14 = .ok (.iconst 0, 1) := by decide +kernel
theorem md_B_in_15 : decode mc_B_in 15 = .ok (.ireturn, 1) := by decide +kernel
theorem md_B_isSender_0 : decode mc_B_isSender 0 = .ok (.iload_n 0, 1) := by decide +kernel
theorem md_B_isSender_1 : decode mc_B_isSender 1 = .ok (.ifCond .lt 12, 3) := by decide +kernel
theorem md_B_isSender_4 : decode mc_B_isSender 4 = .ok (.iload_n 0, 1) := by decide +kernel
theorem md_B_isSender_5 : decode mc_B_isSender 5 = .ok (.iconst 4, 1) := by decide +kernel
theorem md_B_isSender_6 : decode mc_B_isSender 6 = .ok (.if_icmp .ge 7, 3) := by decide +kernel
theorem md_B_isSender_9 : decode mc_B_isSender 9 = .ok (.iconst 1, 1) := by decide +kernel
theorem md_B_isSender_10 : decode mc_B_isSender 10 = .ok (.goto 4, 3) := by decide +kernel
theorem md_B_isSender_13 : decode mc_B_isSender 13 = .ok (.iconst 0, 1) := by decide +kernel
theorem md_B_isSender_14 : decode mc_B_isSender 14 = .ok (.ireturn, 1) := by decide +kernel
theorem md_B_isNumber_0 : decode mc_B_isNumber 0 = .ok (.iload_n 0, 1) := by decide +kernel
theorem md_B_isNumber_1 : decode mc_B_isNumber 1 = .ok (.iconst 1, 1) := by decide +kernel
theorem md_B_isNumber_2 : decode mc_B_isNumber 2 = .ok (.if_icmp .lt 13, 3) := by decide +kernel
theorem md_B_isNumber_5 : decode mc_B_isNumber 5 = .ok (.iload_n 0, 1) := by decide +kernel
theorem md_B_isNumber_6 : decode mc_B_isNumber 6 = .ok (.bipush 24, 2) := by decide +kernel
theorem md_B_isNumber_8 : decode mc_B_isNumber 8 = .ok (.if_icmp .gt 7, 3) := by decide +kernel
theorem md_B_isNumber_11 : decode mc_B_isNumber 11 = .ok (.iconst 1, 1) := by decide +kernel
theorem md_B_isNumber_12 : decode mc_B_isNumber 12 = .ok (.goto 4, 3) := by decide +kernel
theorem md_B_isNumber_15 : decode mc_B_isNumber 15 = .ok (.iconst 0, 1) := by decide +kernel
theorem md_B_isNumber_16 : decode mc_B_isNumber 16 = .ok (.ireturn, 1) := by decide +kernel
theorem md_B_isHere_0 : decode mc_B_isHere 0 = .ok (.aload_n 0, 1) := by decide +kernel
theorem md_B_isHere_1 : decode mc_B_isHere 1 = .ok (.getfield 19, 3) := by decide +kernel
theorem md_B_isHere_4 : decode mc_B_isHere 4 = .ok (.iload_n 1, 1) := by decide +kernel
theorem md_B_isHere_5 : decode mc_B_isHere 5 = .ok (.baload, 1) := by decide +kernel
theorem md_B_isHere_6 : decode mc_B_isHere 6 = .ok (.ifCond .eq 18, 3) := by decide +kernel
theorem md_B_isHere_9 : decode mc_B_isHere 9 = .ok (.aload_n 0, 1) := by decide +kernel
theorem md_B_isHere_10 : decode mc_B_isHere 10 = .ok (.getfield 35, 3) := by decide +kernel
theorem md_B_isHere_13 : decode mc_B_isHere 13 = .ok (.iload_n 1, 1) := by decide +kernel
theorem md_B_isHere_14 : decode mc_B_isHere 14 = .ok (.iaload, 1) := by decide +kernel
theorem md_B_isHere_15 : decode mc_B_isHere 15 = .ok (.bipush 6, 2) := by decide +kernel
theorem md_B_isHere_17 : decode mc_B_isHere 17 = .ok (.if_icmp .eq 7, 3) := by decide +kernel
theorem md_B_isHere_20 : decode mc_B_isHere 20 = .ok (.iconst 1, 1) := by decide +kernel
theorem md_B_isHere_21 : decode mc_B_isHere 21 = .ok (.goto 4, 3) := by decide +kernel
theorem md_B_isHere_24 : decode mc_B_isHere 24 = .ok (.iconst 0, 1) := by decide +kernel
theorem md_B_isHere_25 : decode mc_B_isHere 25 = .ok (.ireturn, 1) := by decide +kernel
theorem md_B_gap_0 : decode mc_B_gap 0 = .ok (.iconst 1, 1) := by decide +kernel
theorem md_B_gap_1 : decode mc_B_gap 1 = .ok (.istore_n 2, 1) := by decide +kernel
theorem md_B_gap_2 : decode mc_B_gap 2 = .ok (.iload_n 2, 1) := by decide +kernel
theorem md_B_gap_3 : decode mc_B_gap 3 = .ok (.bipush 24, 2) := by decide +kernel
theorem md_B_gap_5 : decode mc_B_gap 5 = .ok (.if_icmp .gt 40, 3) := by decide +kernel
theorem md_B_gap_8 : decode mc_B_gap 8 = .ok (.aload_n 0, 1) := by decide +kernel
theorem md_B_gap_9 : decode mc_B_gap 9 = .ok (.bipush 24, 2) := by decide +kernel
theorem md_B_gap_11 : decode mc_B_gap 11 = .ok (.iload_n 1, 1) := by decide +kernel
theorem md_B_gap_12 : decode mc_B_gap 12 = .ok (.imul, 1) := by decide +kernel
theorem md_B_gap_13 : decode mc_B_gap 13 = .ok (.iload_n 2, 1) := by decide +kernel
theorem md_B_gap_14 : decode mc_B_gap 14 = .ok (.iadd, 1) := by decide +kernel
theorem md_B_gap_15 : decode mc_B_gap 15 = .ok (.iconst 1, 1) := by decide +kernel
theorem md_B_gap_16 : decode mc_B_gap 16 = .ok (.isub, 1) := by decide +kernel
theorem md_B_gap_17 : decode mc_B_gap 17 = .ok (.invokevirtual 66, 3) := by decide +kernel
theorem md_B_gap_20 : decode mc_B_gap 20 = .ok (.ifCond .ne 19, 3) := by decide +kernel
theorem md_B_gap_23 : decode mc_B_gap 23 = .ok (.aload_n 0, 1) := by decide +kernel
theorem md_B_gap_24 : decode mc_B_gap 24 = .ok (.getfield 23, 3) := by decide +kernel
theorem md_B_gap_27 : decode mc_B_gap 27 = .ok (.bipush 24, 2) := by decide +kernel
theorem md_B_gap_29 : decode mc_B_gap 29 = .ok (.iload_n 1, 1) := by decide +kernel
theorem md_B_gap_30 : decode mc_B_gap 30 = .ok (.imul, 1) := by decide +kernel
theorem md_B_gap_31 : decode mc_B_gap 31 = .ok (.iload_n 2, 1) := by decide +kernel
theorem md_B_gap_32 : decode mc_B_gap 32 = .ok (.iadd, 1) := by decide +kernel
theorem md_B_gap_33 : decode mc_B_gap 33 = .ok (.iconst 1, 1) := by decide +kernel
theorem md_B_gap_34 : decode mc_B_gap 34 = .ok (.isub, 1) := by decide +kernel
theorem md_B_gap_35 : decode mc_B_gap 35 = .ok (.baload, 1) := by decide +kernel
theorem md_B_gap_36 : decode mc_B_gap 36 = .ok (.ifCond .eq 9, 3) := by decide +kernel
theorem md_B_gap_39 : decode mc_B_gap 39 = .ok (.iinc 2 1, 3) := by decide +kernel
theorem md_B_gap_42 : decode mc_B_gap 42 = .ok (.goto (-40), 3) := by decide +kernel
theorem md_B_gap_45 : decode mc_B_gap 45 = .ok (.iload_n 2, 1) := by decide +kernel
theorem md_B_gap_46 : decode mc_B_gap 46 = .ok (.ireturn, 1) := by decide +kernel
theorem md_B_many_0 : decode mc_B_many 0 = .ok (.iconst 0, 1) := by decide +kernel
theorem md_B_many_1 : decode mc_B_many 1 = .ok (.istore_n 2, 1) := by decide +kernel
theorem md_B_many_2 : decode mc_B_many 2 = .ok (.iconst 0, 1) := by decide +kernel
theorem md_B_many_3 : decode mc_B_many 3 = .ok (.istore_n 3, 1) := by decide +kernel
theorem md_B_many_4 : decode mc_B_many 4 = .ok (.iload_n 3, 1) := by decide +kernel
theorem md_B_many_5 : decode mc_B_many 5 = .ok (.bipush 96, 2) := by decide +kernel
theorem md_B_many_7 : decode mc_B_many 7 = .ok (.if_icmp .ge 36, 3) := by decide +kernel
theorem md_B_many_10 : decode mc_B_many 10 = .ok (.iload_n 2, 1) := by decide +kernel
theorem md_B_many_11 : decode mc_B_many 11 = .ok (.aload_n 0, 1) := by decide +kernel
theorem md_B_many_12 : decode mc_B_many 12 = .ok (.getfield 19, 3) := by decide +kernel
theorem md_B_many_15 : decode mc_B_many 15 = .ok (.iload_n 3, 1) := by decide +kernel
theorem md_B_many_16 : decode mc_B_many 16 = .ok (.baload, 1) := by decide +kernel
theorem md_B_many_17 : decode mc_B_many 17 = .ok (.ifCond .eq 17, 3) := by decide +kernel
theorem md_B_many_20 : decode mc_B_many 20 = .ok (.aload_n 0, 1) := by decide +kernel
theorem md_B_many_21 : decode mc_B_many 21 = .ok (.getfield 35, 3) := by decide +kernel
theorem md_B_many_24 : decode mc_B_many 24 = .ok (.iload_n 3, 1) := by decide +kernel
theorem md_B_many_25 : decode mc_B_many 25 = .ok (.iaload, 1) := by decide +kernel
theorem md_B_many_26 : decode mc_B_many 26 = .ok (.iload_n 1, 1) := by decide +kernel
theorem md_B_many_27 : decode mc_B_many 27 = .ok (.if_icmp .ne 7, 3) := by decide +kernel
theorem md_B_many_30 : decode mc_B_many 30 = .ok (.iconst 1, 1) := by decide +kernel
theorem md_B_many_31 : decode mc_B_many 31 = .ok (.goto 4, 3) := by decide +kernel
theorem md_B_many_34 : decode mc_B_many 34 = .ok (.iconst 0, 1) := by decide +kernel
theorem md_B_many_35 : decode mc_B_many 35 = .ok (.iadd, 1) := by decide +kernel
theorem md_B_many_36 : decode mc_B_many 36 = .ok (.istore_n 2, 1) := by decide +kernel
theorem md_B_many_37 : decode mc_B_many 37 = .ok (.iinc 3 1, 3) := by decide +kernel
theorem md_B_many_40 : decode mc_B_many 40 = .ok (.goto (-36), 3) := by decide +kernel
theorem md_B_many_43 : decode mc_B_many 43 = .ok (.iload_n 2, 1) := by decide +kernel
theorem md_B_many_44 : decode mc_B_many 44 = .ok (.ireturn, 1) := by decide +kernel
theorem md_B_refused_0 : decode mc_B_refused 0 = .ok (.aload_n 0, 1) := by decide +kernel
theorem md_B_refused_1 : decode mc_B_refused 1 = .ok (.getfield 35, 3) := by decide +kernel
theorem md_B_refused_4 : decode mc_B_refused 4 = .ok (.iload_n 1, 1) := by decide +kernel
theorem md_B_refused_5 : decode mc_B_refused 5 = .ok (.iconst 2, 1) := by decide +kernel
theorem md_B_refused_6 : decode mc_B_refused 6 = .ok (.iastore, 1) := by decide +kernel
theorem md_B_refused_7 : decode mc_B_refused 7 = .ok (.aload_n 0, 1) := by decide +kernel
theorem md_B_refused_8 : decode mc_B_refused 8 = .ok (.getfield 38, 3) := by decide +kernel
theorem md_B_refused_11 : decode mc_B_refused 11 = .ok (.iload_n 1, 1) := by decide +kernel
theorem md_B_refused_12 : decode mc_B_refused 12 = .ok (.iload_n 2, 1) := by decide +kernel
theorem md_B_refused_13 : decode mc_B_refused 13 = .ok (.ineg, 1) := by decide +kernel
theorem md_B_refused_14 : decode mc_B_refused 14 = .ok (.iastore, 1) := by decide +kernel
theorem md_B_refused_15 : decode mc_B_refused 15 = .ok (.iload_n 2, 1) := by decide +kernel
theorem md_B_refused_16 : decode mc_B_refused 16 = .ok (.ineg, 1) := by decide +kernel
theorem md_B_refused_17 : decode mc_B_refused 17 = .ok (.ireturn, 1) := by decide +kernel
theorem md_B_rule_0 : decode mc_B_rule 0 = .ok (.aload_n 0, 1) := by decide +kernel
theorem md_B_rule_1 : decode mc_B_rule 1 = .ok (.getfield 7, 3) := by decide +kernel
theorem md_B_rule_4 : decode mc_B_rule 4 = .ok (.aload_n 0, 1) := by decide +kernel
theorem md_B_rule_5 : decode mc_B_rule 5 = .ok (.getfield 29, 3) := by decide +kernel
theorem md_B_rule_8 : decode mc_B_rule 8 = .ok (.iload_n 1, 1) := by decide +kernel
theorem md_B_rule_9 : decode mc_B_rule 9 = .ok (.iaload, 1) := by decide +kernel
theorem md_B_rule_10 : decode mc_B_rule 10 = .ok (.iaload, 1) := by decide +kernel
theorem md_B_rule_11 : decode mc_B_rule 11 = .ok (.istore_n 2, 1) := by decide +kernel
theorem md_B_rule_12 : decode mc_B_rule 12 = .ok (.aload_n 0, 1) := by decide +kernel
theorem md_B_rule_13 : decode mc_B_rule 13 = .ok (.getfield 26, 3) := by decide +kernel
theorem md_B_rule_16 : decode mc_B_rule 16 = .ok (.iload_n 1, 1) := by decide +kernel
theorem md_B_rule_17 : decode mc_B_rule 17 = .ok (.iaload, 1) := by decide +kernel
theorem md_B_rule_18 : decode mc_B_rule 18 = .ok (.istore_n 3, 1) := by decide +kernel
theorem md_B_rule_19 : decode mc_B_rule 19 = .ok (.iload_n 3, 1) := by decide +kernel
theorem md_B_rule_20 : decode mc_B_rule 20 = .ok (.ifCond .eq 8, 3) := by decide +kernel
theorem md_B_rule_23 : decode mc_B_rule 23 = .ok (.iload_n 3, 1) := by decide +kernel
theorem md_B_rule_24 : decode mc_B_rule 24 = .ok (.iconst 3, 1) := by decide +kernel
theorem md_B_rule_25 : decode mc_B_rule 25 = .ok (.if_icmp .ne 23, 3) := by decide +kernel
theorem md_B_rule_28 : decode mc_B_rule 28 = .ok (.iload_n 3, 1) := by decide +kernel
theorem md_B_rule_29 : decode mc_B_rule 29 = .ok (.ifCond .ne 17, 3) := by decide +kernel
theorem md_B_rule_32 : decode mc_B_rule 32 = .ok (.iload_n 2, 1) := by decide +kernel
theorem md_B_rule_33 : decode mc_B_rule 33 = .ok (.iconst 1, 1) := by decide +kernel
theorem md_B_rule_34 : decode mc_B_rule 34 = .ok (.if_icmp .eq 8, 3) := by decide +kernel
theorem md_B_rule_37 : decode mc_B_rule 37 = .ok (.iload_n 2, 1) := by decide +kernel
theorem md_B_rule_38 : decode mc_B_rule 38 = .ok (.iconst 2, 1) := by decide +kernel
theorem md_B_rule_39 : decode mc_B_rule 39 = .ok (.if_icmp .ne 7, 3) := by decide +kernel
theorem md_B_rule_42 : decode mc_B_rule 42 = .ok (.iconst 1, 1) := by decide +kernel
theorem md_B_rule_43 : decode mc_B_rule 43 = .ok (.goto 4, 3) := by decide +kernel
theorem md_B_rule_46 : decode mc_B_rule 46 = .ok (.iconst 0, 1) := by decide +kernel
theorem md_B_rule_47 : decode mc_B_rule 47 = .ok (.ireturn, 1) := by decide +kernel
theorem md_B_rule_48 : decode mc_B_rule 48 = .ok (.iload_n 2, 1) := by decide +kernel
theorem md_B_rule_49 : decode mc_B_rule 49 = .ok (.iconst 1, 1) := by decide +kernel
theorem md_B_rule_50 : decode mc_B_rule 50 = .ok (.if_icmp .eq 37, 3) := by decide +kernel
theorem md_B_rule_53 : decode mc_B_rule 53 = .ok (.iload_n 2, 1) := by decide +kernel
theorem md_B_rule_54 : decode mc_B_rule 54 = .ok (.iconst 2, 1) := by decide +kernel
theorem md_B_rule_55 : decode mc_B_rule 55 = .ok (.if_icmp .ne 7, 3) := by decide +kernel
theorem md_B_rule_58 : decode mc_B_rule 58 = .ok (.iconst 2, 1) := by decide +kernel
theorem md_B_rule_59 : decode mc_B_rule 59 = .ok (.goto 27, 3) := by decide +kernel
theorem md_B_rule_62 : decode mc_B_rule 62 = .ok (.iload_n 2, 1) := by decide +kernel
theorem md_B_rule_63 : decode mc_B_rule 63 = .ok (.iconst 3, 1) := by decide +kernel
theorem md_B_rule_64 : decode mc_B_rule 64 = .ok (.if_icmp .ne 7, 3) := by decide +kernel
theorem md_B_rule_67 : decode mc_B_rule 67 = .ok (.iconst 3, 1) := by decide +kernel
theorem md_B_rule_68 : decode mc_B_rule 68 = .ok (.goto 18, 3) := by decide +kernel
theorem md_B_rule_71 : decode mc_B_rule 71 = .ok (.aload_n 0, 1) := by decide +kernel
theorem md_B_rule_72 : decode mc_B_rule 72 = .ok (.iconst 3, 1) := by decide +kernel
theorem md_B_rule_73 : decode mc_B_rule 73 = .ok (.invokevirtual 70, 3) := by decide +kernel
theorem md_B_rule_76 : decode mc_B_rule 76 = .ok (.bipush 12, 2) := by decide +kernel
theorem md_B_rule_78 : decode mc_B_rule 78 = .ok (.if_icmp .ne 7, 3) := by decide +kernel
theorem md_B_rule_81 : decode mc_B_rule 81 = .ok (.iconst 5, 1) := by decide +kernel
theorem md_B_rule_82 : decode mc_B_rule 82 = .ok (.goto 4, 3) := by decide +kernel
theorem md_B_rule_85 : decode mc_B_rule 85 = .ok (.iconst 0, 1) := by decide +kernel
theorem md_B_rule_86 : decode mc_B_rule 86 = .ok (.ireturn, 1) := by decide +kernel
theorem md_B_rule_87 : decode mc_B_rule 87 = .ok (.iload_n 3, 1) := by decide +kernel
theorem md_B_rule_88 : decode mc_B_rule 88 = .ok (.iconst 2, 1) := by decide +kernel
theorem md_B_rule_89 : decode mc_B_rule 89 = .ok (.if_icmp .ne 35, 3) := by decide +kernel
theorem md_B_rule_92 : decode mc_B_rule 92 = .ok (.aload_n 0, 1) := by decide +kernel
theorem md_B_rule_93 : decode mc_B_rule 93 = .ok (.getfield 13, 3) := by decide +kernel
theorem md_B_rule_96 : decode mc_B_rule 96 = .ok (.aload_n 0, 1) := by decide +kernel
theorem md_B_rule_97 : decode mc_B_rule 97 = .ok (.getfield 29, 3) := by decide +kernel
theorem md_B_rule_100 : decode mc_B_rule 100 = .ok (.iload_n 1, 1) := by decide +kernel
theorem md_B_rule_101 : decode mc_B_rule 101 = .ok (.iaload, 1) := by decide +kernel
theorem md_B_rule_102 : decode mc_B_rule 102 = .ok (.iaload, 1) := by decide +kernel
theorem md_B_rule_103 : decode mc_B_rule 103 = .ok (.aload_n 0, 1) := by decide +kernel
theorem md_B_rule_104 : decode mc_B_rule 104 = .ok (.getfield 32, 3) := by decide +kernel
theorem md_B_rule_107 : decode mc_B_rule 107 = .ok (.iload_n 1, 1) := by decide +kernel
theorem md_B_rule_108 : decode mc_B_rule 108 = .ok (.iaload, 1) := by decide +kernel
theorem md_B_rule_109 : decode mc_B_rule 109 = .ok (.iadd, 1) := by decide +kernel
theorem md_B_rule_110 : decode mc_B_rule 110 = .ok (.ldc 74, 2) := by decide +kernel
theorem md_B_rule_112 : decode mc_B_rule 112 = .ok (.ldc 75, 2) := by decide +kernel
theorem md_B_rule_114 : decode mc_B_rule 114 = .ok (.invokestatic 76, 3) := by decide +kernel
theorem md_B_rule_117 : decode mc_B_rule 117 = .ok (.ifCond .ne 7, 3) := by decide +kernel
theorem md_B_rule_120 : decode mc_B_rule 120 = .ok (.iconst 4, 1) := by decide +kernel
theorem md_B_rule_121 : decode mc_B_rule 121 = .ok (.goto 4, 3) := by decide +kernel
theorem md_B_rule_124 : decode mc_B_rule 124 = .ok (.iconst 0, 1) := by decide +kernel
theorem md_B_rule_125 : decode mc_B_rule 125 = .ok (.ireturn, 1) := by decide +kernel
theorem md_B_acts_0 : decode mc_B_acts 0 = .ok (.aload_n 0, 1) := by decide +kernel
theorem md_B_acts_1 : decode mc_B_acts 1 = .ok (.getfield 29, 3) := by decide +kernel
theorem md_B_acts_4 : decode mc_B_acts 4 = .ok (.iload_n 1, 1) := by decide +kernel
theorem md_B_acts_5 : decode mc_B_acts 5 = .ok (.iaload, 1) := by decide +kernel
theorem md_B_acts_6 : decode mc_B_acts 6 = .ok (.istore_n 2, 1) := by decide +kernel
theorem md_B_acts_7 : decode mc_B_acts 7 = .ok (.aload_n 0, 1) := by decide +kernel
theorem md_B_acts_8 : decode mc_B_acts 8 = .ok (.getfield 26, 3) := by decide +kernel
theorem md_B_acts_11 : decode mc_B_acts 11 = .ok (.iload_n 1, 1) := by decide +kernel
theorem md_B_acts_12 : decode mc_B_acts 12 = .ok (.iaload, 1) := by decide +kernel
theorem md_B_acts_13 : decode mc_B_acts 13 = .ok (.istore_n 3, 1) := by decide +kernel
theorem md_B_acts_14 : decode mc_B_acts 14 = .ok (.aload_n 0, 1) := by decide +kernel
theorem md_B_acts_15 : decode mc_B_acts 15 = .ok (.getfield 38, 3) := by decide +kernel
theorem md_B_acts_18 : decode mc_B_acts 18 = .ok (.iload_n 1, 1) := by decide +kernel
theorem md_B_acts_19 : decode mc_B_acts 19 = .ok (.iload_n 3, 1) := by decide +kernel
theorem md_B_acts_20 : decode mc_B_acts 20 = .ok (.iconst 3, 1) := by decide +kernel
theorem md_B_acts_21 : decode mc_B_acts 21 = .ok (.if_icmp .ne 22, 3) := by decide +kernel
theorem md_B_acts_24 : decode mc_B_acts 24 = .ok (.bipush 10, 2) := by decide +kernel
theorem md_B_acts_26 : decode mc_B_acts 26 = .ok (.aload_n 0, 1) := by decide +kernel
theorem md_B_acts_27 : decode mc_B_acts 27 = .ok (.getfield 13, 3) := by decide +kernel
theorem md_B_acts_30 : decode mc_B_acts 30 = .ok (.iload_n 2, 1) := by decide +kernel
theorem md_B_acts_31 : decode mc_B_acts 31 = .ok (.iaload, 1) := by decide +kernel
theorem md_B_acts_32 : decode mc_B_acts 32 = .ok (.imul, 1) := by decide +kernel
theorem md_B_acts_33 : decode mc_B_acts 33 = .ok (.aload_n 0, 1) := by decide +kernel
theorem md_B_acts_34 : decode mc_B_acts 34 = .ok (.getfield 7, 3) := by decide +kernel
theorem md_B_acts_37 : decode mc_B_acts 37 = .ok (.iload_n 2, 1) := by decide +kernel
theorem md_B_acts_38 : decode mc_B_acts 38 = .ok (.iaload, 1) := by decide +kernel
theorem md_B_acts_39 : decode mc_B_acts 39 = .ok (.iadd, 1) := by decide +kernel
theorem md_B_acts_40 : decode mc_B_acts 40 = .ok (.goto 4, 3) := by decide +kernel
theorem md_B_acts_43 : decode mc_B_acts 43 = .ok (.iconst 0, 1) := by decide +kernel
theorem md_B_acts_44 : decode mc_B_acts 44 = .ok (.iastore, 1) := by decide +kernel
theorem md_B_acts_45 : decode mc_B_acts 45 = .ok (.aload_n 0, 1) := by decide +kernel
theorem md_B_acts_46 : decode mc_B_acts 46 = .ok (.getfield 13, 3) := by decide +kernel
theorem md_B_acts_49 : decode mc_B_acts 49 = .ok (.iload_n 2, 1) := by decide +kernel
theorem md_B_acts_50 : decode mc_B_acts 50 = .ok (.iload_n 3, 1) := by decide +kernel
theorem md_B_acts_51 : decode mc_B_acts 51 = .ok (.ifCond .eq 8, 3) := by decide +kernel
theorem md_B_acts_54 : decode mc_B_acts 54 = .ok (.iload_n 3, 1) := by decide +kernel
theorem md_B_acts_55 : decode mc_B_acts 55 = .ok (.iconst 1, 1) := by decide +kernel
theorem md_B_acts_56 : decode mc_B_acts 56 = .ok (.if_icmp .ne 12, 3) := by decide +kernel
theorem md_B_acts_59 : decode mc_B_acts 59 = .ok (.aload_n 0, 1) := by decide +kernel
theorem md_B_acts_60 : decode mc_B_acts 60 = .ok (.getfield 32, 3) := by decide +kernel
theorem md_B_acts_63 : decode mc_B_acts 63 = .ok (.iload_n 1, 1) := by decide +kernel
theorem md_B_acts_64 : decode mc_B_acts 64 = .ok (.iaload, 1) := by decide +kernel
theorem md_B_acts_65 : decode mc_B_acts 65 = .ok (.goto 30, 3) := by decide +kernel
theorem md_B_acts_68 : decode mc_B_acts 68 = .ok (.iload_n 3, 1) := by decide +kernel
theorem md_B_acts_69 : decode mc_B_acts 69 = .ok (.iconst 2, 1) := by decide +kernel
theorem md_B_acts_70 : decode mc_B_acts 70 = .ok (.if_icmp .ne 19, 3) := by decide +kernel
theorem md_B_acts_73 : decode mc_B_acts 73 = .ok (.aload_n 0, 1) := by decide +kernel
theorem md_B_acts_74 : decode mc_B_acts 74 = .ok (.getfield 13, 3) := by decide +kernel
theorem md_B_acts_77 : decode mc_B_acts 77 = .ok (.iload_n 2, 1) := by decide +kernel
theorem md_B_acts_78 : decode mc_B_acts 78 = .ok (.iaload, 1) := by decide +kernel
theorem md_B_acts_79 : decode mc_B_acts 79 = .ok (.aload_n 0, 1) := by decide +kernel
theorem md_B_acts_80 : decode mc_B_acts 80 = .ok (.getfield 32, 3) := by decide +kernel
theorem md_B_acts_83 : decode mc_B_acts 83 = .ok (.iload_n 1, 1) := by decide +kernel
theorem md_B_acts_84 : decode mc_B_acts 84 = .ok (.iaload, 1) := by decide +kernel
theorem md_B_acts_85 : decode mc_B_acts 85 = .ok (.iadd, 1) := by decide +kernel
theorem md_B_acts_86 : decode mc_B_acts 86 = .ok (.goto 9, 3) := by decide +kernel
theorem md_B_acts_89 : decode mc_B_acts 89 = .ok (.aload_n 0, 1) := by decide +kernel
theorem md_B_acts_90 : decode mc_B_acts 90 = .ok (.getfield 13, 3) := by decide +kernel
theorem md_B_acts_93 : decode mc_B_acts 93 = .ok (.iload_n 2, 1) := by decide +kernel
theorem md_B_acts_94 : decode mc_B_acts 94 = .ok (.iaload, 1) := by decide +kernel
theorem md_B_acts_95 : decode mc_B_acts 95 = .ok (.iastore, 1) := by decide +kernel
theorem md_B_acts_96 : decode mc_B_acts 96 = .ok (.aload_n 0, 1) := by decide +kernel
theorem md_B_acts_97 : decode mc_B_acts 97 = .ok (.getfield 7, 3) := by decide +kernel
theorem md_B_acts_100 : decode mc_B_acts 100 = .ok (.iload_n 2, 1) := by decide +kernel
theorem md_B_acts_101 : decode mc_B_acts 101 = .ok (.iload_n 3, 1) := by decide +kernel
theorem md_B_acts_102 : decode mc_B_acts 102 = .ok (.ifCond .ne 7, 3) := by decide +kernel
theorem md_B_acts_105 : decode mc_B_acts 105 = .ok (.iconst 1, 1) := by decide +kernel
theorem md_B_acts_106 : decode mc_B_acts 106 = .ok (.goto 18, 3) := by decide +kernel
theorem md_B_acts_109 : decode mc_B_acts 109 = .ok (.iload_n 3, 1) := by decide +kernel
theorem md_B_acts_110 : decode mc_B_acts 110 = .ok (.iconst 4, 1) := by decide +kernel
theorem md_B_acts_111 : decode mc_B_acts 111 = .ok (.if_icmp .ne 7, 3) := by decide +kernel
theorem md_B_acts_114 : decode mc_B_acts 114 = .ok (.iconst 3, 1) := by decide +kernel
theorem md_B_acts_115 : decode mc_B_acts 115 = .ok (.goto 9, 3) := by decide +kernel
theorem md_B_acts_118 : decode mc_B_acts 118 = .ok (.aload_n 0, 1) := by decide +kernel
theorem md_B_acts_119 : decode mc_B_acts 119 = .ok (.getfield 7, 3) := by decide +kernel
theorem md_B_acts_122 : decode mc_B_acts 122 = .ok (.iload_n 2, 1) := by decide +kernel
theorem md_B_acts_123 : decode mc_B_acts 123 = .ok (.iaload, 1) := by decide +kernel
theorem md_B_acts_124 : decode mc_B_acts 124 = .ok (.iastore, 1) := by decide +kernel
theorem md_B_acts_125 : decode mc_B_acts 125 = .ok (.aload_n 0, 1) := by decide +kernel
theorem md_B_acts_126 : decode mc_B_acts 126 = .ok (.getfield 16, 3) := by decide +kernel
theorem md_B_acts_129 : decode mc_B_acts 129 = .ok (.iload_n 2, 1) := by decide +kernel
theorem md_B_acts_130 : decode mc_B_acts 130 = .ok (.dup2, 1) := by decide +kernel
theorem md_B_acts_131 : decode mc_B_acts 131 = .ok (.iaload, 1) := by decide +kernel
theorem md_B_acts_132 : decode mc_B_acts 132 = .ok (.iconst 1, 1) := by decide +kernel
theorem md_B_acts_133 : decode mc_B_acts 133 = .ok (.iadd, 1) := by decide +kernel
theorem md_B_acts_134 : decode mc_B_acts 134 = .ok (.iastore, 1) := by decide +kernel
theorem md_B_acts_135 : decode mc_B_acts 135 = .ok (.aload_n 0, 1) := by decide +kernel
theorem md_B_acts_136 : decode mc_B_acts 136 = .ok (.getfield 35, 3) := by decide +kernel
theorem md_B_acts_139 : decode mc_B_acts 139 = .ok (.iload_n 1, 1) := by decide +kernel
theorem md_B_acts_140 : decode mc_B_acts 140 = .ok (.iconst 1, 1) := by decide +kernel
theorem md_B_acts_141 : decode mc_B_acts 141 = .ok (.iastore, 1) := by decide +kernel
theorem md_B_acts_142 : decode mc_B_acts 142 = .ok (.aload_n 0, 1) := by decide +kernel
theorem md_B_acts_143 : decode mc_B_acts 143 = .ok (.getfield 56, 3) := by decide +kernel
theorem md_B_acts_146 : decode mc_B_acts 146 = .ok (.aload_n 0, 1) := by decide +kernel
theorem md_B_acts_147 : decode mc_B_acts 147 = .ok (.getfield 80, 3) := by decide +kernel
theorem md_B_acts_150 : decode mc_B_acts 150 = .ok (.iload_n 1, 1) := by decide +kernel
theorem md_B_acts_151 : decode mc_B_acts 151 = .ok (.iastore, 1) := by decide +kernel
theorem md_B_acts_152 : decode mc_B_acts 152 = .ok (.aload_n 0, 1) := by decide +kernel
theorem md_B_acts_153 : decode mc_B_acts 153 = .ok (.dup, 1) := by decide +kernel
theorem md_B_acts_154 : decode mc_B_acts 154 = .ok (.getfield 80, 3) := by decide +kernel
theorem md_B_acts_157 : decode mc_B_acts 157 = .ok (.iconst 1, 1) := by decide +kernel
theorem md_B_acts_158 : decode mc_B_acts 158 = .ok (.iadd, 1) := by decide +kernel
theorem md_B_acts_159 : decode mc_B_acts 159 = .ok (.putfield 80, 3) := by decide +kernel
theorem md_B_acts_162 : decode mc_B_acts 162 = .ok (.return_, 1) := by decide +kernel
theorem md_B_decides_0 : decode mc_B_decides 0 = .ok (.aload_n 0, 1) := by decide +kernel
theorem md_B_decides_1 : decode mc_B_decides 1 = .ok (.iload_n 1, 1) := by decide +kernel
theorem md_B_decides_2 : decode mc_B_decides 2 = .ok (.invokevirtual 83, 3) := by decide +kernel
theorem md_B_decides_5 : decode mc_B_decides 5 = .ok (.istore_n 2, 1) := by decide +kernel
theorem md_B_decides_6 : decode mc_B_decides 6 = .ok (.iload_n 2, 1) := by decide +kernel
theorem md_B_decides_7 : decode mc_B_decides 7 = .ok (.ifCond .le 10, 3) := by decide +kernel
theorem md_B_decides_10 : decode mc_B_decides 10 = .ok (.aload_n 0, 1) := by decide +kernel
theorem md_B_decides_11 : decode mc_B_decides 11 = .ok (.iload_n 1, 1) := by decide +kernel
theorem md_B_decides_12 : decode mc_B_decides 12 = .ok (.iload_n 2, 1) := by decide +kernel
theorem md_B_decides_13 : decode mc_B_decides 13 = .ok (.invokevirtual 86, 3) := by decide +kernel
theorem md_B_decides_16 : decode mc_B_decides 16 = .ok (.ireturn, 1) := by decide +kernel
theorem md_B_decides_17 : decode mc_B_decides 17 = .ok (.aload_n 0, 1) := by decide +kernel
theorem md_B_decides_18 : decode mc_B_decides 18 = .ok (.getfield 26, 3) := by decide +kernel
theorem md_B_decides_21 : decode mc_B_decides 21 = .ok (.iload_n 1, 1) := by decide +kernel
theorem md_B_decides_22 : decode mc_B_decides 22 = .ok (.iaload, 1) := by decide +kernel
theorem md_B_decides_23 : decode mc_B_decides 23 = .ok (.istore_n 3, 1) := by decide +kernel
theorem md_B_decides_24 : decode mc_B_decides 24 = .ok (.iload_n 3, 1) := by decide +kernel
theorem md_B_decides_25 : decode mc_B_decides 25 = .ok (.ifCond .eq 61, 3) := by decide +kernel
theorem md_B_decides_28 : decode mc_B_decides 28 = .ok (.iload_n 3, 1) := by decide +kernel
theorem md_B_decides_29 : decode mc_B_decides 29 = .ok (.iconst 3, 1) := by decide +kernel
theorem md_B_decides_30 : decode mc_B_decides 30 = .ok (.if_icmp .eq 56, 3) := by decide +kernel
theorem md_B_decides_33 : decode mc_B_decides 33 = .ok (.aload_n 0, 1) := by decide +kernel
theorem md_B_decides_34 : decode mc_B_decides 34 = .ok (.getfield 7, 3) := by decide +kernel
theorem md_B_decides_37 : decode mc_B_decides 37 = .ok (.aload_n 0, 1) := by decide +kernel
theorem md_B_decides_38 : decode mc_B_decides 38 = .ok (.getfield 29, 3) := by decide +kernel
theorem md_B_decides_41 : decode mc_B_decides 41 = .ok (.iload_n 1, 1) := by decide +kernel
theorem md_B_decides_42 : decode mc_B_decides 42 = .ok (.iaload, 1) := by decide +kernel
theorem md_B_decides_43 : decode mc_B_decides 43 = .ok (.iaload, 1) := by decide +kernel
theorem md_B_decides_44 : decode mc_B_decides 44 = .ok (.ifCond .ne 42, 3) := by decide +kernel
theorem md_B_decides_47 : decode mc_B_decides 47 = .ok (.aload_n 0, 1) := by decide +kernel
theorem md_B_decides_48 : decode mc_B_decides 48 = .ok (.getfield 35, 3) := by decide +kernel
theorem md_B_decides_51 : decode mc_B_decides 51 = .ok (.iload_n 1, 1) := by decide +kernel
theorem md_B_decides_52 : decode mc_B_decides 52 = .ok (.iconst 3, 1) := by decide +kernel
theorem md_B_decides_53 : decode mc_B_decides 53 = .ok (.iastore, 1) := by decide +kernel
theorem md_B_decides_54 : decode mc_B_decides 54 = .ok (.aload_n 0, 1) := by decide +kernel
theorem md_B_decides_55 : decode mc_B_decides 55 = .ok (.getfield 44, 3) := by decide +kernel
theorem md_B_decides_58 : decode mc_B_decides 58 = .ok (.iload_n 1, 1) := by decide +kernel
theorem md_B_decides_59 : decode mc_B_decides 59 = .ok (.aload_n 0, 1) := by decide +kernel
theorem md_B_decides_60 : decode mc_B_decides 60 = .ok (.getfield 90, 3) := by decide +kernel
theorem md_B_decides_63 : decode mc_B_decides 63 = .ok (.iastore, 1) := by decide +kernel
theorem md_B_decides_64 : decode mc_B_decides 64 = .ok (.aload_n 0, 1) := by decide +kernel
theorem md_B_decides_65 : decode mc_B_decides 65 = .ok (.getfield 50, 3) := by decide +kernel
theorem md_B_decides_68 : decode mc_B_decides 68 = .ok (.iload_n 1, 1) := by decide +kernel
theorem md_B_decides_69 : decode mc_B_decides 69 = .ok (.aload_n 0, 1) := by decide +kernel
theorem md_B_decides_70 : decode mc_B_decides 70 = .ok (.getfield 93, 3) := by decide +kernel
theorem md_B_decides_73 : decode mc_B_decides 73 = .ok (.iastore, 1) := by decide +kernel
theorem md_B_decides_74 : decode mc_B_decides 74 = .ok (.aload_n 0, 1) := by decide +kernel
theorem md_B_decides_75 : decode mc_B_decides 75 = .ok (.dup, 1) := by decide +kernel
theorem md_B_decides_76 : decode mc_B_decides 76 = .ok (.getfield 93, 3) := by decide +kernel
theorem md_B_decides_79 : decode mc_B_decides 79 = .ok (.iconst 1, 1) := by decide +kernel
theorem md_B_decides_80 : decode mc_B_decides 80 = .ok (.iadd, 1) := by decide +kernel
theorem md_B_decides_81 : decode mc_B_decides 81 = .ok (.putfield 93, 3) := by decide +kernel
theorem md_B_decides_84 : decode mc_B_decides 84 = .ok (.iconst 4, 1) := by decide +kernel
theorem md_B_decides_85 : decode mc_B_decides 85 = .ok (.ireturn, 1) := by decide +kernel
theorem md_B_decides_86 : decode mc_B_decides 86 = .ok (.aload_n 0, 1) := by decide +kernel
theorem md_B_decides_87 : decode mc_B_decides 87 = .ok (.getfield 53, 3) := by decide +kernel
theorem md_B_decides_90 : decode mc_B_decides 90 = .ok (.iload_n 3, 1) := by decide +kernel
theorem md_B_decides_91 : decode mc_B_decides 91 = .ok (.baload, 1) := by decide +kernel
theorem md_B_decides_92 : decode mc_B_decides 92 = .ok (.ifCond .eq 88, 3) := by decide +kernel
theorem md_B_decides_95 : decode mc_B_decides 95 = .ok (.aload_n 0, 1) := by decide +kernel
theorem md_B_decides_96 : decode mc_B_decides 96 = .ok (.getfield 53, 3) := by decide +kernel
theorem md_B_decides_99 : decode mc_B_decides 99 = .ok (.iload_n 3, 1) := by decide +kernel
theorem md_B_decides_100 : decode mc_B_decides 100 = .ok (.iconst 0, 1) := by decide +kernel
theorem md_B_decides_101 : decode mc_B_decides 101 = .ok (.bastore, 1) := by decide +kernel
theorem md_B_decides_102 : decode mc_B_decides 102 = .ok (.aload_n 0, 1) := by decide +kernel
theorem md_B_decides_103 : decode mc_B_decides 103 = .ok (.getfield 35, 3) := by decide +kernel
theorem md_B_decides_106 : decode mc_B_decides 106 = .ok (.iload_n 1, 1) := by decide +kernel
theorem md_B_decides_107 : decode mc_B_decides 107 = .ok (.aload_n 0, 1) := by decide +kernel
theorem md_B_decides_108 : decode mc_B_decides 108 = .ok (.getfield 47, 3) := by decide +kernel
theorem md_B_decides_111 : decode mc_B_decides 111 = .ok (.iload_n 1, 1) := by decide +kernel
theorem md_B_decides_112 : decode mc_B_decides 112 = .ok (.baload, 1) := by decide +kernel
theorem md_B_decides_113 : decode mc_B_decides 113 = .ok (.ifCond .eq 7, 3) := by decide +kernel
theorem md_B_decides_116 : decode mc_B_decides 116 = .ok (.iconst 5, 1) := by decide +kernel
theorem md_B_decides_117 : decode mc_B_decides 117 = .ok (.goto 4, 3) := by decide +kernel
theorem md_B_decides_120 : decode mc_B_decides 120 = .ok (.iconst 4, 1) := by decide +kernel
theorem md_B_decides_121 : decode mc_B_decides 121 = .ok (.iastore, 1) := by decide +kernel
theorem md_B_decides_122 : decode mc_B_decides 122 = .ok (.aload_n 0, 1) := by decide +kernel
theorem md_B_decides_123 : decode mc_B_decides 123 = .ok (.getfield 47, 3) := by decide +kernel
theorem md_B_decides_126 : decode mc_B_decides 126 = .ok (.iload_n 1, 1) := by decide +kernel
theorem md_B_decides_127 : decode mc_B_decides 127 = .ok (.baload, 1) := by decide +kernel
theorem md_B_decides_128 : decode mc_B_decides 128 = .ok (.ifCond .eq 23, 3) := by decide +kernel
theorem md_B_decides_131 : decode mc_B_decides 131 = .ok (.aload_n 0, 1) := by decide +kernel
theorem md_B_decides_132 : decode mc_B_decides 132 = .ok (.getfield 59, 3) := by decide +kernel
theorem md_B_decides_135 : decode mc_B_decides 135 = .ok (.aload_n 0, 1) := by decide +kernel
theorem md_B_decides_136 : decode mc_B_decides 136 = .ok (.getfield 96, 3) := by decide +kernel
theorem md_B_decides_139 : decode mc_B_decides 139 = .ok (.iload_n 1, 1) := by decide +kernel
theorem md_B_decides_140 : decode mc_B_decides 140 = .ok (.iastore, 1) := by decide +kernel
theorem md_B_decides_141 : decode mc_B_decides 141 = .ok (.aload_n 0, 1) := by decide +kernel
theorem md_B_decides_142 : decode mc_B_decides 142 = .ok (.dup, 1) := by decide +kernel
theorem md_B_decides_143 : decode mc_B_decides 143 = .ok (.getfield 96, 3) := by decide +kernel
theorem md_B_decides_146 : decode mc_B_decides 146 = .ok (.iconst 1, 1) := by decide +kernel
theorem md_B_decides_147 : decode mc_B_decides 147 = .ok (.iadd, 1) := by decide +kernel
theorem md_B_decides_148 : decode mc_B_decides 148 = .ok (.putfield 96, 3) := by decide +kernel
theorem md_B_decides_151 : decode mc_B_decides 151 = .ok (.aload_n 0, 1) := by decide +kernel
theorem md_B_decides_152 : decode mc_B_decides 152 = .ok (.getfield 47, 3) := by decide +kernel
theorem md_B_decides_155 : decode mc_B_decides 155 = .ok (.iload_n 1, 1) := by decide +kernel
theorem md_B_decides_156 : decode mc_B_decides 156 = .ok (.iconst 1, 1) := by decide +kernel
theorem md_B_decides_157 : decode mc_B_decides 157 = .ok (.bastore, 1) := by decide +kernel
theorem md_B_decides_158 : decode mc_B_decides 158 = .ok (.aload_n 0, 1) := by decide +kernel
theorem md_B_decides_159 : decode mc_B_decides 159 = .ok (.getfield 50, 3) := by decide +kernel
theorem md_B_decides_162 : decode mc_B_decides 162 = .ok (.iload_n 1, 1) := by decide +kernel
theorem md_B_decides_163 : decode mc_B_decides 163 = .ok (.aload_n 0, 1) := by decide +kernel
theorem md_B_decides_164 : decode mc_B_decides 164 = .ok (.getfield 93, 3) := by decide +kernel
theorem md_B_decides_167 : decode mc_B_decides 167 = .ok (.iastore, 1) := by decide +kernel
theorem md_B_decides_168 : decode mc_B_decides 168 = .ok (.aload_n 0, 1) := by decide +kernel
theorem md_B_decides_169 : decode mc_B_decides 169 = .ok (.dup, 1) := by decide +kernel
theorem md_B_decides_170 : decode mc_B_decides 170 = .ok (.getfield 93, 3) := by decide +kernel
theorem md_B_decides_173 : decode mc_B_decides 173 = .ok (.iconst 1, 1) := by decide +kernel
theorem md_B_decides_174 : decode mc_B_decides 174 = .ok (.iadd, 1) := by decide +kernel
theorem md_B_decides_175 : decode mc_B_decides 175 = .ok (.putfield 93, 3) := by decide +kernel
theorem md_B_decides_178 : decode mc_B_decides 178 = .ok (.iconst 5, 1) := by decide +kernel
theorem md_B_decides_179 : decode mc_B_decides 179 = .ok (.ireturn, 1) := by decide +kernel
theorem md_B_decides_180 : decode mc_B_decides 180 = .ok (.aload_n 0, 1) := by decide +kernel
theorem md_B_decides_181 : decode mc_B_decides 181 = .ok (.iload_n 1, 1) := by decide +kernel
theorem md_B_decides_182 : decode mc_B_decides 182 = .ok (.invokevirtual 99, 3) := by decide +kernel
theorem md_B_decides_185 : decode mc_B_decides 185 = .ok (.iconst 1, 1) := by decide +kernel
theorem md_B_decides_186 : decode mc_B_decides 186 = .ok (.ireturn, 1) := by decide +kernel
theorem md_B_first_0 : decode mc_B_first 0 = .ok (.iconst (-1), 1) := by decide +kernel
theorem md_B_first_1 : decode mc_B_first 1 = .ok (.istore 4, 2) := by decide +kernel
theorem md_B_first_3 : decode mc_B_first 3 = .ok (.iconst 0, 1) := by decide +kernel
theorem md_B_first_4 : decode mc_B_first 4 = .ok (.istore 5, 2) := by decide +kernel
theorem md_B_first_6 : decode mc_B_first 6 = .ok (.iload 5, 2) := by decide +kernel
theorem md_B_first_8 : decode mc_B_first 8 = .ok (.bipush 96, 2) := by decide +kernel
theorem md_B_first_10 : decode mc_B_first 10 = .ok (.if_icmp .ge 110, 3) := by decide +kernel
theorem md_B_first_13 : decode mc_B_first 13 = .ok (.aload_n 0, 1) := by decide +kernel
theorem md_B_first_14 : decode mc_B_first 14 = .ok (.getfield 19, 3) := by decide +kernel
theorem md_B_first_17 : decode mc_B_first 17 = .ok (.iload 5, 2) := by decide +kernel
theorem md_B_first_19 : decode mc_B_first 19 = .ok (.baload, 1) := by decide +kernel
theorem md_B_first_20 : decode mc_B_first 20 = .ok (.ifCond .eq 45, 3) := by decide +kernel
theorem md_B_first_23 : decode mc_B_first 23 = .ok (.aload_n 0, 1) := by decide +kernel
theorem md_B_first_24 : decode mc_B_first 24 = .ok (.getfield 35, 3) := by decide +kernel
theorem md_B_first_27 : decode mc_B_first 27 = .ok (.iload 5, 2) := by decide +kernel
theorem md_B_first_29 : decode mc_B_first 29 = .ok (.iaload, 1) := by decide +kernel
theorem md_B_first_30 : decode mc_B_first 30 = .ok (.iload_n 1, 1) := by decide +kernel
theorem md_B_first_31 : decode mc_B_first 31 = .ok (.if_icmp .ne 34, 3) := by decide +kernel
theorem md_B_first_34 : decode mc_B_first 34 = .ok (.iload_n 2, 1) := by decide +kernel
theorem md_B_first_35 : decode mc_B_first 35 = .ok (.iconst (-1), 1) := by decide +kernel
theorem md_B_first_36 : decode mc_B_first 36 = .ok (.if_icmp .eq 14, 3) := by decide +kernel
theorem md_B_first_39 : decode mc_B_first 39 = .ok (.aload_n 0, 1) := by decide +kernel
theorem md_B_first_40 : decode mc_B_first 40 = .ok (.getfield 29, 3) := by decide +kernel
theorem md_B_first_43 : decode mc_B_first 43 = .ok (.iload 5, 2) := by decide +kernel
theorem md_B_first_45 : decode mc_B_first 45 = .ok (.iaload, 1) := by decide +kernel
theorem md_B_first_46 : decode mc_B_first 46 = .ok (.iload_n 2, 1) := by decide +kernel
theorem md_B_first_47 : decode mc_B_first 47 = .ok (.if_icmp .ne 18, 3) := by decide +kernel
theorem md_B_first_50 : decode mc_B_first 50 = .ok (.aload_n 0, 1) := by decide +kernel
theorem md_B_first_51 : decode mc_B_first 51 = .ok (.getfield 50, 3) := by decide +kernel
theorem md_B_first_54 : decode mc_B_first 54 = .ok (.iload 5, 2) := by decide +kernel
theorem md_B_first_56 : decode mc_B_first 56 = .ok (.iaload, 1) := by decide +kernel
theorem md_B_first_57 : decode mc_B_first 57 = .ok (.iload_n 3, 1) := by decide +kernel
theorem md_B_first_58 : decode mc_B_first 58 = .ok (.if_icmp .ge 7, 3) := by decide +kernel
theorem md_B_first_61 : decode mc_B_first 61 = .ok (.iconst 1, 1) := by decide +kernel
theorem md_B_first_62 : decode mc_B_first 62 = .ok (.goto 4, 3) := by decide +kernel
theorem md_B_first_65 : decode mc_B_first 65 = .ok (.iconst 0, 1) := by decide +kernel
theorem md_B_first_66 : decode mc_B_first 66 = .ok (.istore 6, 2) := by decide +kernel
theorem md_B_first_68 : decode mc_B_first 68 = .ok (.iload 6, 2) := by decide +kernel
theorem md_B_first_70 : decode mc_B_first 70 = .ok (.ifCond .eq 40, 3) := by decide +kernel
theorem md_B_first_73 : decode mc_B_first 73 = .ok (.iload 4, 2) := by decide +kernel
theorem md_B_first_75 : decode mc_B_first 75 = .ok (.ifCond .lt 30, 3) := by decide +kernel
theorem md_B_first_78 : decode mc_B_first 78 = .ok (.aload_n 0, 1) := by decide +kernel
theorem md_B_first_79 : decode mc_B_first 79 = .ok (.getfield 50, 3) := by decide +kernel
theorem md_B_first_82 : decode mc_B_first 82 = .ok (.iload 5, 2) := by decide +kernel
theorem md_B_first_84 : decode mc_B_first 84 = .ok (.iaload, 1) := by decide +kernel
theorem md_B_first_85 : decode mc_B_first 85 = .ok (.aload_n 0, 1) := by decide +kernel
theorem md_B_first_86 : decode mc_B_first 86 = .ok (.getfield 50, 3) := by decide +kernel
theorem md_B_first_89 : decode mc_B_first 89 = .ok (.iload 4, 2) := by decide +kernel
theorem md_B_first_91 : decode mc_B_first 91 = .ok (.ifCond .ge 8, 3) := by decide +kernel
theorem md_B_first_94 : decode mc_B_first 94 = .ok (.iload 5, 2) := by decide +kernel
theorem md_B_first_96 : decode mc_B_first 96 = .ok (.goto 5, 3) := by decide +kernel
theorem md_B_first_99 : decode mc_B_first 99 = .ok (.iload 4, 2) := by decide +kernel
theorem md_B_first_101 : decode mc_B_first 101 = .ok (.iaload, 1) := by decide +kernel
theorem md_B_first_102 : decode mc_B_first 102 = .ok (.if_icmp .ge 8, 3) := by decide +kernel
theorem md_B_first_105 : decode mc_B_first 105 = .ok (.iload 5, 2) := by decide +kernel
theorem md_B_first_107 : decode mc_B_first 107 = .ok (.goto 5, 3) := by decide +kernel
theorem md_B_first_110 : decode mc_B_first 110 = .ok (.iload 4, 2) := by decide +kernel
theorem md_B_first_112 : decode mc_B_first 112 = .ok (.istore 4, 2) := by decide +kernel
theorem md_B_first_114 : decode mc_B_first 114 = .ok (.iinc 5 1, 3) := by decide +kernel
theorem md_B_first_117 : decode mc_B_first 117 = .ok (.goto (-111), 3) := by decide +kernel
theorem md_B_first_120 : decode mc_B_first 120 = .ok (.iload 4, 2) := by decide +kernel
theorem md_B_first_122 : decode mc_B_first 122 = .ok (.ireturn, 1) := by decide +kernel
theorem md_B_takes_0 : decode mc_B_takes 0 = .ok (.aload_n 0, 1) := by decide +kernel
theorem md_B_takes_1 : decode mc_B_takes 1 = .ok (.getfield 29, 3) := by decide +kernel
theorem md_B_takes_4 : decode mc_B_takes 4 = .ok (.iload_n 1, 1) := by decide +kernel
theorem md_B_takes_5 : decode mc_B_takes 5 = .ok (.iaload, 1) := by decide +kernel
theorem md_B_takes_6 : decode mc_B_takes 6 = .ok (.istore_n 2, 1) := by decide +kernel
theorem md_B_takes_7 : decode mc_B_takes 7 = .ok (.aload_n 0, 1) := by decide +kernel
theorem md_B_takes_8 : decode mc_B_takes 8 = .ok (.getfield 7, 3) := by decide +kernel
theorem md_B_takes_11 : decode mc_B_takes 11 = .ok (.iload_n 2, 1) := by decide +kernel
theorem md_B_takes_12 : decode mc_B_takes 12 = .ok (.iaload, 1) := by decide +kernel
theorem md_B_takes_13 : decode mc_B_takes 13 = .ok (.ifCond .ne 7, 3) := by decide +kernel
theorem md_B_takes_16 : decode mc_B_takes 16 = .ok (.iconst 1, 1) := by decide +kernel
theorem md_B_takes_17 : decode mc_B_takes 17 = .ok (.goto 4, 3) := by decide +kernel
theorem md_B_takes_20 : decode mc_B_takes 20 = .ok (.iconst 0, 1) := by decide +kernel
theorem md_B_takes_21 : decode mc_B_takes 21 = .ok (.istore_n 3, 1) := by decide +kernel
theorem md_B_takes_22 : decode mc_B_takes 22 = .ok (.aload_n 0, 1) := by decide +kernel
theorem md_B_takes_23 : decode mc_B_takes 23 = .ok (.iload_n 1, 1) := by decide +kernel
theorem md_B_takes_24 : decode mc_B_takes 24 = .ok (.invokevirtual 102, 3) := by decide +kernel
theorem md_B_takes_27 : decode mc_B_takes 27 = .ok (.istore 4, 2) := by decide +kernel
theorem md_B_takes_29 : decode mc_B_takes 29 = .ok (.iload_n 3, 1) := by decide +kernel
theorem md_B_takes_30 : decode mc_B_takes 30 = .ok (.ifCond .eq 63, 3) := by decide +kernel
theorem md_B_takes_33 : decode mc_B_takes 33 = .ok (.aload_n 0, 1) := by decide +kernel
theorem md_B_takes_34 : decode mc_B_takes 34 = .ok (.getfield 7, 3) := by decide +kernel
theorem md_B_takes_37 : decode mc_B_takes 37 = .ok (.iload_n 2, 1) := by decide +kernel
theorem md_B_takes_38 : decode mc_B_takes 38 = .ok (.iaload, 1) := by decide +kernel
theorem md_B_takes_39 : decode mc_B_takes 39 = .ok (.ifCond .eq 54, 3) := by decide +kernel
theorem md_B_takes_42 : decode mc_B_takes 42 = .ok (.aload_n 0, 1) := by decide +kernel
theorem md_B_takes_43 : decode mc_B_takes 43 = .ok (.iconst 3, 1) := by decide +kernel
theorem md_B_takes_44 : decode mc_B_takes 44 = .ok (.iload_n 2, 1) := by decide +kernel
theorem md_B_takes_45 : decode mc_B_takes 45 = .ok (.aload_n 0, 1) := by decide +kernel
theorem md_B_takes_46 : decode mc_B_takes 46 = .ok (.getfield 93, 3) := by decide +kernel
theorem md_B_takes_49 : decode mc_B_takes 49 = .ok (.invokevirtual 105, 3) := by decide +kernel
theorem md_B_takes_52 : decode mc_B_takes 52 = .ok (.istore 5, 2) := by decide +kernel
theorem md_B_takes_54 : decode mc_B_takes 54 = .ok (.iload 5, 2) := by decide +kernel
theorem md_B_takes_56 : decode mc_B_takes 56 = .ok (.ifCond .lt 37, 3) := by decide +kernel
theorem md_B_takes_59 : decode mc_B_takes 59 = .ok (.aload_n 0, 1) := by decide +kernel
theorem md_B_takes_60 : decode mc_B_takes 60 = .ok (.iload 5, 2) := by decide +kernel
theorem md_B_takes_62 : decode mc_B_takes 62 = .ok (.invokevirtual 102, 3) := by decide +kernel
theorem md_B_takes_65 : decode mc_B_takes 65 = .ok (.istore 6, 2) := by decide +kernel
theorem md_B_takes_67 : decode mc_B_takes 67 = .ok (.iload 6, 2) := by decide +kernel
theorem md_B_takes_69 : decode mc_B_takes 69 = .ok (.bipush 6, 2) := by decide +kernel
theorem md_B_takes_71 : decode mc_B_takes 71 = .ok (.if_icmp .ge 16, 3) := by decide +kernel
theorem md_B_takes_74 : decode mc_B_takes 74 = .ok (.aload_n 0, 1) := by decide +kernel
theorem md_B_takes_75 : decode mc_B_takes 75 = .ok (.iconst 3, 1) := by decide +kernel
theorem md_B_takes_76 : decode mc_B_takes 76 = .ok (.iload_n 2, 1) := by decide +kernel
theorem md_B_takes_77 : decode mc_B_takes 77 = .ok (.aload_n 0, 1) := by decide +kernel
theorem md_B_takes_78 : decode mc_B_takes 78 = .ok (.getfield 93, 3) := by decide +kernel
theorem md_B_takes_81 : decode mc_B_takes 81 = .ok (.invokevirtual 105, 3) := by decide +kernel
theorem md_B_takes_84 : decode mc_B_takes 84 = .ok (.goto 4, 3) := by decide +kernel
theorem md_B_takes_87 : decode mc_B_takes 87 = .ok (.iconst (-1), 1) := by decide +kernel
theorem md_B_takes_88 : decode mc_B_takes 88 = .ok (.istore 5, 2) := by decide +kernel
theorem md_B_takes_90 : decode mc_B_takes 90 = .ok (.goto (-36), 3) := by decide +kernel
theorem md_B_takes_93 : decode mc_B_takes 93 = .ok (.iload 4, 2) := by decide +kernel
theorem md_B_takes_95 : decode mc_B_takes 95 = .ok (.ireturn, 1) := by decide +kernel
theorem md_B_releases_0 : decode mc_B_releases 0 = .ok (.iconst 1, 1) := by decide +kernel
theorem md_B_releases_1 : decode mc_B_releases 1 = .ok (.istore_n 2, 1) := by decide +kernel
theorem md_B_releases_2 : decode mc_B_releases 2 = .ok (.iload_n 2, 1) := by decide +kernel
theorem md_B_releases_3 : decode mc_B_releases 3 = .ok (.bipush 24, 2) := by decide +kernel
theorem md_B_releases_5 : decode mc_B_releases 5 = .ok (.if_icmp .gt 66, 3) := by decide +kernel
theorem md_B_releases_8 : decode mc_B_releases 8 = .ok (.bipush 24, 2) := by decide +kernel
theorem md_B_releases_10 : decode mc_B_releases 10 = .ok (.iload_n 1, 1) := by decide +kernel
theorem md_B_releases_11 : decode mc_B_releases 11 = .ok (.imul, 1) := by decide +kernel
theorem md_B_releases_12 : decode mc_B_releases 12 = .ok (.iload_n 2, 1) := by decide +kernel
theorem md_B_releases_13 : decode mc_B_releases 13 = .ok (.iadd, 1) := by decide +kernel
theorem md_B_releases_14 : decode mc_B_releases 14 = .ok (.iconst 1, 1) := by decide +kernel
theorem md_B_releases_15 : decode mc_B_releases 15 = .ok (.isub, 1) := by decide +kernel
theorem md_B_releases_16 : decode mc_B_releases 16 = .ok (.istore_n 3, 1) := by decide +kernel
theorem md_B_releases_17 : decode mc_B_releases 17 = .ok (.aload_n 0, 1) := by decide +kernel
theorem md_B_releases_18 : decode mc_B_releases 18 = .ok (.getfield 19, 3) := by decide +kernel
theorem md_B_releases_21 : decode mc_B_releases 21 = .ok (.iload_n 3, 1) := by decide +kernel
theorem md_B_releases_22 : decode mc_B_releases 22 = .ok (.baload, 1) := by decide +kernel
theorem md_B_releases_23 : decode mc_B_releases 23 = .ok (.ifCond .eq 42, 3) := by decide +kernel
theorem md_B_releases_26 : decode mc_B_releases 26 = .ok (.aload_n 0, 1) := by decide +kernel
theorem md_B_releases_27 : decode mc_B_releases 27 = .ok (.getfield 35, 3) := by decide +kernel
theorem md_B_releases_30 : decode mc_B_releases 30 = .ok (.iload_n 3, 1) := by decide +kernel
theorem md_B_releases_31 : decode mc_B_releases 31 = .ok (.iaload, 1) := by decide +kernel
theorem md_B_releases_32 : decode mc_B_releases 32 = .ok (.ifCond .ne 33, 3) := by decide +kernel
theorem md_B_releases_35 : decode mc_B_releases 35 = .ok (.aload_n 0, 1) := by decide +kernel
theorem md_B_releases_36 : decode mc_B_releases 36 = .ok (.iload_n 1, 1) := by decide +kernel
theorem md_B_releases_37 : decode mc_B_releases 37 = .ok (.invokevirtual 109, 3) := by decide +kernel
theorem md_B_releases_40 : decode mc_B_releases 40 = .ok (.iload_n 2, 1) := by decide +kernel
theorem md_B_releases_41 : decode mc_B_releases 41 = .ok (.if_icmp .le 24, 3) := by decide +kernel
theorem md_B_releases_44 : decode mc_B_releases 44 = .ok (.aload_n 0, 1) := by decide +kernel
theorem md_B_releases_45 : decode mc_B_releases 45 = .ok (.iload_n 3, 1) := by decide +kernel
theorem md_B_releases_46 : decode mc_B_releases 46 = .ok (.invokevirtual 112, 3) := by decide +kernel
theorem md_B_releases_49 : decode mc_B_releases 49 = .ok (.istore 4, 2) := by decide +kernel
theorem md_B_releases_51 : decode mc_B_releases 51 = .ok (.iload 4, 2) := by decide +kernel
theorem md_B_releases_53 : decode mc_B_releases 53 = .ok (.bipush 6, 2) := by decide +kernel
theorem md_B_releases_55 : decode mc_B_releases 55 = .ok (.if_icmp .ge 7, 3) := by decide +kernel
theorem md_B_releases_58 : decode mc_B_releases 58 = .ok (.iload_n 2, 1) := by decide +kernel
theorem md_B_releases_59 : decode mc_B_releases 59 = .ok (.goto 5, 3) := by decide +kernel
theorem md_B_releases_62 : decode mc_B_releases 62 = .ok (.bipush 24, 2) := by decide +kernel
theorem md_B_releases_64 : decode mc_B_releases 64 = .ok (.istore_n 2, 1) := by decide +kernel
theorem md_B_releases_65 : decode mc_B_releases 65 = .ok (.iinc 2 1, 3) := by decide +kernel
theorem md_B_releases_68 : decode mc_B_releases 68 = .ok (.goto (-66), 3) := by decide +kernel
theorem md_B_releases_71 : decode mc_B_releases 71 = .ok (.return_, 1) := by decide +kernel
theorem md_B_comes_0 : decode mc_B_comes 0 = .ok (.iload_n 1, 1) := by decide +kernel
theorem md_B_comes_1 : decode mc_B_comes 1 = .ok (.bipush 24, 2) := by decide +kernel
theorem md_B_comes_3 : decode mc_B_comes 3 = .ok (.idiv, 1) := by decide +kernel
theorem md_B_comes_4 : decode mc_B_comes 4 = .ok (.istore_n 2, 1) := by decide +kernel
theorem md_B_comes_5 : decode mc_B_comes 5 = .ok (.aload_n 0, 1) := by decide +kernel
theorem md_B_comes_6 : decode mc_B_comes 6 = .ok (.getfield 19, 3) := by decide +kernel
theorem md_B_comes_9 : decode mc_B_comes 9 = .ok (.iload_n 1, 1) := by decide +kernel
theorem md_B_comes_10 : decode mc_B_comes 10 = .ok (.iconst 1, 1) := by decide +kernel
theorem md_B_comes_11 : decode mc_B_comes 11 = .ok (.bastore, 1) := by decide +kernel
theorem md_B_comes_12 : decode mc_B_comes 12 = .ok (.aload_n 0, 1) := by decide +kernel
theorem md_B_comes_13 : decode mc_B_comes 13 = .ok (.getfield 35, 3) := by decide +kernel
theorem md_B_comes_16 : decode mc_B_comes 16 = .ok (.iload_n 1, 1) := by decide +kernel
theorem md_B_comes_17 : decode mc_B_comes 17 = .ok (.iconst 0, 1) := by decide +kernel
theorem md_B_comes_18 : decode mc_B_comes 18 = .ok (.iastore, 1) := by decide +kernel
theorem md_B_comes_19 : decode mc_B_comes 19 = .ok (.aload_n 0, 1) := by decide +kernel
theorem md_B_comes_20 : decode mc_B_comes 20 = .ok (.getfield 38, 3) := by decide +kernel
theorem md_B_comes_23 : decode mc_B_comes 23 = .ok (.iload_n 1, 1) := by decide +kernel
theorem md_B_comes_24 : decode mc_B_comes 24 = .ok (.iconst 0, 1) := by decide +kernel
theorem md_B_comes_25 : decode mc_B_comes 25 = .ok (.iastore, 1) := by decide +kernel
theorem md_B_comes_26 : decode mc_B_comes 26 = .ok (.aload_n 0, 1) := by decide +kernel
theorem md_B_comes_27 : decode mc_B_comes 27 = .ok (.getfield 41, 3) := by decide +kernel
theorem md_B_comes_30 : decode mc_B_comes 30 = .ok (.iload_n 1, 1) := by decide +kernel
theorem md_B_comes_31 : decode mc_B_comes 31 = .ok (.aload_n 0, 1) := by decide +kernel
theorem md_B_comes_32 : decode mc_B_comes 32 = .ok (.getfield 90, 3) := by decide +kernel
theorem md_B_comes_35 : decode mc_B_comes 35 = .ok (.iastore, 1) := by decide +kernel
theorem md_B_comes_36 : decode mc_B_comes 36 = .ok (.aload_n 0, 1) := by decide +kernel
theorem md_B_comes_37 : decode mc_B_comes 37 = .ok (.getfield 47, 3) := by decide +kernel
theorem md_B_comes_40 : decode mc_B_comes 40 = .ok (.iload_n 1, 1) := by decide +kernel
theorem md_B_comes_41 : decode mc_B_comes 41 = .ok (.iconst 0, 1) := by decide +kernel
theorem md_B_comes_42 : decode mc_B_comes 42 = .ok (.bastore, 1) := by decide +kernel
theorem md_B_comes_43 : decode mc_B_comes 43 = .ok (.aload_n 0, 1) := by decide +kernel
theorem md_B_comes_44 : decode mc_B_comes 44 = .ok (.getfield 26, 3) := by decide +kernel
theorem md_B_comes_47 : decode mc_B_comes 47 = .ok (.iload_n 1, 1) := by decide +kernel
theorem md_B_comes_48 : decode mc_B_comes 48 = .ok (.iaload, 1) := by decide +kernel
theorem md_B_comes_49 : decode mc_B_comes 49 = .ok (.iconst 3, 1) := by decide +kernel
theorem md_B_comes_50 : decode mc_B_comes 50 = .ok (.if_icmp .eq 19, 3) := by decide +kernel
theorem md_B_comes_53 : decode mc_B_comes 53 = .ok (.aload_n 0, 1) := by decide +kernel
theorem md_B_comes_54 : decode mc_B_comes 54 = .ok (.iload_n 2, 1) := by decide +kernel
theorem md_B_comes_55 : decode mc_B_comes 55 = .ok (.invokevirtual 109, 3) := by decide +kernel
theorem md_B_comes_58 : decode mc_B_comes 58 = .ok (.iload_n 1, 1) := by decide +kernel
theorem md_B_comes_59 : decode mc_B_comes 59 = .ok (.bipush 24, 2) := by decide +kernel
theorem md_B_comes_61 : decode mc_B_comes 61 = .ok (.irem, 1) := by decide +kernel
theorem md_B_comes_62 : decode mc_B_comes 62 = .ok (.iconst 1, 1) := by decide +kernel
theorem md_B_comes_63 : decode mc_B_comes 63 = .ok (.iadd, 1) := by decide +kernel
theorem md_B_comes_64 : decode mc_B_comes 64 = .ok (.if_icmp .ge 5, 3) := by decide +kernel
theorem md_B_comes_67 : decode mc_B_comes 67 = .ok (.iconst 2, 1) := by decide +kernel
theorem md_B_comes_68 : decode mc_B_comes 68 = .ok (.ireturn, 1) := by decide +kernel
theorem md_B_comes_69 : decode mc_B_comes 69 = .ok (.aload_n 0, 1) := by decide +kernel
theorem md_B_comes_70 : decode mc_B_comes 70 = .ok (.iload_n 1, 1) := by decide +kernel
theorem md_B_comes_71 : decode mc_B_comes 71 = .ok (.invokevirtual 112, 3) := by decide +kernel
theorem md_B_comes_74 : decode mc_B_comes 74 = .ok (.istore_n 3, 1) := by decide +kernel
theorem md_B_comes_75 : decode mc_B_comes 75 = .ok (.aload_n 0, 1) := by decide +kernel
theorem md_B_comes_76 : decode mc_B_comes 76 = .ok (.iload_n 2, 1) := by decide +kernel
theorem md_B_comes_77 : decode mc_B_comes 77 = .ok (.invokevirtual 115, 3) := by decide +kernel
theorem md_B_comes_80 : decode mc_B_comes 80 = .ok (.iload_n 3, 1) := by decide +kernel
theorem md_B_comes_81 : decode mc_B_comes 81 = .ok (.ireturn, 1) := by decide +kernel
theorem md_B_receive_0 : decode mc_B_receive 0 = .ok (.iload_n 1, 1) := by decide +kernel
theorem md_B_receive_1 : decode mc_B_receive 1 = .ok (.invokestatic 118, 3) := by decide +kernel
theorem md_B_receive_4 : decode mc_B_receive 4 = .ok (.ifCond .eq 44, 3) := by decide +kernel
theorem md_B_receive_7 : decode mc_B_receive 7 = .ok (.iload_n 2, 1) := by decide +kernel
theorem md_B_receive_8 : decode mc_B_receive 8 = .ok (.invokestatic 121, 3) := by decide +kernel
theorem md_B_receive_11 : decode mc_B_receive 11 = .ok (.ifCond .eq 37, 3) := by decide +kernel
theorem md_B_receive_14 : decode mc_B_receive 14 = .ok (.iload_n 3, 1) := by decide +kernel
theorem md_B_receive_15 : decode mc_B_receive 15 = .ok (.iconst 0, 1) := by decide +kernel
theorem md_B_receive_16 : decode mc_B_receive 16 = .ok (.iconst 4, 1) := by decide +kernel
theorem md_B_receive_17 : decode mc_B_receive 17 = .ok (.invokestatic 76, 3) := by decide +kernel
theorem md_B_receive_20 : decode mc_B_receive 20 = .ok (.ifCond .eq 28, 3) := by decide +kernel
theorem md_B_receive_23 : decode mc_B_receive 23 = .ok (.iload 4, 2) := by decide +kernel
theorem md_B_receive_25 : decode mc_B_receive 25 = .ok (.iconst 0, 1) := by decide +kernel
theorem md_B_receive_26 : decode mc_B_receive 26 = .ok (.bipush 15, 2) := by decide +kernel
theorem md_B_receive_28 : decode mc_B_receive 28 = .ok (.invokestatic 76, 3) := by decide +kernel
theorem md_B_receive_31 : decode mc_B_receive 31 = .ok (.ifCond .eq 17, 3) := by decide +kernel
theorem md_B_receive_34 : decode mc_B_receive 34 = .ok (.iload 5, 2) := by decide +kernel
theorem md_B_receive_36 : decode mc_B_receive 36 = .ok (.sipush (-1000), 3) := by decide +kernel
theorem md_B_receive_39 : decode mc_B_receive 39 = .ok (.sipush 1000, 3) := by decide +kernel
theorem md_B_receive_42 : decode mc_B_receive 42 = .ok (.invokestatic 76, 3) := by decide +kernel
theorem md_B_receive_45 : decode mc_B_receive 45 = .ok (.ifCond .ne 9, 3) := by decide +kernel
theorem md_B_receive_48 : decode mc_B_receive 48 = .ok (.aload_n 0, 1) := by decide +kernel
theorem md_B_receive_49 : decode mc_B_receive 49 = .ok (.iconst 1, 1) := by decide +kernel
theorem md_B_receive_50 : decode mc_B_receive 50 = .ok (.invokevirtual 124, 3) := by decide +kernel
theorem md_B_receive_53 : decode mc_B_receive 53 = .ok (.ireturn, 1) := by decide +kernel
theorem md_B_receive_54 : decode mc_B_receive 54 = .ok (.aload_n 0, 1) := by decide +kernel
theorem md_B_receive_55 : decode mc_B_receive 55 = .ok (.iconst 0, 1) := by decide +kernel
theorem md_B_receive_56 : decode mc_B_receive 56 = .ok (.putfield 62, 3) := by decide +kernel
theorem md_B_receive_59 : decode mc_B_receive 59 = .ok (.bipush 24, 2) := by decide +kernel
theorem md_B_receive_61 : decode mc_B_receive 61 = .ok (.iload_n 1, 1) := by decide +kernel
theorem md_B_receive_62 : decode mc_B_receive 62 = .ok (.imul, 1) := by decide +kernel
theorem md_B_receive_63 : decode mc_B_receive 63 = .ok (.iload_n 2, 1) := by decide +kernel
theorem md_B_receive_64 : decode mc_B_receive 64 = .ok (.iadd, 1) := by decide +kernel
theorem md_B_receive_65 : decode mc_B_receive 65 = .ok (.iconst 1, 1) := by decide +kernel
theorem md_B_receive_66 : decode mc_B_receive 66 = .ok (.isub, 1) := by decide +kernel
theorem md_B_receive_67 : decode mc_B_receive 67 = .ok (.istore 6, 2) := by decide +kernel
theorem md_B_receive_69 : decode mc_B_receive 69 = .ok (.aload_n 0, 1) := by decide +kernel
theorem md_B_receive_70 : decode mc_B_receive 70 = .ok (.iload 6, 2) := by decide +kernel
theorem md_B_receive_72 : decode mc_B_receive 72 = .ok (.invokevirtual 66, 3) := by decide +kernel
theorem md_B_receive_75 : decode mc_B_receive 75 = .ok (.ifCond .ne 13, 3) := by decide +kernel
theorem md_B_receive_78 : decode mc_B_receive 78 = .ok (.aload_n 0, 1) := by decide +kernel
theorem md_B_receive_79 : decode mc_B_receive 79 = .ok (.getfield 23, 3) := by decide +kernel
theorem md_B_receive_82 : decode mc_B_receive 82 = .ok (.iload 6, 2) := by decide +kernel
theorem md_B_receive_84 : decode mc_B_receive 84 = .ok (.baload, 1) := by decide +kernel
theorem md_B_receive_85 : decode mc_B_receive 85 = .ok (.ifCond .eq 15, 3) := by decide +kernel
theorem md_B_receive_88 : decode mc_B_receive 88 = .ok (.aload_n 0, 1) := by decide +kernel
theorem md_B_receive_89 : decode mc_B_receive 89 = .ok (.dup, 1) := by decide +kernel
theorem md_B_receive_90 : decode mc_B_receive 90 = .ok (.getfield 127, 3) := by decide +kernel
theorem md_B_receive_93 : decode mc_B_receive 93 = .ok (.iconst 1, 1) := by decide +kernel
theorem md_B_receive_94 : decode mc_B_receive 94 = .ok (.iadd, 1) := by decide +kernel
theorem md_B_receive_95 : decode mc_B_receive 95 = .ok (.putfield 127, 3) := by decide +kernel
theorem md_B_receive_98 : decode mc_B_receive 98 = .ok (.iconst 3, 1) := by decide +kernel
theorem md_B_receive_99 : decode mc_B_receive 99 = .ok (.ireturn, 1) := by decide +kernel
theorem md_B_receive_100 : decode mc_B_receive 100 = .ok (.aload_n 0, 1) := by decide +kernel
theorem md_B_receive_101 : decode mc_B_receive 101 = .ok (.getfield 26, 3) := by decide +kernel
theorem md_B_receive_104 : decode mc_B_receive 104 = .ok (.iload 6, 2) := by decide +kernel
theorem md_B_receive_106 : decode mc_B_receive 106 = .ok (.iload_n 3, 1) := by decide +kernel
theorem md_B_receive_107 : decode mc_B_receive 107 = .ok (.iastore, 1) := by decide +kernel
theorem md_B_receive_108 : decode mc_B_receive 108 = .ok (.aload_n 0, 1) := by decide +kernel
theorem md_B_receive_109 : decode mc_B_receive 109 = .ok (.getfield 29, 3) := by decide +kernel
theorem md_B_receive_112 : decode mc_B_receive 112 = .ok (.iload 6, 2) := by decide +kernel
theorem md_B_receive_114 : decode mc_B_receive 114 = .ok (.iload 4, 2) := by decide +kernel
theorem md_B_receive_116 : decode mc_B_receive 116 = .ok (.iastore, 1) := by decide +kernel
theorem md_B_receive_117 : decode mc_B_receive 117 = .ok (.aload_n 0, 1) := by decide +kernel
theorem md_B_receive_118 : decode mc_B_receive 118 = .ok (.getfield 32, 3) := by decide +kernel
theorem md_B_receive_121 : decode mc_B_receive 121 = .ok (.iload 6, 2) := by decide +kernel
theorem md_B_receive_123 : decode mc_B_receive 123 = .ok (.iload 5, 2) := by decide +kernel
theorem md_B_receive_125 : decode mc_B_receive 125 = .ok (.iastore, 1) := by decide +kernel
theorem md_B_receive_126 : decode mc_B_receive 126 = .ok (.aload_n 0, 1) := by decide +kernel
theorem md_B_receive_127 : decode mc_B_receive 127 = .ok (.iload 6, 2) := by decide +kernel
theorem md_B_receive_129 : decode mc_B_receive 129 = .ok (.invokevirtual 130, 3) := by decide +kernel
theorem md_B_receive_132 : decode mc_B_receive 132 = .ok (.istore 7, 2) := by decide +kernel
theorem md_B_receive_134 : decode mc_B_receive 134 = .ok (.aload_n 0, 1) := by decide +kernel
theorem md_B_receive_135 : decode mc_B_receive 135 = .ok (.getfield 35, 3) := by decide +kernel
theorem md_B_receive_138 : decode mc_B_receive 138 = .ok (.iload 6, 2) := by decide +kernel
theorem md_B_receive_140 : decode mc_B_receive 140 = .ok (.iaload, 1) := by decide +kernel
theorem md_B_receive_141 : decode mc_B_receive 141 = .ok (.istore 8, 2) := by decide +kernel
theorem md_B_receive_143 : decode mc_B_receive 143 = .ok (.iload 7, 2) := by decide +kernel
theorem md_B_receive_145 : decode mc_B_receive 145 = .ok (.iconst 2, 1) := by decide +kernel
theorem md_B_receive_146 : decode mc_B_receive 146 = .ok (.if_icmp .eq 8, 3) := by decide +kernel
theorem md_B_receive_149 : decode mc_B_receive 149 = .ok (.iload 8, 2) := by decide +kernel
theorem md_B_receive_151 : decode mc_B_receive 151 = .ok (.ifCond .ne 7, 3) := by decide +kernel
theorem md_B_receive_154 : decode mc_B_receive 154 = .ok (.iconst 2, 1) := by decide +kernel
theorem md_B_receive_155 : decode mc_B_receive 155 = .ok (.goto 40, 3) := by decide +kernel
theorem md_B_receive_158 : decode mc_B_receive 158 = .ok (.iload 8, 2) := by decide +kernel
theorem md_B_receive_160 : decode mc_B_receive 160 = .ok (.iconst 1, 1) := by decide +kernel
theorem md_B_receive_161 : decode mc_B_receive 161 = .ok (.if_icmp .ne 7, 3) := by decide +kernel
theorem md_B_receive_164 : decode mc_B_receive 164 = .ok (.iconst 1, 1) := by decide +kernel
theorem md_B_receive_165 : decode mc_B_receive 165 = .ok (.goto 30, 3) := by decide +kernel
theorem md_B_receive_168 : decode mc_B_receive 168 = .ok (.iload 8, 2) := by decide +kernel
theorem md_B_receive_170 : decode mc_B_receive 170 = .ok (.iconst 2, 1) := by decide +kernel
theorem md_B_receive_171 : decode mc_B_receive 171 = .ok (.if_icmp .ne 13, 3) := by decide +kernel
theorem md_B_receive_174 : decode mc_B_receive 174 = .ok (.aload_n 0, 1) := by decide +kernel
theorem md_B_receive_175 : decode mc_B_receive 175 = .ok (.getfield 38, 3) := by decide +kernel
theorem md_B_receive_178 : decode mc_B_receive 178 = .ok (.iload 6, 2) := by decide +kernel
theorem md_B_receive_180 : decode mc_B_receive 180 = .ok (.iaload, 1) := by decide +kernel
theorem md_B_receive_181 : decode mc_B_receive 181 = .ok (.goto 14, 3) := by decide +kernel
theorem md_B_receive_184 : decode mc_B_receive 184 = .ok (.iload 8, 2) := by decide +kernel
theorem md_B_receive_186 : decode mc_B_receive 186 = .ok (.iconst 3, 1) := by decide +kernel
theorem md_B_receive_187 : decode mc_B_receive 187 = .ok (.if_icmp .ne 7, 3) := by decide +kernel
theorem md_B_receive_190 : decode mc_B_receive 190 = .ok (.iconst 4, 1) := by decide +kernel
theorem md_B_receive_191 : decode mc_B_receive 191 = .ok (.goto 4, 3) := by decide +kernel
theorem md_B_receive_194 : decode mc_B_receive 194 = .ok (.iconst 5, 1) := by decide +kernel
theorem md_B_receive_195 : decode mc_B_receive 195 = .ok (.ireturn, 1) := by decide +kernel
theorem md_B_isMessage_0 : decode mc_B_isMessage 0 = .ok (.aload_n 0, 1) := by decide +kernel
theorem md_B_isMessage_1 : decode mc_B_isMessage 1 = .ok (.iload_n 1, 1) := by decide +kernel
theorem md_B_isMessage_2 : decode mc_B_isMessage 2 = .ok (.invokestatic 118, 3) := by decide +kernel
theorem md_B_isMessage_5 : decode mc_B_isMessage 5 = .ok (.ifCond .eq 14, 3) := by decide +kernel
theorem md_B_isMessage_8 : decode mc_B_isMessage 8 = .ok (.iload_n 2, 1) := by decide +kernel
theorem md_B_isMessage_9 : decode mc_B_isMessage 9 = .ok (.invokestatic 121, 3) := by decide +kernel
theorem md_B_isMessage_12 : decode mc_B_isMessage 12 = .ok (.ifCond .eq 7, 3) := by decide +kernel
theorem md_B_isMessage_15 : decode mc_B_isMessage 15 = .ok (.iconst 0, 1) := by decide +kernel
theorem md_B_isMessage_16 : decode mc_B_isMessage 16 = .ok (.goto 4, 3) := by decide +kernel
theorem md_B_isMessage_19 : decode mc_B_isMessage 19 = .ok (.iconst 1, 1) := by decide +kernel
theorem md_B_isMessage_20 : decode mc_B_isMessage 20 = .ok (.putfield 62, 3) := by decide +kernel
theorem md_B_isMessage_23 : decode mc_B_isMessage 23 = .ok (.aload_n 0, 1) := by decide +kernel
theorem md_B_isMessage_24 : decode mc_B_isMessage 24 = .ok (.getfield 62, 3) := by decide +kernel
theorem md_B_isMessage_27 : decode mc_B_isMessage 27 = .ok (.ifCond .ne 7, 3) := by decide +kernel
theorem md_B_isMessage_30 : decode mc_B_isMessage 30 = .ok (.iconst 1, 1) := by decide +kernel
theorem md_B_isMessage_31 : decode mc_B_isMessage 31 = .ok (.goto 4, 3) := by decide +kernel
theorem md_B_isMessage_34 : decode mc_B_isMessage 34 = .ok (.iconst 0, 1) := by decide +kernel
theorem md_B_isMessage_35 : decode mc_B_isMessage 35 = .ok (.ireturn, 1) := by decide +kernel
theorem md_B_status_0 : decode mc_B_status 0 = .ok (.aload_n 0, 1) := by decide +kernel
theorem md_B_status_1 : decode mc_B_status 1 = .ok (.iload_n 1, 1) := by decide +kernel
theorem md_B_status_2 : decode mc_B_status 2 = .ok (.iload_n 2, 1) := by decide +kernel
theorem md_B_status_3 : decode mc_B_status 3 = .ok (.invokevirtual 133, 3) := by decide +kernel
theorem md_B_status_6 : decode mc_B_status 6 = .ok (.ifCond .ne 5, 3) := by decide +kernel
theorem md_B_status_9 : decode mc_B_status 9 = .ok (.iconst 0, 1) := by decide +kernel
theorem md_B_status_10 : decode mc_B_status 10 = .ok (.ireturn, 1) := by decide +kernel
theorem md_B_status_11 : decode mc_B_status 11 = .ok (.bipush 24, 2) := by decide +kernel
theorem md_B_status_13 : decode mc_B_status 13 = .ok (.iload_n 1, 1) := by decide +kernel
theorem md_B_status_14 : decode mc_B_status 14 = .ok (.imul, 1) := by decide +kernel
theorem md_B_status_15 : decode mc_B_status 15 = .ok (.iload_n 2, 1) := by decide +kernel
theorem md_B_status_16 : decode mc_B_status 16 = .ok (.iadd, 1) := by decide +kernel
theorem md_B_status_17 : decode mc_B_status 17 = .ok (.iconst 1, 1) := by decide +kernel
theorem md_B_status_18 : decode mc_B_status 18 = .ok (.isub, 1) := by decide +kernel
theorem md_B_status_19 : decode mc_B_status 19 = .ok (.istore_n 3, 1) := by decide +kernel
theorem md_B_status_20 : decode mc_B_status 20 = .ok (.aload_n 0, 1) := by decide +kernel
theorem md_B_status_21 : decode mc_B_status 21 = .ok (.getfield 19, 3) := by decide +kernel
theorem md_B_status_24 : decode mc_B_status 24 = .ok (.iload_n 3, 1) := by decide +kernel
theorem md_B_status_25 : decode mc_B_status 25 = .ok (.baload, 1) := by decide +kernel
theorem md_B_status_26 : decode mc_B_status 26 = .ok (.ifCond .eq 12, 3) := by decide +kernel
theorem md_B_status_29 : decode mc_B_status 29 = .ok (.aload_n 0, 1) := by decide +kernel
theorem md_B_status_30 : decode mc_B_status 30 = .ok (.getfield 35, 3) := by decide +kernel
theorem md_B_status_33 : decode mc_B_status 33 = .ok (.iload_n 3, 1) := by decide +kernel
theorem md_B_status_34 : decode mc_B_status 34 = .ok (.iaload, 1) := by decide +kernel
theorem md_B_status_35 : decode mc_B_status 35 = .ok (.goto 4, 3) := by decide +kernel
theorem md_B_status_38 : decode mc_B_status 38 = .ok (.iconst (-1), 1) := by decide +kernel
theorem md_B_status_39 : decode mc_B_status 39 = .ok (.ireturn, 1) := by decide +kernel
theorem md_B_answer_0 : decode mc_B_answer 0 = .ok (.aload_n 0, 1) := by decide +kernel
theorem md_B_answer_1 : decode mc_B_answer 1 = .ok (.iload_n 1, 1) := by decide +kernel
theorem md_B_answer_2 : decode mc_B_answer 2 = .ok (.iload_n 2, 1) := by decide +kernel
theorem md_B_answer_3 : decode mc_B_answer 3 = .ok (.invokevirtual 133, 3) := by decide +kernel
theorem md_B_answer_6 : decode mc_B_answer 6 = .ok (.ifCond .ne 5, 3) := by decide +kernel
theorem md_B_answer_9 : decode mc_B_answer 9 = .ok (.iconst 0, 1) := by decide +kernel
theorem md_B_answer_10 : decode mc_B_answer 10 = .ok (.ireturn, 1) := by decide +kernel
theorem md_B_answer_11 : decode mc_B_answer 11 = .ok (.bipush 24, 2) := by decide +kernel
theorem md_B_answer_13 : decode mc_B_answer 13 = .ok (.iload_n 1, 1) := by decide +kernel
theorem md_B_answer_14 : decode mc_B_answer 14 = .ok (.imul, 1) := by decide +kernel
theorem md_B_answer_15 : decode mc_B_answer 15 = .ok (.iload_n 2, 1) := by decide +kernel
theorem md_B_answer_16 : decode mc_B_answer 16 = .ok (.iadd, 1) := by decide +kernel
theorem md_B_answer_17 : decode mc_B_answer 17 = .ok (.iconst 1, 1) := by decide +kernel
theorem md_B_answer_18 : decode mc_B_answer 18 = .ok (.isub, 1) := by decide +kernel
theorem md_B_answer_19 : decode mc_B_answer 19 = .ok (.istore_n 3, 1) := by decide +kernel
theorem md_B_answer_20 : decode mc_B_answer 20 = .ok (.aload_n 0, 1) := by decide +kernel
theorem md_B_answer_21 : decode mc_B_answer 21 = .ok (.getfield 19, 3) := by decide +kernel
theorem md_B_answer_24 : decode mc_B_answer 24 = .ok (.iload_n 3, 1) := by decide +kernel
theorem md_B_answer_25 : decode mc_B_answer 25 = .ok (.baload, 1) := by decide +kernel
theorem md_B_answer_26 : decode mc_B_answer 26 = .ok (.ifCond .eq 12, 3) := by decide +kernel
theorem md_B_answer_29 : decode mc_B_answer 29 = .ok (.aload_n 0, 1) := by decide +kernel
theorem md_B_answer_30 : decode mc_B_answer 30 = .ok (.getfield 38, 3) := by decide +kernel
theorem md_B_answer_33 : decode mc_B_answer 33 = .ok (.iload_n 3, 1) := by decide +kernel
theorem md_B_answer_34 : decode mc_B_answer 34 = .ok (.iaload, 1) := by decide +kernel
theorem md_B_answer_35 : decode mc_B_answer 35 = .ok (.goto 4, 3) := by decide +kernel
theorem md_B_answer_38 : decode mc_B_answer 38 = .ok (.iconst 0, 1) := by decide +kernel
theorem md_B_answer_39 : decode mc_B_answer 39 = .ok (.ireturn, 1) := by decide +kernel
theorem md_B_point_0 : decode mc_B_point 0 = .ok (.aload_n 0, 1) := by decide +kernel
theorem md_B_point_1 : decode mc_B_point 1 = .ok (.iconst 0, 1) := by decide +kernel
theorem md_B_point_2 : decode mc_B_point 2 = .ok (.putfield 62, 3) := by decide +kernel
theorem md_B_point_5 : decode mc_B_point 5 = .ok (.iload_n 1, 1) := by decide +kernel
theorem md_B_point_6 : decode mc_B_point 6 = .ok (.iconst 0, 1) := by decide +kernel
theorem md_B_point_7 : decode mc_B_point 7 = .ok (.bipush 15, 2) := by decide +kernel
theorem md_B_point_9 : decode mc_B_point 9 = .ok (.invokestatic 76, 3) := by decide +kernel
theorem md_B_point_12 : decode mc_B_point 12 = .ok (.ifCond .eq 13, 3) := by decide +kernel
theorem md_B_point_15 : decode mc_B_point 15 = .ok (.aload_n 0, 1) := by decide +kernel
theorem md_B_point_16 : decode mc_B_point 16 = .ok (.getfield 7, 3) := by decide +kernel
theorem md_B_point_19 : decode mc_B_point 19 = .ok (.iload_n 1, 1) := by decide +kernel
theorem md_B_point_20 : decode mc_B_point 20 = .ok (.iaload, 1) := by decide +kernel
theorem md_B_point_21 : decode mc_B_point 21 = .ok (.iconst 1, 1) := by decide +kernel
theorem md_B_point_22 : decode mc_B_point 22 = .ok (.if_icmp .eq 5, 3) := by decide +kernel
theorem md_B_point_25 : decode mc_B_point 25 = .ok (.iconst 0, 1) := by decide +kernel
theorem md_B_point_26 : decode mc_B_point 26 = .ok (.ireturn, 1) := by decide +kernel
theorem md_B_point_27 : decode mc_B_point 27 = .ok (.aload_n 0, 1) := by decide +kernel
theorem md_B_point_28 : decode mc_B_point 28 = .ok (.getfield 7, 3) := by decide +kernel
theorem md_B_point_31 : decode mc_B_point 31 = .ok (.iload_n 1, 1) := by decide +kernel
theorem md_B_point_32 : decode mc_B_point 32 = .ok (.iconst 2, 1) := by decide +kernel
theorem md_B_point_33 : decode mc_B_point 33 = .ok (.iastore, 1) := by decide +kernel
theorem md_B_point_34 : decode mc_B_point 34 = .ok (.iconst 1, 1) := by decide +kernel
theorem md_B_point_35 : decode mc_B_point 35 = .ok (.ireturn, 1) := by decide +kernel
theorem md_B_fails_0 : decode mc_B_fails 0 = .ok (.aload_n 0, 1) := by decide +kernel
theorem md_B_fails_1 : decode mc_B_fails 1 = .ok (.iconst 0, 1) := by decide +kernel
theorem md_B_fails_2 : decode mc_B_fails 2 = .ok (.putfield 62, 3) := by decide +kernel
theorem md_B_fails_5 : decode mc_B_fails 5 = .ok (.iload_n 1, 1) := by decide +kernel
theorem md_B_fails_6 : decode mc_B_fails 6 = .ok (.iconst 0, 1) := by decide +kernel
theorem md_B_fails_7 : decode mc_B_fails 7 = .ok (.iconst 4, 1) := by decide +kernel
theorem md_B_fails_8 : decode mc_B_fails 8 = .ok (.invokestatic 76, 3) := by decide +kernel
theorem md_B_fails_11 : decode mc_B_fails 11 = .ok (.ifCond .eq 13, 3) := by decide +kernel
theorem md_B_fails_14 : decode mc_B_fails 14 = .ok (.aload_n 0, 1) := by decide +kernel
theorem md_B_fails_15 : decode mc_B_fails 15 = .ok (.getfield 53, 3) := by decide +kernel
theorem md_B_fails_18 : decode mc_B_fails 18 = .ok (.iload_n 1, 1) := by decide +kernel
theorem md_B_fails_19 : decode mc_B_fails 19 = .ok (.baload, 1) := by decide +kernel
theorem md_B_fails_20 : decode mc_B_fails 20 = .ok (.iload_n 2, 1) := by decide +kernel
theorem md_B_fails_21 : decode mc_B_fails 21 = .ok (.if_icmp .ne 5, 3) := by decide +kernel
theorem md_B_fails_24 : decode mc_B_fails 24 = .ok (.iconst 0, 1) := by decide +kernel
theorem md_B_fails_25 : decode mc_B_fails 25 = .ok (.ireturn, 1) := by decide +kernel
theorem md_B_fails_26 : decode mc_B_fails 26 = .ok (.aload_n 0, 1) := by decide +kernel
theorem md_B_fails_27 : decode mc_B_fails 27 = .ok (.getfield 53, 3) := by decide +kernel
theorem md_B_fails_30 : decode mc_B_fails 30 = .ok (.iload_n 1, 1) := by decide +kernel
theorem md_B_fails_31 : decode mc_B_fails 31 = .ok (.iload_n 2, 1) := by decide +kernel
theorem md_B_fails_32 : decode mc_B_fails 32 = .ok (.bastore, 1) := by decide +kernel
theorem md_B_fails_33 : decode mc_B_fails 33 = .ok (.iconst 1, 1) := by decide +kernel
theorem md_B_fails_34 : decode mc_B_fails 34 = .ok (.ireturn, 1) := by decide +kernel
theorem md_B_tick_0 : decode mc_B_tick 0 = .ok (.iload_n 1, 1) := by decide +kernel
theorem md_B_tick_1 : decode mc_B_tick 1 = .ok (.aload_n 0, 1) := by decide +kernel
theorem md_B_tick_2 : decode mc_B_tick 2 = .ok (.getfield 90, 3) := by decide +kernel
theorem md_B_tick_5 : decode mc_B_tick 5 = .ok (.ldc 137, 2) := by decide +kernel
theorem md_B_tick_7 : decode mc_B_tick 7 = .ok (.invokestatic 76, 3) := by decide +kernel
theorem md_B_tick_10 : decode mc_B_tick 10 = .ok (.ifCond .ne 9, 3) := by decide +kernel
theorem md_B_tick_13 : decode mc_B_tick 13 = .ok (.aload_n 0, 1) := by decide +kernel
theorem md_B_tick_14 : decode mc_B_tick 14 = .ok (.iconst 1, 1) := by decide +kernel
theorem md_B_tick_15 : decode mc_B_tick 15 = .ok (.invokevirtual 124, 3) := by decide +kernel
theorem md_B_tick_18 : decode mc_B_tick 18 = .ok (.ireturn, 1) := by decide +kernel
theorem md_B_tick_19 : decode mc_B_tick 19 = .ok (.aload_n 0, 1) := by decide +kernel
theorem md_B_tick_20 : decode mc_B_tick 20 = .ok (.iconst 0, 1) := by decide +kernel
theorem md_B_tick_21 : decode mc_B_tick 21 = .ok (.putfield 62, 3) := by decide +kernel
theorem md_B_tick_24 : decode mc_B_tick 24 = .ok (.aload_n 0, 1) := by decide +kernel
theorem md_B_tick_25 : decode mc_B_tick 25 = .ok (.iload_n 1, 1) := by decide +kernel
theorem md_B_tick_26 : decode mc_B_tick 26 = .ok (.putfield 90, 3) := by decide +kernel
theorem md_B_tick_29 : decode mc_B_tick 29 = .ok (.aload_n 0, 1) := by decide +kernel
theorem md_B_tick_30 : decode mc_B_tick 30 = .ok (.getfield 96, 3) := by decide +kernel
theorem md_B_tick_33 : decode mc_B_tick 33 = .ok (.istore_n 2, 1) := by decide +kernel
theorem md_B_tick_34 : decode mc_B_tick 34 = .ok (.aload_n 0, 1) := by decide +kernel
theorem md_B_tick_35 : decode mc_B_tick 35 = .ok (.getfield 93, 3) := by decide +kernel
theorem md_B_tick_38 : decode mc_B_tick 38 = .ok (.istore_n 3, 1) := by decide +kernel
theorem md_B_tick_39 : decode mc_B_tick 39 = .ok (.aload_n 0, 1) := by decide +kernel
theorem md_B_tick_40 : decode mc_B_tick 40 = .ok (.iconst 4, 1) := by decide +kernel
theorem md_B_tick_41 : decode mc_B_tick 41 = .ok (.iconst (-1), 1) := by decide +kernel
theorem md_B_tick_42 : decode mc_B_tick 42 = .ok (.iload_n 3, 1) := by decide +kernel
theorem md_B_tick_43 : decode mc_B_tick 43 = .ok (.invokevirtual 105, 3) := by decide +kernel
theorem md_B_tick_46 : decode mc_B_tick 46 = .ok (.istore 4, 2) := by decide +kernel
theorem md_B_tick_48 : decode mc_B_tick 48 = .ok (.iload 4, 2) := by decide +kernel
theorem md_B_tick_50 : decode mc_B_tick 50 = .ok (.ifCond .lt 34, 3) := by decide +kernel
theorem md_B_tick_53 : decode mc_B_tick 53 = .ok (.aload_n 0, 1) := by decide +kernel
theorem md_B_tick_54 : decode mc_B_tick 54 = .ok (.iload 4, 2) := by decide +kernel
theorem md_B_tick_56 : decode mc_B_tick 56 = .ok (.invokevirtual 112, 3) := by decide +kernel
theorem md_B_tick_59 : decode mc_B_tick 59 = .ok (.istore 5, 2) := by decide +kernel
theorem md_B_tick_61 : decode mc_B_tick 61 = .ok (.iload 5, 2) := by decide +kernel
theorem md_B_tick_63 : decode mc_B_tick 63 = .ok (.bipush 6, 2) := by decide +kernel
theorem md_B_tick_65 : decode mc_B_tick 65 = .ok (.if_icmp .ge 13, 3) := by decide +kernel
theorem md_B_tick_68 : decode mc_B_tick 68 = .ok (.aload_n 0, 1) := by decide +kernel
theorem md_B_tick_69 : decode mc_B_tick 69 = .ok (.iconst 4, 1) := by decide +kernel
theorem md_B_tick_70 : decode mc_B_tick 70 = .ok (.iconst (-1), 1) := by decide +kernel
theorem md_B_tick_71 : decode mc_B_tick 71 = .ok (.iload_n 3, 1) := by decide +kernel
theorem md_B_tick_72 : decode mc_B_tick 72 = .ok (.invokevirtual 105, 3) := by decide +kernel
theorem md_B_tick_75 : decode mc_B_tick 75 = .ok (.goto 4, 3) := by decide +kernel
theorem md_B_tick_78 : decode mc_B_tick 78 = .ok (.iconst (-1), 1) := by decide +kernel
theorem md_B_tick_79 : decode mc_B_tick 79 = .ok (.istore 4, 2) := by decide +kernel
theorem md_B_tick_81 : decode mc_B_tick 81 = .ok (.goto (-33), 3) := by decide +kernel
theorem md_B_tick_84 : decode mc_B_tick 84 = .ok (.aload_n 0, 1) := by decide +kernel
theorem md_B_tick_85 : decode mc_B_tick 85 = .ok (.iconst 3, 1) := by decide +kernel
theorem md_B_tick_86 : decode mc_B_tick 86 = .ok (.iconst (-1), 1) := by decide +kernel
theorem md_B_tick_87 : decode mc_B_tick 87 = .ok (.aload_n 0, 1) := by decide +kernel
theorem md_B_tick_88 : decode mc_B_tick 88 = .ok (.getfield 93, 3) := by decide +kernel
theorem md_B_tick_91 : decode mc_B_tick 91 = .ok (.invokevirtual 105, 3) := by decide +kernel
theorem md_B_tick_94 : decode mc_B_tick 94 = .ok (.istore 4, 2) := by decide +kernel
theorem md_B_tick_96 : decode mc_B_tick 96 = .ok (.iload 4, 2) := by decide +kernel
theorem md_B_tick_98 : decode mc_B_tick 98 = .ok (.ifCond .lt 64, 3) := by decide +kernel
theorem md_B_tick_101 : decode mc_B_tick 101 = .ok (.aload_n 0, 1) := by decide +kernel
theorem md_B_tick_102 : decode mc_B_tick 102 = .ok (.getfield 90, 3) := by decide +kernel
theorem md_B_tick_105 : decode mc_B_tick 105 = .ok (.aload_n 0, 1) := by decide +kernel
theorem md_B_tick_106 : decode mc_B_tick 106 = .ok (.getfield 44, 3) := by decide +kernel
theorem md_B_tick_109 : decode mc_B_tick 109 = .ok (.iload 4, 2) := by decide +kernel
theorem md_B_tick_111 : decode mc_B_tick 111 = .ok (.iaload, 1) := by decide +kernel
theorem md_B_tick_112 : decode mc_B_tick 112 = .ok (.isub, 1) := by decide +kernel
theorem md_B_tick_113 : decode mc_B_tick 113 = .ok (.bipush 50, 2) := by decide +kernel
theorem md_B_tick_115 : decode mc_B_tick 115 = .ok (.if_icmp .le 47, 3) := by decide +kernel
theorem md_B_tick_118 : decode mc_B_tick 118 = .ok (.aload_n 0, 1) := by decide +kernel
theorem md_B_tick_119 : decode mc_B_tick 119 = .ok (.getfield 35, 3) := by decide +kernel
theorem md_B_tick_122 : decode mc_B_tick 122 = .ok (.iload 4, 2) := by decide +kernel
theorem md_B_tick_124 : decode mc_B_tick 124 = .ok (.iconst 5, 1) := by decide +kernel
theorem md_B_tick_125 : decode mc_B_tick 125 = .ok (.iastore, 1) := by decide +kernel
theorem md_B_tick_126 : decode mc_B_tick 126 = .ok (.aload_n 0, 1) := by decide +kernel
theorem md_B_tick_127 : decode mc_B_tick 127 = .ok (.getfield 59, 3) := by decide +kernel
theorem md_B_tick_130 : decode mc_B_tick 130 = .ok (.aload_n 0, 1) := by decide +kernel
theorem md_B_tick_131 : decode mc_B_tick 131 = .ok (.getfield 96, 3) := by decide +kernel
theorem md_B_tick_134 : decode mc_B_tick 134 = .ok (.iload 4, 2) := by decide +kernel
theorem md_B_tick_136 : decode mc_B_tick 136 = .ok (.iastore, 1) := by decide +kernel
theorem md_B_tick_137 : decode mc_B_tick 137 = .ok (.aload_n 0, 1) := by decide +kernel
theorem md_B_tick_138 : decode mc_B_tick 138 = .ok (.dup, 1) := by decide +kernel
theorem md_B_tick_139 : decode mc_B_tick 139 = .ok (.getfield 96, 3) := by decide +kernel
theorem md_B_tick_142 : decode mc_B_tick 142 = .ok (.iconst 1, 1) := by decide +kernel
theorem md_B_tick_143 : decode mc_B_tick 143 = .ok (.iadd, 1) := by decide +kernel
theorem md_B_tick_144 : decode mc_B_tick 144 = .ok (.putfield 96, 3) := by decide +kernel
theorem md_B_tick_147 : decode mc_B_tick 147 = .ok (.aload_n 0, 1) := by decide +kernel
theorem md_B_tick_148 : decode mc_B_tick 148 = .ok (.iconst 3, 1) := by decide +kernel
theorem md_B_tick_149 : decode mc_B_tick 149 = .ok (.iconst (-1), 1) := by decide +kernel
theorem md_B_tick_150 : decode mc_B_tick 150 = .ok (.aload_n 0, 1) := by decide +kernel
theorem md_B_tick_151 : decode mc_B_tick 151 = .ok (.getfield 93, 3) := by decide +kernel
theorem md_B_tick_154 : decode mc_B_tick 154 = .ok (.invokevirtual 105, 3) := by decide +kernel
theorem md_B_tick_157 : decode mc_B_tick 157 = .ok (.istore 4, 2) := by decide +kernel
theorem md_B_tick_159 : decode mc_B_tick 159 = .ok (.goto (-63), 3) := by decide +kernel
theorem md_B_tick_162 : decode mc_B_tick 162 = .ok (.aload_n 0, 1) := by decide +kernel
theorem md_B_tick_163 : decode mc_B_tick 163 = .ok (.getfield 96, 3) := by decide +kernel
theorem md_B_tick_166 : decode mc_B_tick 166 = .ok (.iload_n 2, 1) := by decide +kernel
theorem md_B_tick_167 : decode mc_B_tick 167 = .ok (.isub, 1) := by decide +kernel
theorem md_B_tick_168 : decode mc_B_tick 168 = .ok (.ireturn, 1) := by decide +kernel
theorem md_B_skip_0 : decode mc_B_skip 0 = .ok (.iload_n 1, 1) := by decide +kernel
theorem md_B_skip_1 : decode mc_B_skip 1 = .ok (.invokestatic 118, 3) := by decide +kernel
theorem md_B_skip_4 : decode mc_B_skip 4 = .ok (.ifCond .ne 9, 3) := by decide +kernel
theorem md_B_skip_7 : decode mc_B_skip 7 = .ok (.aload_n 0, 1) := by decide +kernel
theorem md_B_skip_8 : decode mc_B_skip 8 = .ok (.iconst 1, 1) := by decide +kernel
theorem md_B_skip_9 : decode mc_B_skip 9 = .ok (.invokevirtual 124, 3) := by decide +kernel
theorem md_B_skip_12 : decode mc_B_skip 12 = .ok (.ireturn, 1) := by decide +kernel
theorem md_B_skip_13 : decode mc_B_skip 13 = .ok (.aload_n 0, 1) := by decide +kernel
theorem md_B_skip_14 : decode mc_B_skip 14 = .ok (.iconst 0, 1) := by decide +kernel
theorem md_B_skip_15 : decode mc_B_skip 15 = .ok (.putfield 62, 3) := by decide +kernel
theorem md_B_skip_18 : decode mc_B_skip 18 = .ok (.aload_n 0, 1) := by decide +kernel
theorem md_B_skip_19 : decode mc_B_skip 19 = .ok (.iload_n 1, 1) := by decide +kernel
theorem md_B_skip_20 : decode mc_B_skip 20 = .ok (.invokevirtual 109, 3) := by decide +kernel
theorem md_B_skip_23 : decode mc_B_skip 23 = .ok (.istore_n 2, 1) := by decide +kernel
theorem md_B_skip_24 : decode mc_B_skip 24 = .ok (.iconst 0, 1) := by decide +kernel
theorem md_B_skip_25 : decode mc_B_skip 25 = .ok (.istore_n 3, 1) := by decide +kernel
theorem md_B_skip_26 : decode mc_B_skip 26 = .ok (.iload_n 2, 1) := by decide +kernel
theorem md_B_skip_27 : decode mc_B_skip 27 = .ok (.iconst 1, 1) := by decide +kernel
theorem md_B_skip_28 : decode mc_B_skip 28 = .ok (.iadd, 1) := by decide +kernel
theorem md_B_skip_29 : decode mc_B_skip 29 = .ok (.istore 4, 2) := by decide +kernel
theorem md_B_skip_31 : decode mc_B_skip 31 = .ok (.iload 4, 2) := by decide +kernel
theorem md_B_skip_33 : decode mc_B_skip 33 = .ok (.bipush 24, 2) := by decide +kernel
theorem md_B_skip_35 : decode mc_B_skip 35 = .ok (.if_icmp .gt 56, 3) := by decide +kernel
theorem md_B_skip_38 : decode mc_B_skip 38 = .ok (.bipush 24, 2) := by decide +kernel
theorem md_B_skip_40 : decode mc_B_skip 40 = .ok (.iload_n 1, 1) := by decide +kernel
theorem md_B_skip_41 : decode mc_B_skip 41 = .ok (.imul, 1) := by decide +kernel
theorem md_B_skip_42 : decode mc_B_skip 42 = .ok (.iload 4, 2) := by decide +kernel
theorem md_B_skip_44 : decode mc_B_skip 44 = .ok (.iadd, 1) := by decide +kernel
theorem md_B_skip_45 : decode mc_B_skip 45 = .ok (.iconst 1, 1) := by decide +kernel
theorem md_B_skip_46 : decode mc_B_skip 46 = .ok (.isub, 1) := by decide +kernel
theorem md_B_skip_47 : decode mc_B_skip 47 = .ok (.istore 5, 2) := by decide +kernel
theorem md_B_skip_49 : decode mc_B_skip 49 = .ok (.iload_n 3, 1) := by decide +kernel
theorem md_B_skip_50 : decode mc_B_skip 50 = .ok (.ifCond .ne 29, 3) := by decide +kernel
theorem md_B_skip_53 : decode mc_B_skip 53 = .ok (.aload_n 0, 1) := by decide +kernel
theorem md_B_skip_54 : decode mc_B_skip 54 = .ok (.iload 5, 2) := by decide +kernel
theorem md_B_skip_56 : decode mc_B_skip 56 = .ok (.invokevirtual 66, 3) := by decide +kernel
theorem md_B_skip_59 : decode mc_B_skip 59 = .ok (.ifCond .eq 24, 3) := by decide +kernel
theorem md_B_skip_62 : decode mc_B_skip 62 = .ok (.aload_n 0, 1) := by decide +kernel
theorem md_B_skip_63 : decode mc_B_skip 63 = .ok (.getfield 90, 3) := by decide +kernel
theorem md_B_skip_66 : decode mc_B_skip 66 = .ok (.aload_n 0, 1) := by decide +kernel
theorem md_B_skip_67 : decode mc_B_skip 67 = .ok (.getfield 41, 3) := by decide +kernel
theorem md_B_skip_70 : decode mc_B_skip 70 = .ok (.iload 5, 2) := by decide +kernel
theorem md_B_skip_72 : decode mc_B_skip 72 = .ok (.iaload, 1) := by decide +kernel
theorem md_B_skip_73 : decode mc_B_skip 73 = .ok (.isub, 1) := by decide +kernel
theorem md_B_skip_74 : decode mc_B_skip 74 = .ok (.bipush 100, 2) := by decide +kernel
theorem md_B_skip_76 : decode mc_B_skip 76 = .ok (.if_icmp .le 7, 3) := by decide +kernel
theorem md_B_skip_79 : decode mc_B_skip 79 = .ok (.iconst 1, 1) := by decide +kernel
theorem md_B_skip_80 : decode mc_B_skip 80 = .ok (.goto 4, 3) := by decide +kernel
theorem md_B_skip_83 : decode mc_B_skip 83 = .ok (.iconst 0, 1) := by decide +kernel
theorem md_B_skip_84 : decode mc_B_skip 84 = .ok (.istore_n 3, 1) := by decide +kernel
theorem md_B_skip_85 : decode mc_B_skip 85 = .ok (.iinc 4 1, 3) := by decide +kernel
theorem md_B_skip_88 : decode mc_B_skip 88 = .ok (.goto (-57), 3) := by decide +kernel
theorem md_B_skip_91 : decode mc_B_skip 91 = .ok (.iload_n 3, 1) := by decide +kernel
theorem md_B_skip_92 : decode mc_B_skip 92 = .ok (.ifCond .ne 5, 3) := by decide +kernel
theorem md_B_skip_95 : decode mc_B_skip 95 = .ok (.iconst (-1), 1) := by decide +kernel
theorem md_B_skip_96 : decode mc_B_skip 96 = .ok (.ireturn, 1) := by decide +kernel
theorem md_B_skip_97 : decode mc_B_skip 97 = .ok (.aload_n 0, 1) := by decide +kernel
theorem md_B_skip_98 : decode mc_B_skip 98 = .ok (.getfield 23, 3) := by decide +kernel
theorem md_B_skip_101 : decode mc_B_skip 101 = .ok (.bipush 24, 2) := by decide +kernel
theorem md_B_skip_103 : decode mc_B_skip 103 = .ok (.iload_n 1, 1) := by decide +kernel
theorem md_B_skip_104 : decode mc_B_skip 104 = .ok (.imul, 1) := by decide +kernel
theorem md_B_skip_105 : decode mc_B_skip 105 = .ok (.iload_n 2, 1) := by decide +kernel
theorem md_B_skip_106 : decode mc_B_skip 106 = .ok (.iadd, 1) := by decide +kernel
theorem md_B_skip_107 : decode mc_B_skip 107 = .ok (.iconst 1, 1) := by decide +kernel
theorem md_B_skip_108 : decode mc_B_skip 108 = .ok (.isub, 1) := by decide +kernel
theorem md_B_skip_109 : decode mc_B_skip 109 = .ok (.iconst 1, 1) := by decide +kernel
theorem md_B_skip_110 : decode mc_B_skip 110 = .ok (.bastore, 1) := by decide +kernel
theorem md_B_skip_111 : decode mc_B_skip 111 = .ok (.aload_n 0, 1) := by decide +kernel
theorem md_B_skip_112 : decode mc_B_skip 112 = .ok (.iload_n 1, 1) := by decide +kernel
theorem md_B_skip_113 : decode mc_B_skip 113 = .ok (.invokevirtual 115, 3) := by decide +kernel
theorem md_B_skip_116 : decode mc_B_skip 116 = .ok (.iload_n 2, 1) := by decide +kernel
theorem md_B_skip_117 : decode mc_B_skip 117 = .ok (.ireturn, 1) := by decide +kernel
theorem md_B_cut_0 : decode mc_B_cut 0 = .ok (.iload_n 1, 1) := by decide +kernel
theorem md_B_cut_1 : decode mc_B_cut 1 = .ok (.invokestatic 118, 3) := by decide +kernel
theorem md_B_cut_4 : decode mc_B_cut 4 = .ok (.ifCond .ne 9, 3) := by decide +kernel
theorem md_B_cut_7 : decode mc_B_cut 7 = .ok (.aload_n 0, 1) := by decide +kernel
theorem md_B_cut_8 : decode mc_B_cut 8 = .ok (.iconst 1, 1) := by decide +kernel
theorem md_B_cut_9 : decode mc_B_cut 9 = .ok (.invokevirtual 124, 3) := by decide +kernel
theorem md_B_cut_12 : decode mc_B_cut 12 = .ok (.ireturn, 1) := by decide +kernel
theorem md_B_cut_13 : decode mc_B_cut 13 = .ok (.aload_n 0, 1) := by decide +kernel
theorem md_B_cut_14 : decode mc_B_cut 14 = .ok (.iconst 0, 1) := by decide +kernel
theorem md_B_cut_15 : decode mc_B_cut 15 = .ok (.putfield 62, 3) := by decide +kernel
theorem md_B_cut_18 : decode mc_B_cut 18 = .ok (.iconst 0, 1) := by decide +kernel
theorem md_B_cut_19 : decode mc_B_cut 19 = .ok (.istore_n 2, 1) := by decide +kernel
theorem md_B_cut_20 : decode mc_B_cut 20 = .ok (.bipush 24, 2) := by decide +kernel
theorem md_B_cut_22 : decode mc_B_cut 22 = .ok (.iload_n 1, 1) := by decide +kernel
theorem md_B_cut_23 : decode mc_B_cut 23 = .ok (.imul, 1) := by decide +kernel
theorem md_B_cut_24 : decode mc_B_cut 24 = .ok (.istore_n 3, 1) := by decide +kernel
theorem md_B_cut_25 : decode mc_B_cut 25 = .ok (.iload_n 3, 1) := by decide +kernel
theorem md_B_cut_26 : decode mc_B_cut 26 = .ok (.bipush 24, 2) := by decide +kernel
theorem md_B_cut_28 : decode mc_B_cut 28 = .ok (.iload_n 1, 1) := by decide +kernel
theorem md_B_cut_29 : decode mc_B_cut 29 = .ok (.imul, 1) := by decide +kernel
theorem md_B_cut_30 : decode mc_B_cut 30 = .ok (.bipush 24, 2) := by decide +kernel
theorem md_B_cut_32 : decode mc_B_cut 32 = .ok (.iadd, 1) := by decide +kernel
theorem md_B_cut_33 : decode mc_B_cut 33 = .ok (.if_icmp .ge 38, 3) := by decide +kernel
theorem md_B_cut_36 : decode mc_B_cut 36 = .ok (.aload_n 0, 1) := by decide +kernel
theorem md_B_cut_37 : decode mc_B_cut 37 = .ok (.getfield 19, 3) := by decide +kernel
theorem md_B_cut_40 : decode mc_B_cut 40 = .ok (.iload_n 3, 1) := by decide +kernel
theorem md_B_cut_41 : decode mc_B_cut 41 = .ok (.baload, 1) := by decide +kernel
theorem md_B_cut_42 : decode mc_B_cut 42 = .ok (.ifCond .eq 23, 3) := by decide +kernel
theorem md_B_cut_45 : decode mc_B_cut 45 = .ok (.aload_n 0, 1) := by decide +kernel
theorem md_B_cut_46 : decode mc_B_cut 46 = .ok (.getfield 35, 3) := by decide +kernel
theorem md_B_cut_49 : decode mc_B_cut 49 = .ok (.iload_n 3, 1) := by decide +kernel
theorem md_B_cut_50 : decode mc_B_cut 50 = .ok (.iaload, 1) := by decide +kernel
theorem md_B_cut_51 : decode mc_B_cut 51 = .ok (.ifCond .ne 14, 3) := by decide +kernel
theorem md_B_cut_54 : decode mc_B_cut 54 = .ok (.aload_n 0, 1) := by decide +kernel
theorem md_B_cut_55 : decode mc_B_cut 55 = .ok (.getfield 35, 3) := by decide +kernel
theorem md_B_cut_58 : decode mc_B_cut 58 = .ok (.iload_n 3, 1) := by decide +kernel
theorem md_B_cut_59 : decode mc_B_cut 59 = .ok (.bipush 6, 2) := by decide +kernel
theorem md_B_cut_61 : decode mc_B_cut 61 = .ok (.iastore, 1) := by decide +kernel
theorem md_B_cut_62 : decode mc_B_cut 62 = .ok (.iinc 2 1, 3) := by decide +kernel
theorem md_B_cut_65 : decode mc_B_cut 65 = .ok (.iinc 3 1, 3) := by decide +kernel
theorem md_B_cut_68 : decode mc_B_cut 68 = .ok (.goto (-43), 3) := by decide +kernel
theorem md_B_cut_71 : decode mc_B_cut 71 = .ok (.iload_n 2, 1) := by decide +kernel
theorem md_B_cut_72 : decode mc_B_cut 72 = .ok (.ireturn, 1) := by decide +kernel
theorem md_B_replay_0 : decode mc_B_replay 0 = .ok (.iload_n 1, 1) := by decide +kernel
theorem md_B_replay_1 : decode mc_B_replay 1 = .ok (.invokestatic 118, 3) := by decide +kernel
theorem md_B_replay_4 : decode mc_B_replay 4 = .ok (.ifCond .eq 10, 3) := by decide +kernel
theorem md_B_replay_7 : decode mc_B_replay 7 = .ok (.iload_n 2, 1) := by decide +kernel
theorem md_B_replay_8 : decode mc_B_replay 8 = .ok (.invokestatic 121, 3) := by decide +kernel
theorem md_B_replay_11 : decode mc_B_replay 11 = .ok (.ifCond .ne 9, 3) := by decide +kernel
theorem md_B_replay_14 : decode mc_B_replay 14 = .ok (.aload_n 0, 1) := by decide +kernel
theorem md_B_replay_15 : decode mc_B_replay 15 = .ok (.iconst 1, 1) := by decide +kernel
theorem md_B_replay_16 : decode mc_B_replay 16 = .ok (.invokevirtual 124, 3) := by decide +kernel
theorem md_B_replay_19 : decode mc_B_replay 19 = .ok (.ireturn, 1) := by decide +kernel
theorem md_B_replay_20 : decode mc_B_replay 20 = .ok (.aload_n 0, 1) := by decide +kernel
theorem md_B_replay_21 : decode mc_B_replay 21 = .ok (.iconst 0, 1) := by decide +kernel
theorem md_B_replay_22 : decode mc_B_replay 22 = .ok (.putfield 62, 3) := by decide +kernel
theorem md_B_replay_25 : decode mc_B_replay 25 = .ok (.iconst 0, 1) := by decide +kernel
theorem md_B_replay_26 : decode mc_B_replay 26 = .ok (.istore_n 3, 1) := by decide +kernel
theorem md_B_replay_27 : decode mc_B_replay 27 = .ok (.iload_n 2, 1) := by decide +kernel
theorem md_B_replay_28 : decode mc_B_replay 28 = .ok (.istore 4, 2) := by decide +kernel
theorem md_B_replay_30 : decode mc_B_replay 30 = .ok (.iload 4, 2) := by decide +kernel
theorem md_B_replay_32 : decode mc_B_replay 32 = .ok (.bipush 24, 2) := by decide +kernel
theorem md_B_replay_34 : decode mc_B_replay 34 = .ok (.if_icmp .gt 75, 3) := by decide +kernel
theorem md_B_replay_37 : decode mc_B_replay 37 = .ok (.bipush 24, 2) := by decide +kernel
theorem md_B_replay_39 : decode mc_B_replay 39 = .ok (.iload_n 1, 1) := by decide +kernel
theorem md_B_replay_40 : decode mc_B_replay 40 = .ok (.imul, 1) := by decide +kernel
theorem md_B_replay_41 : decode mc_B_replay 41 = .ok (.iload 4, 2) := by decide +kernel
theorem md_B_replay_43 : decode mc_B_replay 43 = .ok (.iadd, 1) := by decide +kernel
theorem md_B_replay_44 : decode mc_B_replay 44 = .ok (.iconst 1, 1) := by decide +kernel
theorem md_B_replay_45 : decode mc_B_replay 45 = .ok (.isub, 1) := by decide +kernel
theorem md_B_replay_46 : decode mc_B_replay 46 = .ok (.istore 5, 2) := by decide +kernel
theorem md_B_replay_48 : decode mc_B_replay 48 = .ok (.aload_n 0, 1) := by decide +kernel
theorem md_B_replay_49 : decode mc_B_replay 49 = .ok (.getfield 19, 3) := by decide +kernel
theorem md_B_replay_52 : decode mc_B_replay 52 = .ok (.iload 5, 2) := by decide +kernel
theorem md_B_replay_54 : decode mc_B_replay 54 = .ok (.baload, 1) := by decide +kernel
theorem md_B_replay_55 : decode mc_B_replay 55 = .ok (.ifCond .eq 48, 3) := by decide +kernel
theorem md_B_replay_58 : decode mc_B_replay 58 = .ok (.aload_n 0, 1) := by decide +kernel
theorem md_B_replay_59 : decode mc_B_replay 59 = .ok (.getfield 35, 3) := by decide +kernel
theorem md_B_replay_62 : decode mc_B_replay 62 = .ok (.iload 5, 2) := by decide +kernel
theorem md_B_replay_64 : decode mc_B_replay 64 = .ok (.iaload, 1) := by decide +kernel
theorem md_B_replay_65 : decode mc_B_replay 65 = .ok (.bipush 6, 2) := by decide +kernel
theorem md_B_replay_67 : decode mc_B_replay 67 = .ok (.if_icmp .ne 36, 3) := by decide +kernel
theorem md_B_replay_70 : decode mc_B_replay 70 = .ok (.aload_n 0, 1) := by decide +kernel
theorem md_B_replay_71 : decode mc_B_replay 71 = .ok (.getfield 23, 3) := by decide +kernel
theorem md_B_replay_74 : decode mc_B_replay 74 = .ok (.iload 5, 2) := by decide +kernel
theorem md_B_replay_76 : decode mc_B_replay 76 = .ok (.baload, 1) := by decide +kernel
theorem md_B_replay_77 : decode mc_B_replay 77 = .ok (.ifCond .ne 26, 3) := by decide +kernel
theorem md_B_replay_80 : decode mc_B_replay 80 = .ok (.aload_n 0, 1) := by decide +kernel
theorem md_B_replay_81 : decode mc_B_replay 81 = .ok (.iload 5, 2) := by decide +kernel
theorem md_B_replay_83 : decode mc_B_replay 83 = .ok (.invokevirtual 130, 3) := by decide +kernel
theorem md_B_replay_86 : decode mc_B_replay 86 = .ok (.istore 6, 2) := by decide +kernel
theorem md_B_replay_88 : decode mc_B_replay 88 = .ok (.iload_n 3, 1) := by decide +kernel
theorem md_B_replay_89 : decode mc_B_replay 89 = .ok (.iload 6, 2) := by decide +kernel
theorem md_B_replay_91 : decode mc_B_replay 91 = .ok (.bipush 6, 2) := by decide +kernel
theorem md_B_replay_93 : decode mc_B_replay 93 = .ok (.if_icmp .ge 7, 3) := by decide +kernel
theorem md_B_replay_96 : decode mc_B_replay 96 = .ok (.iconst 1, 1) := by decide +kernel
theorem md_B_replay_97 : decode mc_B_replay 97 = .ok (.goto 4, 3) := by decide +kernel
theorem md_B_replay_100 : decode mc_B_replay 100 = .ok (.iconst 0, 1) := by decide +kernel
theorem md_B_replay_101 : decode mc_B_replay 101 = .ok (.iadd, 1) := by decide +kernel
theorem md_B_replay_102 : decode mc_B_replay 102 = .ok (.istore_n 3, 1) := by decide +kernel
theorem md_B_replay_103 : decode mc_B_replay 103 = .ok (.iinc 4 1, 3) := by decide +kernel
theorem md_B_replay_106 : decode mc_B_replay 106 = .ok (.goto (-76), 3) := by decide +kernel
theorem md_B_replay_109 : decode mc_B_replay 109 = .ok (.iload_n 3, 1) := by decide +kernel
theorem md_B_replay_110 : decode mc_B_replay 110 = .ok (.ireturn, 1) := by decide +kernel
theorem md_B_look_0 : decode mc_B_look 0 = .ok (.iload_n 1, 1) := by decide +kernel
theorem md_B_look_1 : decode mc_B_look 1 = .ok (.iconst 0, 1) := by decide +kernel
theorem md_B_look_2 : decode mc_B_look 2 = .ok (.bipush 15, 2) := by decide +kernel
theorem md_B_look_4 : decode mc_B_look 4 = .ok (.invokestatic 76, 3) := by decide +kernel
theorem md_B_look_7 : decode mc_B_look 7 = .ok (.ifCond .eq 12, 3) := by decide +kernel
theorem md_B_look_10 : decode mc_B_look 10 = .ok (.iload_n 2, 1) := by decide +kernel
theorem md_B_look_11 : decode mc_B_look 11 = .ok (.iconst 0, 1) := by decide +kernel
theorem md_B_look_12 : decode mc_B_look 12 = .ok (.iconst 3, 1) := by decide +kernel
theorem md_B_look_13 : decode mc_B_look 13 = .ok (.invokestatic 76, 3) := by decide +kernel
theorem md_B_look_16 : decode mc_B_look 16 = .ok (.ifCond .ne 9, 3) := by decide +kernel
theorem md_B_look_19 : decode mc_B_look 19 = .ok (.aload_n 0, 1) := by decide +kernel
theorem md_B_look_20 : decode mc_B_look 20 = .ok (.iconst 1, 1) := by decide +kernel
theorem md_B_look_21 : decode mc_B_look 21 = .ok (.invokevirtual 124, 3) := by decide +kernel
theorem md_B_look_24 : decode mc_B_look 24 = .ok (.ireturn, 1) := by decide +kernel
theorem md_B_look_25 : decode mc_B_look 25 = .ok (.aload_n 0, 1) := by decide +kernel
theorem md_B_look_26 : decode mc_B_look 26 = .ok (.iconst 0, 1) := by decide +kernel
theorem md_B_look_27 : decode mc_B_look 27 = .ok (.putfield 62, 3) := by decide +kernel
theorem md_B_look_30 : decode mc_B_look 30 = .ok (.iconst 0, 1) := by decide +kernel
theorem md_B_look_31 : decode mc_B_look 31 = .ok (.istore_n 3, 1) := by decide +kernel
theorem md_B_look_32 : decode mc_B_look 32 = .ok (.iconst 0, 1) := by decide +kernel
theorem md_B_look_33 : decode mc_B_look 33 = .ok (.istore 4, 2) := by decide +kernel
theorem md_B_look_35 : decode mc_B_look 35 = .ok (.iload 4, 2) := by decide +kernel
theorem md_B_look_37 : decode mc_B_look 37 = .ok (.bipush 96, 2) := by decide +kernel
theorem md_B_look_39 : decode mc_B_look 39 = .ok (.if_icmp .ge 49, 3) := by decide +kernel
theorem md_B_look_42 : decode mc_B_look 42 = .ok (.iload_n 3, 1) := by decide +kernel
theorem md_B_look_43 : decode mc_B_look 43 = .ok (.aload_n 0, 1) := by decide +kernel
theorem md_B_look_44 : decode mc_B_look 44 = .ok (.getfield 19, 3) := by decide +kernel
theorem md_B_look_47 : decode mc_B_look 47 = .ok (.iload 4, 2) := by decide +kernel
theorem md_B_look_49 : decode mc_B_look 49 = .ok (.baload, 1) := by decide +kernel
theorem md_B_look_50 : decode mc_B_look 50 = .ok (.ifCond .eq 29, 3) := by decide +kernel
theorem md_B_look_53 : decode mc_B_look 53 = .ok (.aload_n 0, 1) := by decide +kernel
theorem md_B_look_54 : decode mc_B_look 54 = .ok (.getfield 35, 3) := by decide +kernel
theorem md_B_look_57 : decode mc_B_look 57 = .ok (.iload 4, 2) := by decide +kernel
theorem md_B_look_59 : decode mc_B_look 59 = .ok (.iaload, 1) := by decide +kernel
theorem md_B_look_60 : decode mc_B_look 60 = .ok (.iconst 3, 1) := by decide +kernel
theorem md_B_look_61 : decode mc_B_look 61 = .ok (.if_icmp .ne 18, 3) := by decide +kernel
theorem md_B_look_64 : decode mc_B_look 64 = .ok (.aload_n 0, 1) := by decide +kernel
theorem md_B_look_65 : decode mc_B_look 65 = .ok (.getfield 29, 3) := by decide +kernel
theorem md_B_look_68 : decode mc_B_look 68 = .ok (.iload 4, 2) := by decide +kernel
theorem md_B_look_70 : decode mc_B_look 70 = .ok (.iaload, 1) := by decide +kernel
theorem md_B_look_71 : decode mc_B_look 71 = .ok (.iload_n 1, 1) := by decide +kernel
theorem md_B_look_72 : decode mc_B_look 72 = .ok (.if_icmp .ne 7, 3) := by decide +kernel
theorem md_B_look_75 : decode mc_B_look 75 = .ok (.iconst 1, 1) := by decide +kernel
theorem md_B_look_76 : decode mc_B_look 76 = .ok (.goto 4, 3) := by decide +kernel
theorem md_B_look_79 : decode mc_B_look 79 = .ok (.iconst 0, 1) := by decide +kernel
theorem md_B_look_80 : decode mc_B_look 80 = .ok (.iadd, 1) := by decide +kernel
theorem md_B_look_81 : decode mc_B_look 81 = .ok (.istore_n 3, 1) := by decide +kernel
theorem md_B_look_82 : decode mc_B_look 82 = .ok (.iinc 4 1, 3) := by decide +kernel
theorem md_B_look_85 : decode mc_B_look 85 = .ok (.goto (-50), 3) := by decide +kernel
theorem md_B_look_88 : decode mc_B_look 88 = .ok (.iload_n 2, 1) := by decide +kernel
theorem md_B_look_89 : decode mc_B_look 89 = .ok (.ifCond .ne 12, 3) := by decide +kernel
theorem md_B_look_92 : decode mc_B_look 92 = .ok (.aload_n 0, 1) := by decide +kernel
theorem md_B_look_93 : decode mc_B_look 93 = .ok (.getfield 7, 3) := by decide +kernel
theorem md_B_look_96 : decode mc_B_look 96 = .ok (.iload_n 1, 1) := by decide +kernel
theorem md_B_look_97 : decode mc_B_look 97 = .ok (.iaload, 1) := by decide +kernel
theorem md_B_look_98 : decode mc_B_look 98 = .ok (.goto 32, 3) := by decide +kernel
theorem md_B_look_101 : decode mc_B_look 101 = .ok (.iload_n 2, 1) := by decide +kernel
theorem md_B_look_102 : decode mc_B_look 102 = .ok (.iconst 1, 1) := by decide +kernel
theorem md_B_look_103 : decode mc_B_look 103 = .ok (.if_icmp .ne 12, 3) := by decide +kernel
theorem md_B_look_106 : decode mc_B_look 106 = .ok (.aload_n 0, 1) := by decide +kernel
theorem md_B_look_107 : decode mc_B_look 107 = .ok (.getfield 13, 3) := by decide +kernel
theorem md_B_look_110 : decode mc_B_look 110 = .ok (.iload_n 1, 1) := by decide +kernel
theorem md_B_look_111 : decode mc_B_look 111 = .ok (.iaload, 1) := by decide +kernel
theorem md_B_look_112 : decode mc_B_look 112 = .ok (.goto 18, 3) := by decide +kernel
theorem md_B_look_115 : decode mc_B_look 115 = .ok (.iload_n 2, 1) := by decide +kernel
theorem md_B_look_116 : decode mc_B_look 116 = .ok (.iconst 2, 1) := by decide +kernel
theorem md_B_look_117 : decode mc_B_look 117 = .ok (.if_icmp .ne 12, 3) := by decide +kernel
theorem md_B_look_120 : decode mc_B_look 120 = .ok (.aload_n 0, 1) := by decide +kernel
theorem md_B_look_121 : decode mc_B_look 121 = .ok (.getfield 16, 3) := by decide +kernel
theorem md_B_look_124 : decode mc_B_look 124 = .ok (.iload_n 1, 1) := by decide +kernel
theorem md_B_look_125 : decode mc_B_look 125 = .ok (.iaload, 1) := by decide +kernel
theorem md_B_look_126 : decode mc_B_look 126 = .ok (.goto 4, 3) := by decide +kernel
theorem md_B_look_129 : decode mc_B_look 129 = .ok (.iload_n 3, 1) := by decide +kernel
theorem md_B_look_130 : decode mc_B_look 130 = .ok (.ireturn, 1) := by decide +kernel
theorem md_B_name_0 : decode mc_B_name 0 = .ok (.sipush 1000, 3) := by decide +kernel
theorem md_B_name_3 : decode mc_B_name 3 = .ok (.iload_n 0, 1) := by decide +kernel
theorem md_B_name_4 : decode mc_B_name 4 = .ok (.bipush 24, 2) := by decide +kernel
theorem md_B_name_6 : decode mc_B_name 6 = .ok (.idiv, 1) := by decide +kernel
theorem md_B_name_7 : decode mc_B_name 7 = .ok (.imul, 1) := by decide +kernel
theorem md_B_name_8 : decode mc_B_name 8 = .ok (.iload_n 0, 1) := by decide +kernel
theorem md_B_name_9 : decode mc_B_name 9 = .ok (.bipush 24, 2) := by decide +kernel
theorem md_B_name_11 : decode mc_B_name 11 = .ok (.irem, 1) := by decide +kernel
theorem md_B_name_12 : decode mc_B_name 12 = .ok (.iadd, 1) := by decide +kernel
theorem md_B_name_13 : decode mc_B_name 13 = .ok (.iconst 1, 1) := by decide +kernel
theorem md_B_name_14 : decode mc_B_name 14 = .ok (.iadd, 1) := by decide +kernel
theorem md_B_name_15 : decode mc_B_name 15 = .ok (.ireturn, 1) := by decide +kernel
theorem md_B_act_0 : decode mc_B_act 0 = .ok (.aload_n 0, 1) := by decide +kernel
theorem md_B_act_1 : decode mc_B_act 1 = .ok (.iconst 0, 1) := by decide +kernel
theorem md_B_act_2 : decode mc_B_act 2 = .ok (.putfield 62, 3) := by decide +kernel
theorem md_B_act_5 : decode mc_B_act 5 = .ok (.iload_n 1, 1) := by decide +kernel
theorem md_B_act_6 : decode mc_B_act 6 = .ok (.ifCond .lt 23, 3) := by decide +kernel
theorem md_B_act_9 : decode mc_B_act 9 = .ok (.iload_n 1, 1) := by decide +kernel
theorem md_B_act_10 : decode mc_B_act 10 = .ok (.aload_n 0, 1) := by decide +kernel
theorem md_B_act_11 : decode mc_B_act 11 = .ok (.getfield 80, 3) := by decide +kernel
theorem md_B_act_14 : decode mc_B_act 14 = .ok (.if_icmp .ge 15, 3) := by decide +kernel
theorem md_B_act_17 : decode mc_B_act 17 = .ok (.aload_n 0, 1) := by decide +kernel
theorem md_B_act_18 : decode mc_B_act 18 = .ok (.getfield 56, 3) := by decide +kernel
theorem md_B_act_21 : decode mc_B_act 21 = .ok (.iload_n 1, 1) := by decide +kernel
theorem md_B_act_22 : decode mc_B_act 22 = .ok (.iaload, 1) := by decide +kernel
theorem md_B_act_23 : decode mc_B_act 23 = .ok (.invokestatic 138, 3) := by decide +kernel
theorem md_B_act_26 : decode mc_B_act 26 = .ok (.goto 4, 3) := by decide +kernel
theorem md_B_act_29 : decode mc_B_act 29 = .ok (.iconst (-1), 1) := by decide +kernel
theorem md_B_act_30 : decode mc_B_act 30 = .ok (.ireturn, 1) := by decide +kernel
theorem md_B_dead_0 : decode mc_B_dead 0 = .ok (.aload_n 0, 1) := by decide +kernel
theorem md_B_dead_1 : decode mc_B_dead 1 = .ok (.iconst 0, 1) := by decide +kernel
theorem md_B_dead_2 : decode mc_B_dead 2 = .ok (.putfield 62, 3) := by decide +kernel
theorem md_B_dead_5 : decode mc_B_dead 5 = .ok (.iload_n 1, 1) := by decide +kernel
theorem md_B_dead_6 : decode mc_B_dead 6 = .ok (.ifCond .lt 23, 3) := by decide +kernel
theorem md_B_dead_9 : decode mc_B_dead 9 = .ok (.iload_n 1, 1) := by decide +kernel
theorem md_B_dead_10 : decode mc_B_dead 10 = .ok (.aload_n 0, 1) := by decide +kernel
theorem md_B_dead_11 : decode mc_B_dead 11 = .ok (.getfield 96, 3) := by decide +kernel
theorem md_B_dead_14 : decode mc_B_dead 14 = .ok (.if_icmp .ge 15, 3) := by decide +kernel
theorem md_B_dead_17 : decode mc_B_dead 17 = .ok (.aload_n 0, 1) := by decide +kernel
theorem md_B_dead_18 : decode mc_B_dead 18 = .ok (.getfield 59, 3) := by decide +kernel
theorem md_B_dead_21 : decode mc_B_dead 21 = .ok (.iload_n 1, 1) := by decide +kernel
theorem md_B_dead_22 : decode mc_B_dead 22 = .ok (.iaload, 1) := by decide +kernel
theorem md_B_dead_23 : decode mc_B_dead 23 = .ok (.invokestatic 138, 3) := by decide +kernel
theorem md_B_dead_26 : decode mc_B_dead 26 = .ok (.goto 4, 3) := by decide +kernel
theorem md_B_dead_29 : decode mc_B_dead 29 = .ok (.iconst (-1), 1) := by decide +kernel
theorem md_B_dead_30 : decode mc_B_dead 30 = .ok (.ireturn, 1) := by decide +kernel
theorem md_B_of_0 : decode mc_B_of 0 = .ok (.aload_n 0, 1) := by decide +kernel
theorem md_B_of_1 : decode mc_B_of 1 = .ok (.iconst 0, 1) := by decide +kernel
theorem md_B_of_2 : decode mc_B_of 2 = .ok (.putfield 62, 3) := by decide +kernel
theorem md_B_of_5 : decode mc_B_of 5 = .ok (.iload_n 1, 1) := by decide +kernel
theorem md_B_of_6 : decode mc_B_of 6 = .ok (.invokestatic 118, 3) := by decide +kernel
theorem md_B_of_9 : decode mc_B_of 9 = .ok (.ifCond .eq 12, 3) := by decide +kernel
theorem md_B_of_12 : decode mc_B_of 12 = .ok (.iload_n 2, 1) := by decide +kernel
theorem md_B_of_13 : decode mc_B_of 13 = .ok (.iconst 0, 1) := by decide +kernel
theorem md_B_of_14 : decode mc_B_of 14 = .ok (.iconst 3, 1) := by decide +kernel
theorem md_B_of_15 : decode mc_B_of 15 = .ok (.invokestatic 76, 3) := by decide +kernel
theorem md_B_of_18 : decode mc_B_of 18 = .ok (.ifCond .ne 5, 3) := by decide +kernel
theorem md_B_of_21 : decode mc_B_of 21 = .ok (.iconst (-1), 1) := by decide +kernel
theorem md_B_of_22 : decode mc_B_of 22 = .ok (.ireturn, 1) := by decide +kernel
theorem md_B_of_23 : decode mc_B_of 23 = .ok (.iconst 0, 1) := by decide +kernel
theorem md_B_of_24 : decode mc_B_of 24 = .ok (.istore_n 3, 1) := by decide +kernel
theorem md_B_of_25 : decode mc_B_of 25 = .ok (.iconst 0, 1) := by decide +kernel
theorem md_B_of_26 : decode mc_B_of 26 = .ok (.istore 4, 2) := by decide +kernel
theorem md_B_of_28 : decode mc_B_of 28 = .ok (.iconst 0, 1) := by decide +kernel
theorem md_B_of_29 : decode mc_B_of 29 = .ok (.istore 5, 2) := by decide +kernel
theorem md_B_of_31 : decode mc_B_of 31 = .ok (.iconst 1, 1) := by decide +kernel
theorem md_B_of_32 : decode mc_B_of 32 = .ok (.istore 6, 2) := by decide +kernel
theorem md_B_of_34 : decode mc_B_of 34 = .ok (.iload 6, 2) := by decide +kernel
theorem md_B_of_36 : decode mc_B_of 36 = .ok (.bipush 24, 2) := by decide +kernel
theorem md_B_of_38 : decode mc_B_of 38 = .ok (.if_icmp .gt 98, 3) := by decide +kernel
theorem md_B_of_41 : decode mc_B_of 41 = .ok (.bipush 24, 2) := by decide +kernel
theorem md_B_of_43 : decode mc_B_of 43 = .ok (.iload_n 1, 1) := by decide +kernel
theorem md_B_of_44 : decode mc_B_of 44 = .ok (.imul, 1) := by decide +kernel
theorem md_B_of_45 : decode mc_B_of 45 = .ok (.iload 6, 2) := by decide +kernel
theorem md_B_of_47 : decode mc_B_of 47 = .ok (.iadd, 1) := by decide +kernel
theorem md_B_of_48 : decode mc_B_of 48 = .ok (.iconst 1, 1) := by decide +kernel
theorem md_B_of_49 : decode mc_B_of 49 = .ok (.isub, 1) := by decide +kernel
theorem md_B_of_50 : decode mc_B_of 50 = .ok (.istore 7, 2) := by decide +kernel
theorem md_B_of_52 : decode mc_B_of 52 = .ok (.iload_n 3, 1) := by decide +kernel
theorem md_B_of_53 : decode mc_B_of 53 = .ok (.aload_n 0, 1) := by decide +kernel
theorem md_B_of_54 : decode mc_B_of 54 = .ok (.getfield 19, 3) := by decide +kernel
theorem md_B_of_57 : decode mc_B_of 57 = .ok (.iload 7, 2) := by decide +kernel
theorem md_B_of_59 : decode mc_B_of 59 = .ok (.baload, 1) := by decide +kernel
theorem md_B_of_60 : decode mc_B_of 60 = .ok (.ifCond .eq 17, 3) := by decide +kernel
theorem md_B_of_63 : decode mc_B_of 63 = .ok (.aload_n 0, 1) := by decide +kernel
theorem md_B_of_64 : decode mc_B_of 64 = .ok (.getfield 35, 3) := by decide +kernel
theorem md_B_of_67 : decode mc_B_of 67 = .ok (.iload 7, 2) := by decide +kernel
theorem md_B_of_69 : decode mc_B_of 69 = .ok (.iaload, 1) := by decide +kernel
theorem md_B_of_70 : decode mc_B_of 70 = .ok (.ifCond .ne 7, 3) := by decide +kernel
theorem md_B_of_73 : decode mc_B_of 73 = .ok (.iconst 1, 1) := by decide +kernel
theorem md_B_of_74 : decode mc_B_of 74 = .ok (.goto 4, 3) := by decide +kernel
theorem md_B_of_77 : decode mc_B_of 77 = .ok (.iconst 0, 1) := by decide +kernel
theorem md_B_of_78 : decode mc_B_of 78 = .ok (.iadd, 1) := by decide +kernel
theorem md_B_of_79 : decode mc_B_of 79 = .ok (.istore_n 3, 1) := by decide +kernel
theorem md_B_of_80 : decode mc_B_of 80 = .ok (.iload 4, 2) := by decide +kernel
theorem md_B_of_82 : decode mc_B_of 82 = .ok (.aload_n 0, 1) := by decide +kernel
theorem md_B_of_83 : decode mc_B_of 83 = .ok (.getfield 19, 3) := by decide +kernel
theorem md_B_of_86 : decode mc_B_of 86 = .ok (.iload 7, 2) := by decide +kernel
theorem md_B_of_88 : decode mc_B_of 88 = .ok (.baload, 1) := by decide +kernel
theorem md_B_of_89 : decode mc_B_of 89 = .ok (.ifCond .eq 19, 3) := by decide +kernel
theorem md_B_of_92 : decode mc_B_of 92 = .ok (.aload_n 0, 1) := by decide +kernel
theorem md_B_of_93 : decode mc_B_of 93 = .ok (.getfield 35, 3) := by decide +kernel
theorem md_B_of_96 : decode mc_B_of 96 = .ok (.iload 7, 2) := by decide +kernel
theorem md_B_of_98 : decode mc_B_of 98 = .ok (.iaload, 1) := by decide +kernel
theorem md_B_of_99 : decode mc_B_of 99 = .ok (.bipush 6, 2) := by decide +kernel
theorem md_B_of_101 : decode mc_B_of 101 = .ok (.if_icmp .ne 7, 3) := by decide +kernel
theorem md_B_of_104 : decode mc_B_of 104 = .ok (.iconst 1, 1) := by decide +kernel
theorem md_B_of_105 : decode mc_B_of 105 = .ok (.goto 4, 3) := by decide +kernel
theorem md_B_of_108 : decode mc_B_of 108 = .ok (.iconst 0, 1) := by decide +kernel
theorem md_B_of_109 : decode mc_B_of 109 = .ok (.iadd, 1) := by decide +kernel
theorem md_B_of_110 : decode mc_B_of 110 = .ok (.istore 4, 2) := by decide +kernel
theorem md_B_of_112 : decode mc_B_of 112 = .ok (.aload_n 0, 1) := by decide +kernel
theorem md_B_of_113 : decode mc_B_of 113 = .ok (.iload 7, 2) := by decide +kernel
theorem md_B_of_115 : decode mc_B_of 115 = .ok (.invokevirtual 66, 3) := by decide +kernel
theorem md_B_of_118 : decode mc_B_of 118 = .ok (.ifCond .eq 8, 3) := by decide +kernel
theorem md_B_of_121 : decode mc_B_of 121 = .ok (.iload 6, 2) := by decide +kernel
theorem md_B_of_123 : decode mc_B_of 123 = .ok (.goto 5, 3) := by decide +kernel
theorem md_B_of_126 : decode mc_B_of 126 = .ok (.iload 5, 2) := by decide +kernel
theorem md_B_of_128 : decode mc_B_of 128 = .ok (.istore 5, 2) := by decide +kernel
theorem md_B_of_130 : decode mc_B_of 130 = .ok (.iinc 6 1, 3) := by decide +kernel
theorem md_B_of_133 : decode mc_B_of 133 = .ok (.goto (-99), 3) := by decide +kernel
theorem md_B_of_136 : decode mc_B_of 136 = .ok (.iload_n 2, 1) := by decide +kernel
theorem md_B_of_137 : decode mc_B_of 137 = .ok (.ifCond .ne 11, 3) := by decide +kernel
theorem md_B_of_140 : decode mc_B_of 140 = .ok (.aload_n 0, 1) := by decide +kernel
theorem md_B_of_141 : decode mc_B_of 141 = .ok (.iload_n 1, 1) := by decide +kernel
theorem md_B_of_142 : decode mc_B_of 142 = .ok (.invokevirtual 109, 3) := by decide +kernel
theorem md_B_of_145 : decode mc_B_of 145 = .ok (.goto 24, 3) := by decide +kernel
theorem md_B_of_148 : decode mc_B_of 148 = .ok (.iload_n 2, 1) := by decide +kernel
theorem md_B_of_149 : decode mc_B_of 149 = .ok (.iconst 1, 1) := by decide +kernel
theorem md_B_of_150 : decode mc_B_of 150 = .ok (.if_icmp .ne 7, 3) := by decide +kernel
theorem md_B_of_153 : decode mc_B_of 153 = .ok (.iload_n 3, 1) := by decide +kernel
theorem md_B_of_154 : decode mc_B_of 154 = .ok (.goto 15, 3) := by decide +kernel
theorem md_B_of_157 : decode mc_B_of 157 = .ok (.iload_n 2, 1) := by decide +kernel
theorem md_B_of_158 : decode mc_B_of 158 = .ok (.iconst 2, 1) := by decide +kernel
theorem md_B_of_159 : decode mc_B_of 159 = .ok (.if_icmp .ne 8, 3) := by decide +kernel
theorem md_B_of_162 : decode mc_B_of 162 = .ok (.iload 4, 2) := by decide +kernel
theorem md_B_of_164 : decode mc_B_of 164 = .ok (.goto 5, 3) := by decide +kernel
theorem md_B_of_167 : decode mc_B_of 167 = .ok (.iload 5, 2) := by decide +kernel
theorem md_B_of_169 : decode mc_B_of 169 = .ok (.ireturn, 1) := by decide +kernel
theorem md_B_count_0 : decode mc_B_count 0 = .ok (.aload_n 0, 1) := by decide +kernel
theorem md_B_count_1 : decode mc_B_count 1 = .ok (.iconst 0, 1) := by decide +kernel
theorem md_B_count_2 : decode mc_B_count 2 = .ok (.putfield 62, 3) := by decide +kernel
theorem md_B_count_5 : decode mc_B_count 5 = .ok (.iload_n 1, 1) := by decide +kernel
theorem md_B_count_6 : decode mc_B_count 6 = .ok (.tableswitch 70 0 5 #[38, 43, 48, 53, 58, 64], 38) := by decide +kernel
theorem md_B_count_44 : decode mc_B_count 44 = .ok (.aload_n 0, 1) := by decide +kernel
theorem md_B_count_45 : decode mc_B_count 45 = .ok (.getfield 80, 3) := by decide +kernel
theorem md_B_count_48 : decode mc_B_count 48 = .ok (.ireturn, 1) := by decide +kernel
theorem md_B_count_49 : decode mc_B_count 49 = .ok (.aload_n 0, 1) := by decide +kernel
theorem md_B_count_50 : decode mc_B_count 50 = .ok (.getfield 96, 3) := by decide +kernel
theorem md_B_count_53 : decode mc_B_count 53 = .ok (.ireturn, 1) := by decide +kernel
theorem md_B_count_54 : decode mc_B_count 54 = .ok (.aload_n 0, 1) := by decide +kernel
theorem md_B_count_55 : decode mc_B_count 55 = .ok (.getfield 90, 3) := by decide +kernel
theorem md_B_count_58 : decode mc_B_count 58 = .ok (.ireturn, 1) := by decide +kernel
theorem md_B_count_59 : decode mc_B_count 59 = .ok (.aload_n 0, 1) := by decide +kernel
theorem md_B_count_60 : decode mc_B_count 60 = .ok (.getfield 127, 3) := by decide +kernel
theorem md_B_count_63 : decode mc_B_count 63 = .ok (.ireturn, 1) := by decide +kernel
theorem md_B_count_64 : decode mc_B_count 64 = .ok (.aload_n 0, 1) := by decide +kernel
theorem md_B_count_65 : decode mc_B_count 65 = .ok (.iconst 3, 1) := by decide +kernel
theorem md_B_count_66 : decode mc_B_count 66 = .ok (.invokevirtual 70, 3) := by decide +kernel
theorem md_B_count_69 : decode mc_B_count 69 = .ok (.ireturn, 1) := by decide +kernel
theorem md_B_count_70 : decode mc_B_count 70 = .ok (.aload_n 0, 1) := by decide +kernel
theorem md_B_count_71 : decode mc_B_count 71 = .ok (.iconst 4, 1) := by decide +kernel
theorem md_B_count_72 : decode mc_B_count 72 = .ok (.invokevirtual 70, 3) := by decide +kernel
theorem md_B_count_75 : decode mc_B_count 75 = .ok (.ireturn, 1) := by decide +kernel
theorem md_B_count_76 : decode mc_B_count 76 = .ok (.iconst (-1), 1) := by decide +kernel
theorem md_B_count_77 : decode mc_B_count 77 = .ok (.ireturn, 1) := by decide +kernel
end
section
theorem md_W_receive_0 : decode mc_W_receive 0 = .ok (.aload 6, 2) := by decide +kernel
theorem md_W_receive_2 : decode mc_W_receive 2 = .ok (.iconst 0, 1) := by decide +kernel
theorem md_W_receive_3 : decode mc_W_receive 3 = .ok (.aload_n 0, 1) := by decide +kernel
theorem md_W_receive_4 : decode mc_W_receive 4 = .ok (.iload_n 1, 1) := by decide +kernel
theorem md_W_receive_5 : decode mc_W_receive 5 = .ok (.iload_n 2, 1) := by decide +kernel
theorem md_W_receive_6 : decode mc_W_receive 6 = .ok (.iload_n 3, 1) := by decide +kernel
theorem md_W_receive_7 : decode mc_W_receive 7 = .ok (.iload 4, 2) := by decide +kernel
theorem md_W_receive_9 : decode mc_W_receive 9 = .ok (.iload 5, 2) := by decide +kernel
theorem md_W_receive_11 : decode mc_W_receive 11 = .ok (.invokevirtual 7, 3) := by decide +kernel
theorem md_W_receive_14 : decode mc_W_receive 14 = .ok (.i2l, 1) := by decide +kernel
theorem md_W_receive_15 : decode mc_W_receive 15 = .ok (.lastore, 1) := by decide +kernel
theorem md_W_receive_16 : decode mc_W_receive 16 = .ok (.goto 7, 3) := by decide +kernel
theorem md_W_receive_19 : decode mc_W_receive 19 = .ok (.astore 7, 2) := by decide +kernel
theorem md_W_receive_21 : decode mc_W_receive 21 = .ok (.iconst 1, 1) := by decide +kernel
theorem md_W_receive_22 : decode mc_W_receive 22 = .ok (.ireturn, 1) := by decide +kernel
theorem md_W_receive_23 : decode mc_W_receive 23 = .ok (.iconst 0, 1) := by decide +kernel
theorem md_W_receive_24 : decode mc_W_receive 24 = .ok (.ireturn, 1) := by decide +kernel
theorem md_W_status_0 : decode mc_W_status 0 = .ok (.aload_n 3, 1) := by decide +kernel
theorem md_W_status_1 : decode mc_W_status 1 = .ok (.iconst 0, 1) := by decide +kernel
theorem md_W_status_2 : decode mc_W_status 2 = .ok (.aload_n 0, 1) := by decide +kernel
theorem md_W_status_3 : decode mc_W_status 3 = .ok (.iload_n 1, 1) := by decide +kernel
theorem md_W_status_4 : decode mc_W_status 4 = .ok (.iload_n 2, 1) := by decide +kernel
theorem md_W_status_5 : decode mc_W_status 5 = .ok (.invokevirtual 15, 3) := by decide +kernel
theorem md_W_status_8 : decode mc_W_status 8 = .ok (.i2l, 1) := by decide +kernel
theorem md_W_status_9 : decode mc_W_status 9 = .ok (.lastore, 1) := by decide +kernel
theorem md_W_status_10 : decode mc_W_status 10 = .ok (.goto 7, 3) := by decide +kernel
theorem md_W_status_13 : decode mc_W_status 13 = .ok (.astore 4, 2) := by decide +kernel
theorem md_W_status_15 : decode mc_W_status 15 = .ok (.iconst 1, 1) := by decide +kernel
theorem md_W_status_16 : decode mc_W_status 16 = .ok (.ireturn, 1) := by decide +kernel
theorem md_W_status_17 : decode mc_W_status 17 = .ok (.iconst 0, 1) := by decide +kernel
theorem md_W_status_18 : decode mc_W_status 18 = .ok (.ireturn, 1) := by decide +kernel
theorem md_W_answer_0 : decode mc_W_answer 0 = .ok (.aload_n 3, 1) := by decide +kernel
theorem md_W_answer_1 : decode mc_W_answer 1 = .ok (.iconst 0, 1) := by decide +kernel
theorem md_W_answer_2 : decode mc_W_answer 2 = .ok (.aload_n 0, 1) := by decide +kernel
theorem md_W_answer_3 : decode mc_W_answer 3 = .ok (.iload_n 1, 1) := by decide +kernel
theorem md_W_answer_4 : decode mc_W_answer 4 = .ok (.iload_n 2, 1) := by decide +kernel
theorem md_W_answer_5 : decode mc_W_answer 5 = .ok (.invokevirtual 19, 3) := by decide +kernel
theorem md_W_answer_8 : decode mc_W_answer 8 = .ok (.i2l, 1) := by decide +kernel
theorem md_W_answer_9 : decode mc_W_answer 9 = .ok (.lastore, 1) := by decide +kernel
theorem md_W_answer_10 : decode mc_W_answer 10 = .ok (.goto 7, 3) := by decide +kernel
theorem md_W_answer_13 : decode mc_W_answer 13 = .ok (.astore 4, 2) := by decide +kernel
theorem md_W_answer_15 : decode mc_W_answer 15 = .ok (.iconst 1, 1) := by decide +kernel
theorem md_W_answer_16 : decode mc_W_answer 16 = .ok (.ireturn, 1) := by decide +kernel
theorem md_W_answer_17 : decode mc_W_answer 17 = .ok (.iconst 0, 1) := by decide +kernel
theorem md_W_answer_18 : decode mc_W_answer 18 = .ok (.ireturn, 1) := by decide +kernel
theorem md_W_tick_0 : decode mc_W_tick 0 = .ok (.aload_n 2, 1) := by decide +kernel
theorem md_W_tick_1 : decode mc_W_tick 1 = .ok (.iconst 0, 1) := by decide +kernel
theorem md_W_tick_2 : decode mc_W_tick 2 = .ok (.aload_n 0, 1) := by decide +kernel
theorem md_W_tick_3 : decode mc_W_tick 3 = .ok (.iload_n 1, 1) := by decide +kernel
theorem md_W_tick_4 : decode mc_W_tick 4 = .ok (.invokevirtual 22, 3) := by decide +kernel
theorem md_W_tick_7 : decode mc_W_tick 7 = .ok (.i2l, 1) := by decide +kernel
theorem md_W_tick_8 : decode mc_W_tick 8 = .ok (.lastore, 1) := by decide +kernel
theorem md_W_tick_9 : decode mc_W_tick 9 = .ok (.goto 6, 3) := by decide +kernel
theorem md_W_tick_12 : decode mc_W_tick 12 = .ok (.astore_n 3, 1) := by decide +kernel
theorem md_W_tick_13 : decode mc_W_tick 13 = .ok (.iconst 1, 1) := by decide +kernel
theorem md_W_tick_14 : decode mc_W_tick 14 = .ok (.ireturn, 1) := by decide +kernel
theorem md_W_tick_15 : decode mc_W_tick 15 = .ok (.iconst 0, 1) := by decide +kernel
theorem md_W_tick_16 : decode mc_W_tick 16 = .ok (.ireturn, 1) := by decide +kernel
theorem md_W_skip_0 : decode mc_W_skip 0 = .ok (.aload_n 2, 1) := by decide +kernel
theorem md_W_skip_1 : decode mc_W_skip 1 = .ok (.iconst 0, 1) := by decide +kernel
theorem md_W_skip_2 : decode mc_W_skip 2 = .ok (.aload_n 0, 1) := by decide +kernel
theorem md_W_skip_3 : decode mc_W_skip 3 = .ok (.iload_n 1, 1) := by decide +kernel
theorem md_W_skip_4 : decode mc_W_skip 4 = .ok (.invokevirtual 26, 3) := by decide +kernel
theorem md_W_skip_7 : decode mc_W_skip 7 = .ok (.i2l, 1) := by decide +kernel
theorem md_W_skip_8 : decode mc_W_skip 8 = .ok (.lastore, 1) := by decide +kernel
theorem md_W_skip_9 : decode mc_W_skip 9 = .ok (.goto 6, 3) := by decide +kernel
theorem md_W_skip_12 : decode mc_W_skip 12 = .ok (.astore_n 3, 1) := by decide +kernel
theorem md_W_skip_13 : decode mc_W_skip 13 = .ok (.iconst 1, 1) := by decide +kernel
theorem md_W_skip_14 : decode mc_W_skip 14 = .ok (.ireturn, 1) := by decide +kernel
theorem md_W_skip_15 : decode mc_W_skip 15 = .ok (.iconst 0, 1) := by decide +kernel
theorem md_W_skip_16 : decode mc_W_skip 16 = .ok (.ireturn, 1) := by decide +kernel
theorem md_W_cut_0 : decode mc_W_cut 0 = .ok (.aload_n 2, 1) := by decide +kernel
theorem md_W_cut_1 : decode mc_W_cut 1 = .ok (.iconst 0, 1) := by decide +kernel
theorem md_W_cut_2 : decode mc_W_cut 2 = .ok (.aload_n 0, 1) := by decide +kernel
theorem md_W_cut_3 : decode mc_W_cut 3 = .ok (.iload_n 1, 1) := by decide +kernel
theorem md_W_cut_4 : decode mc_W_cut 4 = .ok (.invokevirtual 29, 3) := by decide +kernel
theorem md_W_cut_7 : decode mc_W_cut 7 = .ok (.i2l, 1) := by decide +kernel
theorem md_W_cut_8 : decode mc_W_cut 8 = .ok (.lastore, 1) := by decide +kernel
theorem md_W_cut_9 : decode mc_W_cut 9 = .ok (.goto 6, 3) := by decide +kernel
theorem md_W_cut_12 : decode mc_W_cut 12 = .ok (.astore_n 3, 1) := by decide +kernel
theorem md_W_cut_13 : decode mc_W_cut 13 = .ok (.iconst 1, 1) := by decide +kernel
theorem md_W_cut_14 : decode mc_W_cut 14 = .ok (.ireturn, 1) := by decide +kernel
theorem md_W_cut_15 : decode mc_W_cut 15 = .ok (.iconst 0, 1) := by decide +kernel
theorem md_W_cut_16 : decode mc_W_cut 16 = .ok (.ireturn, 1) := by decide +kernel
theorem md_W_replay_0 : decode mc_W_replay 0 = .ok (.aload_n 3, 1) := by decide +kernel
theorem md_W_replay_1 : decode mc_W_replay 1 = .ok (.iconst 0, 1) := by decide +kernel
theorem md_W_replay_2 : decode mc_W_replay 2 = .ok (.aload_n 0, 1) := by decide +kernel
theorem md_W_replay_3 : decode mc_W_replay 3 = .ok (.iload_n 1, 1) := by decide +kernel
theorem md_W_replay_4 : decode mc_W_replay 4 = .ok (.iload_n 2, 1) := by decide +kernel
theorem md_W_replay_5 : decode mc_W_replay 5 = .ok (.invokevirtual 32, 3) := by decide +kernel
theorem md_W_replay_8 : decode mc_W_replay 8 = .ok (.i2l, 1) := by decide +kernel
theorem md_W_replay_9 : decode mc_W_replay 9 = .ok (.lastore, 1) := by decide +kernel
theorem md_W_replay_10 : decode mc_W_replay 10 = .ok (.goto 7, 3) := by decide +kernel
theorem md_W_replay_13 : decode mc_W_replay 13 = .ok (.astore 4, 2) := by decide +kernel
theorem md_W_replay_15 : decode mc_W_replay 15 = .ok (.iconst 1, 1) := by decide +kernel
theorem md_W_replay_16 : decode mc_W_replay 16 = .ok (.ireturn, 1) := by decide +kernel
theorem md_W_replay_17 : decode mc_W_replay 17 = .ok (.iconst 0, 1) := by decide +kernel
theorem md_W_replay_18 : decode mc_W_replay 18 = .ok (.ireturn, 1) := by decide +kernel
theorem md_W_look_0 : decode mc_W_look 0 = .ok (.aload_n 3, 1) := by decide +kernel
theorem md_W_look_1 : decode mc_W_look 1 = .ok (.iconst 0, 1) := by decide +kernel
theorem md_W_look_2 : decode mc_W_look 2 = .ok (.aload_n 0, 1) := by decide +kernel
theorem md_W_look_3 : decode mc_W_look 3 = .ok (.iload_n 1, 1) := by decide +kernel
theorem md_W_look_4 : decode mc_W_look 4 = .ok (.iload_n 2, 1) := by decide +kernel
theorem md_W_look_5 : decode mc_W_look 5 = .ok (.invokevirtual 35, 3) := by decide +kernel
theorem md_W_look_8 : decode mc_W_look 8 = .ok (.i2l, 1) := by decide +kernel
theorem md_W_look_9 : decode mc_W_look 9 = .ok (.lastore, 1) := by decide +kernel
theorem md_W_look_10 : decode mc_W_look 10 = .ok (.goto 7, 3) := by decide +kernel
theorem md_W_look_13 : decode mc_W_look 13 = .ok (.astore 4, 2) := by decide +kernel
theorem md_W_look_15 : decode mc_W_look 15 = .ok (.iconst 1, 1) := by decide +kernel
theorem md_W_look_16 : decode mc_W_look 16 = .ok (.ireturn, 1) := by decide +kernel
theorem md_W_look_17 : decode mc_W_look 17 = .ok (.iconst 0, 1) := by decide +kernel
theorem md_W_look_18 : decode mc_W_look 18 = .ok (.ireturn, 1) := by decide +kernel
theorem md_W_law_0 : decode mc_W_law 0 = .ok (.new 8, 3) := by decide +kernel
theorem md_W_law_3 : decode mc_W_law 3 = .ok (.dup, 1) := by decide +kernel
theorem md_W_law_4 : decode mc_W_law 4 = .ok (.invokespecial 40, 3) := by decide +kernel
theorem md_W_law_7 : decode mc_W_law 7 = .ok (.astore_n 1, 1) := by decide +kernel
theorem md_W_law_8 : decode mc_W_law 8 = .ok (.new 41, 3) := by decide +kernel
theorem md_W_law_11 : decode mc_W_law 11 = .ok (.dup, 1) := by decide +kernel
theorem md_W_law_12 : decode mc_W_law 12 = .ok (.invokespecial 43, 3) := by decide +kernel
theorem md_W_law_15 : decode mc_W_law 15 = .ok (.astore_n 2, 1) := by decide +kernel
theorem md_W_law_16 : decode mc_W_law 16 = .ok (.iconst 1, 1) := by decide +kernel
theorem md_W_law_17 : decode mc_W_law 17 = .ok (.newarray .long, 2) := by decide +kernel
theorem md_W_law_19 : decode mc_W_law 19 = .ok (.astore_n 3, 1) := by decide +kernel
theorem md_W_law_20 : decode mc_W_law 20 = .ok (.iconst 0, 1) := by decide +kernel
theorem md_W_law_21 : decode mc_W_law 21 = .ok (.istore 4, 2) := by decide +kernel
theorem md_W_law_23 : decode mc_W_law 23 = .ok (.iload 4, 2) := by decide +kernel
theorem md_W_law_25 : decode mc_W_law 25 = .ok (.aload_n 0, 1) := by decide +kernel
theorem md_W_law_26 : decode mc_W_law 26 = .ok (.arraylength, 1) := by decide +kernel
theorem md_W_law_27 : decode mc_W_law 27 = .ok (.bipush 6, 2) := by decide +kernel
theorem md_W_law_29 : decode mc_W_law 29 = .ok (.isub, 1) := by decide +kernel
theorem md_W_law_30 : decode mc_W_law 30 = .ok (.if_icmp .gt 822, 3) := by decide +kernel
theorem md_W_law_33 : decode mc_W_law 33 = .ok (.aload_n 0, 1) := by decide +kernel
theorem md_W_law_34 : decode mc_W_law 34 = .ok (.iload 4, 2) := by decide +kernel
theorem md_W_law_36 : decode mc_W_law 36 = .ok (.iaload, 1) := by decide +kernel
theorem md_W_law_37 : decode mc_W_law 37 = .ok (.bipush 15, 2) := by decide +kernel
theorem md_W_law_39 : decode mc_W_law 39 = .ok (.iand, 1) := by decide +kernel
theorem md_W_law_40 : decode mc_W_law 40 = .ok (.tableswitch 806 0 13 #[72, 176, 244, 312, 337, 390, 446, 502, 558, 626, 694, 719, 744, 781], 72) := by decide +kernel
theorem md_W_law_112 : decode mc_W_law 112 = .ok (.aload_n 1, 1) := by decide +kernel
theorem md_W_law_113 : decode mc_W_law 113 = .ok (.aload_n 0, 1) := by decide +kernel
theorem md_W_law_114 : decode mc_W_law 114 = .ok (.iload 4, 2) := by decide +kernel
theorem md_W_law_116 : decode mc_W_law 116 = .ok (.iconst 1, 1) := by decide +kernel
theorem md_W_law_117 : decode mc_W_law 117 = .ok (.iadd, 1) := by decide +kernel
theorem md_W_law_118 : decode mc_W_law 118 = .ok (.iaload, 1) := by decide +kernel
theorem md_W_law_119 : decode mc_W_law 119 = .ok (.aload_n 0, 1) := by decide +kernel
theorem md_W_law_120 : decode mc_W_law 120 = .ok (.iload 4, 2) := by decide +kernel
theorem md_W_law_122 : decode mc_W_law 122 = .ok (.iconst 2, 1) := by decide +kernel
theorem md_W_law_123 : decode mc_W_law 123 = .ok (.iadd, 1) := by decide +kernel
theorem md_W_law_124 : decode mc_W_law 124 = .ok (.iaload, 1) := by decide +kernel
theorem md_W_law_125 : decode mc_W_law 125 = .ok (.aload_n 0, 1) := by decide +kernel
theorem md_W_law_126 : decode mc_W_law 126 = .ok (.iload 4, 2) := by decide +kernel
theorem md_W_law_128 : decode mc_W_law 128 = .ok (.iconst 3, 1) := by decide +kernel
theorem md_W_law_129 : decode mc_W_law 129 = .ok (.iadd, 1) := by decide +kernel
theorem md_W_law_130 : decode mc_W_law 130 = .ok (.iaload, 1) := by decide +kernel
theorem md_W_law_131 : decode mc_W_law 131 = .ok (.aload_n 0, 1) := by decide +kernel
theorem md_W_law_132 : decode mc_W_law 132 = .ok (.iload 4, 2) := by decide +kernel
theorem md_W_law_134 : decode mc_W_law 134 = .ok (.iconst 4, 1) := by decide +kernel
theorem md_W_law_135 : decode mc_W_law 135 = .ok (.iadd, 1) := by decide +kernel
theorem md_W_law_136 : decode mc_W_law 136 = .ok (.iaload, 1) := by decide +kernel
theorem md_W_law_137 : decode mc_W_law 137 = .ok (.aload_n 0, 1) := by decide +kernel
theorem md_W_law_138 : decode mc_W_law 138 = .ok (.iload 4, 2) := by decide +kernel
theorem md_W_law_140 : decode mc_W_law 140 = .ok (.iconst 5, 1) := by decide +kernel
theorem md_W_law_141 : decode mc_W_law 141 = .ok (.iadd, 1) := by decide +kernel
theorem md_W_law_142 : decode mc_W_law 142 = .ok (.iaload, 1) := by decide +kernel
theorem md_W_law_143 : decode mc_W_law 143 = .ok (.aload_n 3, 1) := by decide +kernel
theorem md_W_law_144 : decode mc_W_law 144 = .ok (.invokestatic 44, 3) := by decide +kernel
theorem md_W_law_147 : decode mc_W_law 147 = .ok (.istore 5, 2) := by decide +kernel
theorem md_W_law_149 : decode mc_W_law 149 = .ok (.aload_n 2, 1) := by decide +kernel
theorem md_W_law_150 : decode mc_W_law 150 = .ok (.aload_n 0, 1) := by decide +kernel
theorem md_W_law_151 : decode mc_W_law 151 = .ok (.iload 4, 2) := by decide +kernel
theorem md_W_law_153 : decode mc_W_law 153 = .ok (.iconst 1, 1) := by decide +kernel
theorem md_W_law_154 : decode mc_W_law 154 = .ok (.iadd, 1) := by decide +kernel
theorem md_W_law_155 : decode mc_W_law 155 = .ok (.iaload, 1) := by decide +kernel
theorem md_W_law_156 : decode mc_W_law 156 = .ok (.aload_n 0, 1) := by decide +kernel
theorem md_W_law_157 : decode mc_W_law 157 = .ok (.iload 4, 2) := by decide +kernel
theorem md_W_law_159 : decode mc_W_law 159 = .ok (.iconst 2, 1) := by decide +kernel
theorem md_W_law_160 : decode mc_W_law 160 = .ok (.iadd, 1) := by decide +kernel
theorem md_W_law_161 : decode mc_W_law 161 = .ok (.iaload, 1) := by decide +kernel
theorem md_W_law_162 : decode mc_W_law 162 = .ok (.aload_n 0, 1) := by decide +kernel
theorem md_W_law_163 : decode mc_W_law 163 = .ok (.iload 4, 2) := by decide +kernel
theorem md_W_law_165 : decode mc_W_law 165 = .ok (.iconst 3, 1) := by decide +kernel
theorem md_W_law_166 : decode mc_W_law 166 = .ok (.iadd, 1) := by decide +kernel
theorem md_W_law_167 : decode mc_W_law 167 = .ok (.iaload, 1) := by decide +kernel
theorem md_W_law_168 : decode mc_W_law 168 = .ok (.aload_n 0, 1) := by decide +kernel
theorem md_W_law_169 : decode mc_W_law 169 = .ok (.iload 4, 2) := by decide +kernel
theorem md_W_law_171 : decode mc_W_law 171 = .ok (.iconst 4, 1) := by decide +kernel
theorem md_W_law_172 : decode mc_W_law 172 = .ok (.iadd, 1) := by decide +kernel
theorem md_W_law_173 : decode mc_W_law 173 = .ok (.iaload, 1) := by decide +kernel
theorem md_W_law_174 : decode mc_W_law 174 = .ok (.aload_n 0, 1) := by decide +kernel
theorem md_W_law_175 : decode mc_W_law 175 = .ok (.iload 4, 2) := by decide +kernel
theorem md_W_law_177 : decode mc_W_law 177 = .ok (.iconst 5, 1) := by decide +kernel
theorem md_W_law_178 : decode mc_W_law 178 = .ok (.iadd, 1) := by decide +kernel
theorem md_W_law_179 : decode mc_W_law 179 = .ok (.iaload, 1) := by decide +kernel
theorem md_W_law_180 : decode mc_W_law 180 = .ok (.invokevirtual 49, 3) := by decide +kernel
theorem md_W_law_183 : decode mc_W_law 183 = .ok (.istore 6, 2) := by decide +kernel
theorem md_W_law_185 : decode mc_W_law 185 = .ok (.aload_n 2, 1) := by decide +kernel
theorem md_W_law_186 : decode mc_W_law 186 = .ok (.invokevirtual 50, 3) := by decide +kernel
theorem md_W_law_189 : decode mc_W_law 189 = .ok (.iload 5, 2) := by decide +kernel
theorem md_W_law_191 : decode mc_W_law 191 = .ok (.if_icmp .eq 5, 3) := by decide +kernel
theorem md_W_law_194 : decode mc_W_law 194 = .ok (.iconst 0, 1) := by decide +kernel
theorem md_W_law_195 : decode mc_W_law 195 = .ok (.ireturn, 1) := by decide +kernel
theorem md_W_law_196 : decode mc_W_law 196 = .ok (.iload 5, 2) := by decide +kernel
theorem md_W_law_198 : decode mc_W_law 198 = .ok (.ifCond .ne 15, 3) := by decide +kernel
theorem md_W_law_201 : decode mc_W_law 201 = .ok (.aload_n 3, 1) := by decide +kernel
theorem md_W_law_202 : decode mc_W_law 202 = .ok (.iconst 0, 1) := by decide +kernel
theorem md_W_law_203 : decode mc_W_law 203 = .ok (.laload, 1) := by decide +kernel
theorem md_W_law_204 : decode mc_W_law 204 = .ok (.iload 6, 2) := by decide +kernel
theorem md_W_law_206 : decode mc_W_law 206 = .ok (.i2l, 1) := by decide +kernel
theorem md_W_law_207 : decode mc_W_law 207 = .ok (.lcmp, 1) := by decide +kernel
theorem md_W_law_208 : decode mc_W_law 208 = .ok (.ifCond .eq 5, 3) := by decide +kernel
theorem md_W_law_211 : decode mc_W_law 211 = .ok (.iconst 0, 1) := by decide +kernel
theorem md_W_law_212 : decode mc_W_law 212 = .ok (.ireturn, 1) := by decide +kernel
theorem md_W_law_213 : decode mc_W_law 213 = .ok (.goto 633, 3) := by decide +kernel
theorem md_W_law_216 : decode mc_W_law 216 = .ok (.aload_n 1, 1) := by decide +kernel
theorem md_W_law_217 : decode mc_W_law 217 = .ok (.aload_n 0, 1) := by decide +kernel
theorem md_W_law_218 : decode mc_W_law 218 = .ok (.iload 4, 2) := by decide +kernel
theorem md_W_law_220 : decode mc_W_law 220 = .ok (.iconst 1, 1) := by decide +kernel
theorem md_W_law_221 : decode mc_W_law 221 = .ok (.iadd, 1) := by decide +kernel
theorem md_W_law_222 : decode mc_W_law 222 = .ok (.iaload, 1) := by decide +kernel
theorem md_W_law_223 : decode mc_W_law 223 = .ok (.aload_n 0, 1) := by decide +kernel
theorem md_W_law_224 : decode mc_W_law 224 = .ok (.iload 4, 2) := by decide +kernel
theorem md_W_law_226 : decode mc_W_law 226 = .ok (.iconst 2, 1) := by decide +kernel
theorem md_W_law_227 : decode mc_W_law 227 = .ok (.iadd, 1) := by decide +kernel
theorem md_W_law_228 : decode mc_W_law 228 = .ok (.iaload, 1) := by decide +kernel
theorem md_W_law_229 : decode mc_W_law 229 = .ok (.aload_n 3, 1) := by decide +kernel
theorem md_W_law_230 : decode mc_W_law 230 = .ok (.invokestatic 54, 3) := by decide +kernel
theorem md_W_law_233 : decode mc_W_law 233 = .ok (.istore 5, 2) := by decide +kernel
theorem md_W_law_235 : decode mc_W_law 235 = .ok (.aload_n 2, 1) := by decide +kernel
theorem md_W_law_236 : decode mc_W_law 236 = .ok (.aload_n 0, 1) := by decide +kernel
theorem md_W_law_237 : decode mc_W_law 237 = .ok (.iload 4, 2) := by decide +kernel
theorem md_W_law_239 : decode mc_W_law 239 = .ok (.iconst 1, 1) := by decide +kernel
theorem md_W_law_240 : decode mc_W_law 240 = .ok (.iadd, 1) := by decide +kernel
theorem md_W_law_241 : decode mc_W_law 241 = .ok (.iaload, 1) := by decide +kernel
theorem md_W_law_242 : decode mc_W_law 242 = .ok (.aload_n 0, 1) := by decide +kernel
theorem md_W_law_243 : decode mc_W_law 243 = .ok (.iload 4, 2) := by decide +kernel
theorem md_W_law_245 : decode mc_W_law 245 = .ok (.iconst 2, 1) := by decide +kernel
theorem md_W_law_246 : decode mc_W_law 246 = .ok (.iadd, 1) := by decide +kernel
theorem md_W_law_247 : decode mc_W_law 247 = .ok (.iaload, 1) := by decide +kernel
theorem md_W_law_248 : decode mc_W_law 248 = .ok (.invokevirtual 57, 3) := by decide +kernel
theorem md_W_law_251 : decode mc_W_law 251 = .ok (.istore 6, 2) := by decide +kernel
theorem md_W_law_253 : decode mc_W_law 253 = .ok (.aload_n 2, 1) := by decide +kernel
theorem md_W_law_254 : decode mc_W_law 254 = .ok (.invokevirtual 50, 3) := by decide +kernel
theorem md_W_law_257 : decode mc_W_law 257 = .ok (.iload 5, 2) := by decide +kernel
theorem md_W_law_259 : decode mc_W_law 259 = .ok (.if_icmp .eq 5, 3) := by decide +kernel
theorem md_W_law_262 : decode mc_W_law 262 = .ok (.iconst 0, 1) := by decide +kernel
theorem md_W_law_263 : decode mc_W_law 263 = .ok (.ireturn, 1) := by decide +kernel
theorem md_W_law_264 : decode mc_W_law 264 = .ok (.iload 5, 2) := by decide +kernel
theorem md_W_law_266 : decode mc_W_law 266 = .ok (.ifCond .ne 15, 3) := by decide +kernel
theorem md_W_law_269 : decode mc_W_law 269 = .ok (.aload_n 3, 1) := by decide +kernel
theorem md_W_law_270 : decode mc_W_law 270 = .ok (.iconst 0, 1) := by decide +kernel
theorem md_W_law_271 : decode mc_W_law 271 = .ok (.laload, 1) := by decide +kernel
theorem md_W_law_272 : decode mc_W_law 272 = .ok (.iload 6, 2) := by decide +kernel
theorem md_W_law_274 : decode mc_W_law 274 = .ok (.i2l, 1) := by decide +kernel
theorem md_W_law_275 : decode mc_W_law 275 = .ok (.lcmp, 1) := by decide +kernel
theorem md_W_law_276 : decode mc_W_law 276 = .ok (.ifCond .eq 5, 3) := by decide +kernel
theorem md_W_law_279 : decode mc_W_law 279 = .ok (.iconst 0, 1) := by decide +kernel
theorem md_W_law_280 : decode mc_W_law 280 = .ok (.ireturn, 1) := by decide +kernel
theorem md_W_law_281 : decode mc_W_law 281 = .ok (.goto 565, 3) := by decide +kernel
theorem md_W_law_284 : decode mc_W_law 284 = .ok (.aload_n 1, 1) := by decide +kernel
theorem md_W_law_285 : decode mc_W_law 285 = .ok (.aload_n 0, 1) := by decide +kernel
theorem md_W_law_286 : decode mc_W_law 286 = .ok (.iload 4, 2) := by decide +kernel
theorem md_W_law_288 : decode mc_W_law 288 = .ok (.iconst 1, 1) := by decide +kernel
theorem md_W_law_289 : decode mc_W_law 289 = .ok (.iadd, 1) := by decide +kernel
theorem md_W_law_290 : decode mc_W_law 290 = .ok (.iaload, 1) := by decide +kernel
theorem md_W_law_291 : decode mc_W_law 291 = .ok (.aload_n 0, 1) := by decide +kernel
theorem md_W_law_292 : decode mc_W_law 292 = .ok (.iload 4, 2) := by decide +kernel
theorem md_W_law_294 : decode mc_W_law 294 = .ok (.iconst 2, 1) := by decide +kernel
theorem md_W_law_295 : decode mc_W_law 295 = .ok (.iadd, 1) := by decide +kernel
theorem md_W_law_296 : decode mc_W_law 296 = .ok (.iaload, 1) := by decide +kernel
theorem md_W_law_297 : decode mc_W_law 297 = .ok (.aload_n 3, 1) := by decide +kernel
theorem md_W_law_298 : decode mc_W_law 298 = .ok (.invokestatic 58, 3) := by decide +kernel
theorem md_W_law_301 : decode mc_W_law 301 = .ok (.istore 5, 2) := by decide +kernel
theorem md_W_law_303 : decode mc_W_law 303 = .ok (.aload_n 2, 1) := by decide +kernel
theorem md_W_law_304 : decode mc_W_law 304 = .ok (.aload_n 0, 1) := by decide +kernel
theorem md_W_law_305 : decode mc_W_law 305 = .ok (.iload 4, 2) := by decide +kernel
theorem md_W_law_307 : decode mc_W_law 307 = .ok (.iconst 1, 1) := by decide +kernel
theorem md_W_law_308 : decode mc_W_law 308 = .ok (.iadd, 1) := by decide +kernel
theorem md_W_law_309 : decode mc_W_law 309 = .ok (.iaload, 1) := by decide +kernel
theorem md_W_law_310 : decode mc_W_law 310 = .ok (.aload_n 0, 1) := by decide +kernel
theorem md_W_law_311 : decode mc_W_law 311 = .ok (.iload 4, 2) := by decide +kernel
theorem md_W_law_313 : decode mc_W_law 313 = .ok (.iconst 2, 1) := by decide +kernel
theorem md_W_law_314 : decode mc_W_law 314 = .ok (.iadd, 1) := by decide +kernel
theorem md_W_law_315 : decode mc_W_law 315 = .ok (.iaload, 1) := by decide +kernel
theorem md_W_law_316 : decode mc_W_law 316 = .ok (.invokevirtual 60, 3) := by decide +kernel
theorem md_W_law_319 : decode mc_W_law 319 = .ok (.istore 6, 2) := by decide +kernel
theorem md_W_law_321 : decode mc_W_law 321 = .ok (.aload_n 2, 1) := by decide +kernel
theorem md_W_law_322 : decode mc_W_law 322 = .ok (.invokevirtual 50, 3) := by decide +kernel
theorem md_W_law_325 : decode mc_W_law 325 = .ok (.iload 5, 2) := by decide +kernel
theorem md_W_law_327 : decode mc_W_law 327 = .ok (.if_icmp .eq 5, 3) := by decide +kernel
theorem md_W_law_330 : decode mc_W_law 330 = .ok (.iconst 0, 1) := by decide +kernel
theorem md_W_law_331 : decode mc_W_law 331 = .ok (.ireturn, 1) := by decide +kernel
theorem md_W_law_332 : decode mc_W_law 332 = .ok (.iload 5, 2) := by decide +kernel
theorem md_W_law_334 : decode mc_W_law 334 = .ok (.ifCond .ne 15, 3) := by decide +kernel
theorem md_W_law_337 : decode mc_W_law 337 = .ok (.aload_n 3, 1) := by decide +kernel
theorem md_W_law_338 : decode mc_W_law 338 = .ok (.iconst 0, 1) := by decide +kernel
theorem md_W_law_339 : decode mc_W_law 339 = .ok (.laload, 1) := by decide +kernel
theorem md_W_law_340 : decode mc_W_law 340 = .ok (.iload 6, 2) := by decide +kernel
theorem md_W_law_342 : decode mc_W_law 342 = .ok (.i2l, 1) := by decide +kernel
theorem md_W_law_343 : decode mc_W_law 343 = .ok (.lcmp, 1) := by decide +kernel
theorem md_W_law_344 : decode mc_W_law 344 = .ok (.ifCond .eq 5, 3) := by decide +kernel
theorem md_W_law_347 : decode mc_W_law 347 = .ok (.iconst 0, 1) := by decide +kernel
theorem md_W_law_348 : decode mc_W_law 348 = .ok (.ireturn, 1) := by decide +kernel
theorem md_W_law_349 : decode mc_W_law 349 = .ok (.goto 497, 3) := by decide +kernel
theorem md_W_law_352 : decode mc_W_law 352 = .ok (.aload_n 1, 1) := by decide +kernel
theorem md_W_law_353 : decode mc_W_law 353 = .ok (.aload_n 0, 1) := by decide +kernel
theorem md_W_law_354 : decode mc_W_law 354 = .ok (.iload 4, 2) := by decide +kernel
theorem md_W_law_356 : decode mc_W_law 356 = .ok (.iconst 1, 1) := by decide +kernel
theorem md_W_law_357 : decode mc_W_law 357 = .ok (.iadd, 1) := by decide +kernel
theorem md_W_law_358 : decode mc_W_law 358 = .ok (.iaload, 1) := by decide +kernel
theorem md_W_law_359 : decode mc_W_law 359 = .ok (.invokevirtual 61, 3) := by decide +kernel
theorem md_W_law_362 : decode mc_W_law 362 = .ok (.aload_n 2, 1) := by decide +kernel
theorem md_W_law_363 : decode mc_W_law 363 = .ok (.aload_n 0, 1) := by decide +kernel
theorem md_W_law_364 : decode mc_W_law 364 = .ok (.iload 4, 2) := by decide +kernel
theorem md_W_law_366 : decode mc_W_law 366 = .ok (.iconst 1, 1) := by decide +kernel
theorem md_W_law_367 : decode mc_W_law 367 = .ok (.iadd, 1) := by decide +kernel
theorem md_W_law_368 : decode mc_W_law 368 = .ok (.iaload, 1) := by decide +kernel
theorem md_W_law_369 : decode mc_W_law 369 = .ok (.invokevirtual 65, 3) := by decide +kernel
theorem md_W_law_372 : decode mc_W_law 372 = .ok (.if_icmp .eq 474, 3) := by decide +kernel
theorem md_W_law_375 : decode mc_W_law 375 = .ok (.iconst 0, 1) := by decide +kernel
theorem md_W_law_376 : decode mc_W_law 376 = .ok (.ireturn, 1) := by decide +kernel
theorem md_W_law_377 : decode mc_W_law 377 = .ok (.aload_n 1, 1) := by decide +kernel
theorem md_W_law_378 : decode mc_W_law 378 = .ok (.aload_n 0, 1) := by decide +kernel
theorem md_W_law_379 : decode mc_W_law 379 = .ok (.iload 4, 2) := by decide +kernel
theorem md_W_law_381 : decode mc_W_law 381 = .ok (.iconst 1, 1) := by decide +kernel
theorem md_W_law_382 : decode mc_W_law 382 = .ok (.iadd, 1) := by decide +kernel
theorem md_W_law_383 : decode mc_W_law 383 = .ok (.iaload, 1) := by decide +kernel
theorem md_W_law_384 : decode mc_W_law 384 = .ok (.aload_n 0, 1) := by decide +kernel
theorem md_W_law_385 : decode mc_W_law 385 = .ok (.iload 4, 2) := by decide +kernel
theorem md_W_law_387 : decode mc_W_law 387 = .ok (.iconst 2, 1) := by decide +kernel
theorem md_W_law_388 : decode mc_W_law 388 = .ok (.iadd, 1) := by decide +kernel
theorem md_W_law_389 : decode mc_W_law 389 = .ok (.iaload, 1) := by decide +kernel
theorem md_W_law_390 : decode mc_W_law 390 = .ok (.ifCond .eq 7, 3) := by decide +kernel
theorem md_W_law_393 : decode mc_W_law 393 = .ok (.iconst 1, 1) := by decide +kernel
theorem md_W_law_394 : decode mc_W_law 394 = .ok (.goto 4, 3) := by decide +kernel
theorem md_W_law_397 : decode mc_W_law 397 = .ok (.iconst 0, 1) := by decide +kernel
theorem md_W_law_398 : decode mc_W_law 398 = .ok (.invokevirtual 66, 3) := by decide +kernel
theorem md_W_law_401 : decode mc_W_law 401 = .ok (.aload_n 2, 1) := by decide +kernel
theorem md_W_law_402 : decode mc_W_law 402 = .ok (.aload_n 0, 1) := by decide +kernel
theorem md_W_law_403 : decode mc_W_law 403 = .ok (.iload 4, 2) := by decide +kernel
theorem md_W_law_405 : decode mc_W_law 405 = .ok (.iconst 1, 1) := by decide +kernel
theorem md_W_law_406 : decode mc_W_law 406 = .ok (.iadd, 1) := by decide +kernel
theorem md_W_law_407 : decode mc_W_law 407 = .ok (.iaload, 1) := by decide +kernel
theorem md_W_law_408 : decode mc_W_law 408 = .ok (.aload_n 0, 1) := by decide +kernel
theorem md_W_law_409 : decode mc_W_law 409 = .ok (.iload 4, 2) := by decide +kernel
theorem md_W_law_411 : decode mc_W_law 411 = .ok (.iconst 2, 1) := by decide +kernel
theorem md_W_law_412 : decode mc_W_law 412 = .ok (.iadd, 1) := by decide +kernel
theorem md_W_law_413 : decode mc_W_law 413 = .ok (.iaload, 1) := by decide +kernel
theorem md_W_law_414 : decode mc_W_law 414 = .ok (.ifCond .eq 7, 3) := by decide +kernel
theorem md_W_law_417 : decode mc_W_law 417 = .ok (.iconst 1, 1) := by decide +kernel
theorem md_W_law_418 : decode mc_W_law 418 = .ok (.goto 4, 3) := by decide +kernel
theorem md_W_law_421 : decode mc_W_law 421 = .ok (.iconst 0, 1) := by decide +kernel
theorem md_W_law_422 : decode mc_W_law 422 = .ok (.invokevirtual 70, 3) := by decide +kernel
theorem md_W_law_425 : decode mc_W_law 425 = .ok (.if_icmp .eq 421, 3) := by decide +kernel
theorem md_W_law_428 : decode mc_W_law 428 = .ok (.iconst 0, 1) := by decide +kernel
theorem md_W_law_429 : decode mc_W_law 429 = .ok (.ireturn, 1) := by decide +kernel
theorem md_W_law_430 : decode mc_W_law 430 = .ok (.aload_n 1, 1) := by decide +kernel
theorem md_W_law_431 : decode mc_W_law 431 = .ok (.aload_n 0, 1) := by decide +kernel
theorem md_W_law_432 : decode mc_W_law 432 = .ok (.iload 4, 2) := by decide +kernel
theorem md_W_law_434 : decode mc_W_law 434 = .ok (.iconst 1, 1) := by decide +kernel
theorem md_W_law_435 : decode mc_W_law 435 = .ok (.iadd, 1) := by decide +kernel
theorem md_W_law_436 : decode mc_W_law 436 = .ok (.iaload, 1) := by decide +kernel
theorem md_W_law_437 : decode mc_W_law 437 = .ok (.aload_n 3, 1) := by decide +kernel
theorem md_W_law_438 : decode mc_W_law 438 = .ok (.invokestatic 71, 3) := by decide +kernel
theorem md_W_law_441 : decode mc_W_law 441 = .ok (.istore 5, 2) := by decide +kernel
theorem md_W_law_443 : decode mc_W_law 443 = .ok (.aload_n 2, 1) := by decide +kernel
theorem md_W_law_444 : decode mc_W_law 444 = .ok (.aload_n 0, 1) := by decide +kernel
theorem md_W_law_445 : decode mc_W_law 445 = .ok (.iload 4, 2) := by decide +kernel
theorem md_W_law_447 : decode mc_W_law 447 = .ok (.iconst 1, 1) := by decide +kernel
theorem md_W_law_448 : decode mc_W_law 448 = .ok (.iadd, 1) := by decide +kernel
theorem md_W_law_449 : decode mc_W_law 449 = .ok (.iaload, 1) := by decide +kernel
theorem md_W_law_450 : decode mc_W_law 450 = .ok (.invokevirtual 74, 3) := by decide +kernel
theorem md_W_law_453 : decode mc_W_law 453 = .ok (.istore 6, 2) := by decide +kernel
theorem md_W_law_455 : decode mc_W_law 455 = .ok (.aload_n 2, 1) := by decide +kernel
theorem md_W_law_456 : decode mc_W_law 456 = .ok (.invokevirtual 50, 3) := by decide +kernel
theorem md_W_law_459 : decode mc_W_law 459 = .ok (.iload 5, 2) := by decide +kernel
theorem md_W_law_461 : decode mc_W_law 461 = .ok (.if_icmp .eq 5, 3) := by decide +kernel
theorem md_W_law_464 : decode mc_W_law 464 = .ok (.iconst 0, 1) := by decide +kernel
theorem md_W_law_465 : decode mc_W_law 465 = .ok (.ireturn, 1) := by decide +kernel
theorem md_W_law_466 : decode mc_W_law 466 = .ok (.iload 5, 2) := by decide +kernel
theorem md_W_law_468 : decode mc_W_law 468 = .ok (.ifCond .ne 15, 3) := by decide +kernel
theorem md_W_law_471 : decode mc_W_law 471 = .ok (.aload_n 3, 1) := by decide +kernel
theorem md_W_law_472 : decode mc_W_law 472 = .ok (.iconst 0, 1) := by decide +kernel
theorem md_W_law_473 : decode mc_W_law 473 = .ok (.laload, 1) := by decide +kernel
theorem md_W_law_474 : decode mc_W_law 474 = .ok (.iload 6, 2) := by decide +kernel
theorem md_W_law_476 : decode mc_W_law 476 = .ok (.i2l, 1) := by decide +kernel
theorem md_W_law_477 : decode mc_W_law 477 = .ok (.lcmp, 1) := by decide +kernel
theorem md_W_law_478 : decode mc_W_law 478 = .ok (.ifCond .eq 5, 3) := by decide +kernel
theorem md_W_law_481 : decode mc_W_law 481 = .ok (.iconst 0, 1) := by decide +kernel
theorem md_W_law_482 : decode mc_W_law 482 = .ok (.ireturn, 1) := by decide +kernel
theorem md_W_law_483 : decode mc_W_law 483 = .ok (.goto 363, 3) := by decide +kernel
theorem md_W_law_486 : decode mc_W_law 486 = .ok (.aload_n 1, 1) := by decide +kernel
theorem md_W_law_487 : decode mc_W_law 487 = .ok (.aload_n 0, 1) := by decide +kernel
theorem md_W_law_488 : decode mc_W_law 488 = .ok (.iload 4, 2) := by decide +kernel
theorem md_W_law_490 : decode mc_W_law 490 = .ok (.iconst 1, 1) := by decide +kernel
theorem md_W_law_491 : decode mc_W_law 491 = .ok (.iadd, 1) := by decide +kernel
theorem md_W_law_492 : decode mc_W_law 492 = .ok (.iaload, 1) := by decide +kernel
theorem md_W_law_493 : decode mc_W_law 493 = .ok (.aload_n 3, 1) := by decide +kernel
theorem md_W_law_494 : decode mc_W_law 494 = .ok (.invokestatic 75, 3) := by decide +kernel
theorem md_W_law_497 : decode mc_W_law 497 = .ok (.istore 5, 2) := by decide +kernel
theorem md_W_law_499 : decode mc_W_law 499 = .ok (.aload_n 2, 1) := by decide +kernel
theorem md_W_law_500 : decode mc_W_law 500 = .ok (.aload_n 0, 1) := by decide +kernel
theorem md_W_law_501 : decode mc_W_law 501 = .ok (.iload 4, 2) := by decide +kernel
theorem md_W_law_503 : decode mc_W_law 503 = .ok (.iconst 1, 1) := by decide +kernel
theorem md_W_law_504 : decode mc_W_law 504 = .ok (.iadd, 1) := by decide +kernel
theorem md_W_law_505 : decode mc_W_law 505 = .ok (.iaload, 1) := by decide +kernel
theorem md_W_law_506 : decode mc_W_law 506 = .ok (.invokevirtual 77, 3) := by decide +kernel
theorem md_W_law_509 : decode mc_W_law 509 = .ok (.istore 6, 2) := by decide +kernel
theorem md_W_law_511 : decode mc_W_law 511 = .ok (.aload_n 2, 1) := by decide +kernel
theorem md_W_law_512 : decode mc_W_law 512 = .ok (.invokevirtual 50, 3) := by decide +kernel
theorem md_W_law_515 : decode mc_W_law 515 = .ok (.iload 5, 2) := by decide +kernel
theorem md_W_law_517 : decode mc_W_law 517 = .ok (.if_icmp .eq 5, 3) := by decide +kernel
theorem md_W_law_520 : decode mc_W_law 520 = .ok (.iconst 0, 1) := by decide +kernel
theorem md_W_law_521 : decode mc_W_law 521 = .ok (.ireturn, 1) := by decide +kernel
theorem md_W_law_522 : decode mc_W_law 522 = .ok (.iload 5, 2) := by decide +kernel
theorem md_W_law_524 : decode mc_W_law 524 = .ok (.ifCond .ne 15, 3) := by decide +kernel
theorem md_W_law_527 : decode mc_W_law 527 = .ok (.aload_n 3, 1) := by decide +kernel
theorem md_W_law_528 : decode mc_W_law 528 = .ok (.iconst 0, 1) := by decide +kernel
theorem md_W_law_529 : decode mc_W_law 529 = .ok (.laload, 1) := by decide +kernel
theorem md_W_law_530 : decode mc_W_law 530 = .ok (.iload 6, 2) := by decide +kernel
theorem md_W_law_532 : decode mc_W_law 532 = .ok (.i2l, 1) := by decide +kernel
theorem md_W_law_533 : decode mc_W_law 533 = .ok (.lcmp, 1) := by decide +kernel
theorem md_W_law_534 : decode mc_W_law 534 = .ok (.ifCond .eq 5, 3) := by decide +kernel
theorem md_W_law_537 : decode mc_W_law 537 = .ok (.iconst 0, 1) := by decide +kernel
theorem md_W_law_538 : decode mc_W_law 538 = .ok (.ireturn, 1) := by decide +kernel
theorem md_W_law_539 : decode mc_W_law 539 = .ok (.goto 307, 3) := by decide +kernel
theorem md_W_law_542 : decode mc_W_law 542 = .ok (.aload_n 1, 1) := by decide +kernel
theorem md_W_law_543 : decode mc_W_law 543 = .ok (.aload_n 0, 1) := by decide +kernel
theorem md_W_law_544 : decode mc_W_law 544 = .ok (.iload 4, 2) := by decide +kernel
theorem md_W_law_546 : decode mc_W_law 546 = .ok (.iconst 1, 1) := by decide +kernel
theorem md_W_law_547 : decode mc_W_law 547 = .ok (.iadd, 1) := by decide +kernel
theorem md_W_law_548 : decode mc_W_law 548 = .ok (.iaload, 1) := by decide +kernel
theorem md_W_law_549 : decode mc_W_law 549 = .ok (.aload_n 3, 1) := by decide +kernel
theorem md_W_law_550 : decode mc_W_law 550 = .ok (.invokestatic 78, 3) := by decide +kernel
theorem md_W_law_553 : decode mc_W_law 553 = .ok (.istore 5, 2) := by decide +kernel
theorem md_W_law_555 : decode mc_W_law 555 = .ok (.aload_n 2, 1) := by decide +kernel
theorem md_W_law_556 : decode mc_W_law 556 = .ok (.aload_n 0, 1) := by decide +kernel
theorem md_W_law_557 : decode mc_W_law 557 = .ok (.iload 4, 2) := by decide +kernel
theorem md_W_law_559 : decode mc_W_law 559 = .ok (.iconst 1, 1) := by decide +kernel
theorem md_W_law_560 : decode mc_W_law 560 = .ok (.iadd, 1) := by decide +kernel
theorem md_W_law_561 : decode mc_W_law 561 = .ok (.iaload, 1) := by decide +kernel
theorem md_W_law_562 : decode mc_W_law 562 = .ok (.invokevirtual 80, 3) := by decide +kernel
theorem md_W_law_565 : decode mc_W_law 565 = .ok (.istore 6, 2) := by decide +kernel
theorem md_W_law_567 : decode mc_W_law 567 = .ok (.aload_n 2, 1) := by decide +kernel
theorem md_W_law_568 : decode mc_W_law 568 = .ok (.invokevirtual 50, 3) := by decide +kernel
theorem md_W_law_571 : decode mc_W_law 571 = .ok (.iload 5, 2) := by decide +kernel
theorem md_W_law_573 : decode mc_W_law 573 = .ok (.if_icmp .eq 5, 3) := by decide +kernel
theorem md_W_law_576 : decode mc_W_law 576 = .ok (.iconst 0, 1) := by decide +kernel
theorem md_W_law_577 : decode mc_W_law 577 = .ok (.ireturn, 1) := by decide +kernel
theorem md_W_law_578 : decode mc_W_law 578 = .ok (.iload 5, 2) := by decide +kernel
theorem md_W_law_580 : decode mc_W_law 580 = .ok (.ifCond .ne 15, 3) := by decide +kernel
theorem md_W_law_583 : decode mc_W_law 583 = .ok (.aload_n 3, 1) := by decide +kernel
theorem md_W_law_584 : decode mc_W_law 584 = .ok (.iconst 0, 1) := by decide +kernel
theorem md_W_law_585 : decode mc_W_law 585 = .ok (.laload, 1) := by decide +kernel
theorem md_W_law_586 : decode mc_W_law 586 = .ok (.iload 6, 2) := by decide +kernel
theorem md_W_law_588 : decode mc_W_law 588 = .ok (.i2l, 1) := by decide +kernel
theorem md_W_law_589 : decode mc_W_law 589 = .ok (.lcmp, 1) := by decide +kernel
theorem md_W_law_590 : decode mc_W_law 590 = .ok (.ifCond .eq 5, 3) := by decide +kernel
theorem md_W_law_593 : decode mc_W_law 593 = .ok (.iconst 0, 1) := by decide +kernel
theorem md_W_law_594 : decode mc_W_law 594 = .ok (.ireturn, 1) := by decide +kernel
theorem md_W_law_595 : decode mc_W_law 595 = .ok (.goto 251, 3) := by decide +kernel
theorem md_W_law_598 : decode mc_W_law 598 = .ok (.aload_n 1, 1) := by decide +kernel
theorem md_W_law_599 : decode mc_W_law 599 = .ok (.aload_n 0, 1) := by decide +kernel
theorem md_W_law_600 : decode mc_W_law 600 = .ok (.iload 4, 2) := by decide +kernel
theorem md_W_law_602 : decode mc_W_law 602 = .ok (.iconst 1, 1) := by decide +kernel
theorem md_W_law_603 : decode mc_W_law 603 = .ok (.iadd, 1) := by decide +kernel
theorem md_W_law_604 : decode mc_W_law 604 = .ok (.iaload, 1) := by decide +kernel
theorem md_W_law_605 : decode mc_W_law 605 = .ok (.aload_n 0, 1) := by decide +kernel
theorem md_W_law_606 : decode mc_W_law 606 = .ok (.iload 4, 2) := by decide +kernel
theorem md_W_law_608 : decode mc_W_law 608 = .ok (.iconst 2, 1) := by decide +kernel
theorem md_W_law_609 : decode mc_W_law 609 = .ok (.iadd, 1) := by decide +kernel
theorem md_W_law_610 : decode mc_W_law 610 = .ok (.iaload, 1) := by decide +kernel
theorem md_W_law_611 : decode mc_W_law 611 = .ok (.aload_n 3, 1) := by decide +kernel
theorem md_W_law_612 : decode mc_W_law 612 = .ok (.invokestatic 81, 3) := by decide +kernel
theorem md_W_law_615 : decode mc_W_law 615 = .ok (.istore 5, 2) := by decide +kernel
theorem md_W_law_617 : decode mc_W_law 617 = .ok (.aload_n 2, 1) := by decide +kernel
theorem md_W_law_618 : decode mc_W_law 618 = .ok (.aload_n 0, 1) := by decide +kernel
theorem md_W_law_619 : decode mc_W_law 619 = .ok (.iload 4, 2) := by decide +kernel
theorem md_W_law_621 : decode mc_W_law 621 = .ok (.iconst 1, 1) := by decide +kernel
theorem md_W_law_622 : decode mc_W_law 622 = .ok (.iadd, 1) := by decide +kernel
theorem md_W_law_623 : decode mc_W_law 623 = .ok (.iaload, 1) := by decide +kernel
theorem md_W_law_624 : decode mc_W_law 624 = .ok (.aload_n 0, 1) := by decide +kernel
theorem md_W_law_625 : decode mc_W_law 625 = .ok (.iload 4, 2) := by decide +kernel
theorem md_W_law_627 : decode mc_W_law 627 = .ok (.iconst 2, 1) := by decide +kernel
theorem md_W_law_628 : decode mc_W_law 628 = .ok (.iadd, 1) := by decide +kernel
theorem md_W_law_629 : decode mc_W_law 629 = .ok (.iaload, 1) := by decide +kernel
theorem md_W_law_630 : decode mc_W_law 630 = .ok (.invokevirtual 83, 3) := by decide +kernel
theorem md_W_law_633 : decode mc_W_law 633 = .ok (.istore 6, 2) := by decide +kernel
theorem md_W_law_635 : decode mc_W_law 635 = .ok (.aload_n 2, 1) := by decide +kernel
theorem md_W_law_636 : decode mc_W_law 636 = .ok (.invokevirtual 50, 3) := by decide +kernel
theorem md_W_law_639 : decode mc_W_law 639 = .ok (.iload 5, 2) := by decide +kernel
theorem md_W_law_641 : decode mc_W_law 641 = .ok (.if_icmp .eq 5, 3) := by decide +kernel
theorem md_W_law_644 : decode mc_W_law 644 = .ok (.iconst 0, 1) := by decide +kernel
theorem md_W_law_645 : decode mc_W_law 645 = .ok (.ireturn, 1) := by decide +kernel
theorem md_W_law_646 : decode mc_W_law 646 = .ok (.iload 5, 2) := by decide +kernel
theorem md_W_law_648 : decode mc_W_law 648 = .ok (.ifCond .ne 15, 3) := by decide +kernel
theorem md_W_law_651 : decode mc_W_law 651 = .ok (.aload_n 3, 1) := by decide +kernel
theorem md_W_law_652 : decode mc_W_law 652 = .ok (.iconst 0, 1) := by decide +kernel
theorem md_W_law_653 : decode mc_W_law 653 = .ok (.laload, 1) := by decide +kernel
theorem md_W_law_654 : decode mc_W_law 654 = .ok (.iload 6, 2) := by decide +kernel
theorem md_W_law_656 : decode mc_W_law 656 = .ok (.i2l, 1) := by decide +kernel
theorem md_W_law_657 : decode mc_W_law 657 = .ok (.lcmp, 1) := by decide +kernel
theorem md_W_law_658 : decode mc_W_law 658 = .ok (.ifCond .eq 5, 3) := by decide +kernel
theorem md_W_law_661 : decode mc_W_law 661 = .ok (.iconst 0, 1) := by decide +kernel
theorem md_W_law_662 : decode mc_W_law 662 = .ok (.ireturn, 1) := by decide +kernel
theorem md_W_law_663 : decode mc_W_law 663 = .ok (.goto 183, 3) := by decide +kernel
theorem md_W_law_666 : decode mc_W_law 666 = .ok (.aload_n 1, 1) := by decide +kernel
theorem md_W_law_667 : decode mc_W_law 667 = .ok (.aload_n 0, 1) := by decide +kernel
theorem md_W_law_668 : decode mc_W_law 668 = .ok (.iload 4, 2) := by decide +kernel
theorem md_W_law_670 : decode mc_W_law 670 = .ok (.iconst 1, 1) := by decide +kernel
theorem md_W_law_671 : decode mc_W_law 671 = .ok (.iadd, 1) := by decide +kernel
theorem md_W_law_672 : decode mc_W_law 672 = .ok (.iaload, 1) := by decide +kernel
theorem md_W_law_673 : decode mc_W_law 673 = .ok (.aload_n 0, 1) := by decide +kernel
theorem md_W_law_674 : decode mc_W_law 674 = .ok (.iload 4, 2) := by decide +kernel
theorem md_W_law_676 : decode mc_W_law 676 = .ok (.iconst 2, 1) := by decide +kernel
theorem md_W_law_677 : decode mc_W_law 677 = .ok (.iadd, 1) := by decide +kernel
theorem md_W_law_678 : decode mc_W_law 678 = .ok (.iaload, 1) := by decide +kernel
theorem md_W_law_679 : decode mc_W_law 679 = .ok (.aload_n 3, 1) := by decide +kernel
theorem md_W_law_680 : decode mc_W_law 680 = .ok (.invokestatic 84, 3) := by decide +kernel
theorem md_W_law_683 : decode mc_W_law 683 = .ok (.istore 5, 2) := by decide +kernel
theorem md_W_law_685 : decode mc_W_law 685 = .ok (.aload_n 2, 1) := by decide +kernel
theorem md_W_law_686 : decode mc_W_law 686 = .ok (.aload_n 0, 1) := by decide +kernel
theorem md_W_law_687 : decode mc_W_law 687 = .ok (.iload 4, 2) := by decide +kernel
theorem md_W_law_689 : decode mc_W_law 689 = .ok (.iconst 1, 1) := by decide +kernel
theorem md_W_law_690 : decode mc_W_law 690 = .ok (.iadd, 1) := by decide +kernel
theorem md_W_law_691 : decode mc_W_law 691 = .ok (.iaload, 1) := by decide +kernel
theorem md_W_law_692 : decode mc_W_law 692 = .ok (.aload_n 0, 1) := by decide +kernel
theorem md_W_law_693 : decode mc_W_law 693 = .ok (.iload 4, 2) := by decide +kernel
theorem md_W_law_695 : decode mc_W_law 695 = .ok (.iconst 2, 1) := by decide +kernel
theorem md_W_law_696 : decode mc_W_law 696 = .ok (.iadd, 1) := by decide +kernel
theorem md_W_law_697 : decode mc_W_law 697 = .ok (.iaload, 1) := by decide +kernel
theorem md_W_law_698 : decode mc_W_law 698 = .ok (.invokevirtual 86, 3) := by decide +kernel
theorem md_W_law_701 : decode mc_W_law 701 = .ok (.istore 6, 2) := by decide +kernel
theorem md_W_law_703 : decode mc_W_law 703 = .ok (.aload_n 2, 1) := by decide +kernel
theorem md_W_law_704 : decode mc_W_law 704 = .ok (.invokevirtual 50, 3) := by decide +kernel
theorem md_W_law_707 : decode mc_W_law 707 = .ok (.iload 5, 2) := by decide +kernel
theorem md_W_law_709 : decode mc_W_law 709 = .ok (.if_icmp .eq 5, 3) := by decide +kernel
theorem md_W_law_712 : decode mc_W_law 712 = .ok (.iconst 0, 1) := by decide +kernel
theorem md_W_law_713 : decode mc_W_law 713 = .ok (.ireturn, 1) := by decide +kernel
theorem md_W_law_714 : decode mc_W_law 714 = .ok (.iload 5, 2) := by decide +kernel
theorem md_W_law_716 : decode mc_W_law 716 = .ok (.ifCond .ne 15, 3) := by decide +kernel
theorem md_W_law_719 : decode mc_W_law 719 = .ok (.aload_n 3, 1) := by decide +kernel
theorem md_W_law_720 : decode mc_W_law 720 = .ok (.iconst 0, 1) := by decide +kernel
theorem md_W_law_721 : decode mc_W_law 721 = .ok (.laload, 1) := by decide +kernel
theorem md_W_law_722 : decode mc_W_law 722 = .ok (.iload 6, 2) := by decide +kernel
theorem md_W_law_724 : decode mc_W_law 724 = .ok (.i2l, 1) := by decide +kernel
theorem md_W_law_725 : decode mc_W_law 725 = .ok (.lcmp, 1) := by decide +kernel
theorem md_W_law_726 : decode mc_W_law 726 = .ok (.ifCond .eq 5, 3) := by decide +kernel
theorem md_W_law_729 : decode mc_W_law 729 = .ok (.iconst 0, 1) := by decide +kernel
theorem md_W_law_730 : decode mc_W_law 730 = .ok (.ireturn, 1) := by decide +kernel
theorem md_W_law_731 : decode mc_W_law 731 = .ok (.goto 115, 3) := by decide +kernel
theorem md_W_law_734 : decode mc_W_law 734 = .ok (.aload_n 1, 1) := by decide +kernel
theorem md_W_law_735 : decode mc_W_law 735 = .ok (.aload_n 0, 1) := by decide +kernel
theorem md_W_law_736 : decode mc_W_law 736 = .ok (.iload 4, 2) := by decide +kernel
theorem md_W_law_738 : decode mc_W_law 738 = .ok (.iconst 1, 1) := by decide +kernel
theorem md_W_law_739 : decode mc_W_law 739 = .ok (.iadd, 1) := by decide +kernel
theorem md_W_law_740 : decode mc_W_law 740 = .ok (.iaload, 1) := by decide +kernel
theorem md_W_law_741 : decode mc_W_law 741 = .ok (.invokevirtual 87, 3) := by decide +kernel
theorem md_W_law_744 : decode mc_W_law 744 = .ok (.aload_n 2, 1) := by decide +kernel
theorem md_W_law_745 : decode mc_W_law 745 = .ok (.aload_n 0, 1) := by decide +kernel
theorem md_W_law_746 : decode mc_W_law 746 = .ok (.iload 4, 2) := by decide +kernel
theorem md_W_law_748 : decode mc_W_law 748 = .ok (.iconst 1, 1) := by decide +kernel
theorem md_W_law_749 : decode mc_W_law 749 = .ok (.iadd, 1) := by decide +kernel
theorem md_W_law_750 : decode mc_W_law 750 = .ok (.iaload, 1) := by decide +kernel
theorem md_W_law_751 : decode mc_W_law 751 = .ok (.invokevirtual 90, 3) := by decide +kernel
theorem md_W_law_754 : decode mc_W_law 754 = .ok (.if_icmp .eq 92, 3) := by decide +kernel
theorem md_W_law_757 : decode mc_W_law 757 = .ok (.iconst 0, 1) := by decide +kernel
theorem md_W_law_758 : decode mc_W_law 758 = .ok (.ireturn, 1) := by decide +kernel
theorem md_W_law_759 : decode mc_W_law 759 = .ok (.aload_n 1, 1) := by decide +kernel
theorem md_W_law_760 : decode mc_W_law 760 = .ok (.aload_n 0, 1) := by decide +kernel
theorem md_W_law_761 : decode mc_W_law 761 = .ok (.iload 4, 2) := by decide +kernel
theorem md_W_law_763 : decode mc_W_law 763 = .ok (.iconst 1, 1) := by decide +kernel
theorem md_W_law_764 : decode mc_W_law 764 = .ok (.iadd, 1) := by decide +kernel
theorem md_W_law_765 : decode mc_W_law 765 = .ok (.iaload, 1) := by decide +kernel
theorem md_W_law_766 : decode mc_W_law 766 = .ok (.invokevirtual 91, 3) := by decide +kernel
theorem md_W_law_769 : decode mc_W_law 769 = .ok (.aload_n 2, 1) := by decide +kernel
theorem md_W_law_770 : decode mc_W_law 770 = .ok (.aload_n 0, 1) := by decide +kernel
theorem md_W_law_771 : decode mc_W_law 771 = .ok (.iload 4, 2) := by decide +kernel
theorem md_W_law_773 : decode mc_W_law 773 = .ok (.iconst 1, 1) := by decide +kernel
theorem md_W_law_774 : decode mc_W_law 774 = .ok (.iadd, 1) := by decide +kernel
theorem md_W_law_775 : decode mc_W_law 775 = .ok (.iaload, 1) := by decide +kernel
theorem md_W_law_776 : decode mc_W_law 776 = .ok (.invokevirtual 94, 3) := by decide +kernel
theorem md_W_law_779 : decode mc_W_law 779 = .ok (.if_icmp .eq 67, 3) := by decide +kernel
theorem md_W_law_782 : decode mc_W_law 782 = .ok (.iconst 0, 1) := by decide +kernel
theorem md_W_law_783 : decode mc_W_law 783 = .ok (.ireturn, 1) := by decide +kernel
theorem md_W_law_784 : decode mc_W_law 784 = .ok (.aload_n 1, 1) := by decide +kernel
theorem md_W_law_785 : decode mc_W_law 785 = .ok (.aload_n 0, 1) := by decide +kernel
theorem md_W_law_786 : decode mc_W_law 786 = .ok (.iload 4, 2) := by decide +kernel
theorem md_W_law_788 : decode mc_W_law 788 = .ok (.iconst 1, 1) := by decide +kernel
theorem md_W_law_789 : decode mc_W_law 789 = .ok (.iadd, 1) := by decide +kernel
theorem md_W_law_790 : decode mc_W_law 790 = .ok (.iaload, 1) := by decide +kernel
theorem md_W_law_791 : decode mc_W_law 791 = .ok (.aload_n 0, 1) := by decide +kernel
theorem md_W_law_792 : decode mc_W_law 792 = .ok (.iload 4, 2) := by decide +kernel
theorem md_W_law_794 : decode mc_W_law 794 = .ok (.iconst 2, 1) := by decide +kernel
theorem md_W_law_795 : decode mc_W_law 795 = .ok (.iadd, 1) := by decide +kernel
theorem md_W_law_796 : decode mc_W_law 796 = .ok (.iaload, 1) := by decide +kernel
theorem md_W_law_797 : decode mc_W_law 797 = .ok (.invokevirtual 95, 3) := by decide +kernel
theorem md_W_law_800 : decode mc_W_law 800 = .ok (.aload_n 2, 1) := by decide +kernel
theorem md_W_law_801 : decode mc_W_law 801 = .ok (.aload_n 0, 1) := by decide +kernel
theorem md_W_law_802 : decode mc_W_law 802 = .ok (.iload 4, 2) := by decide +kernel
theorem md_W_law_804 : decode mc_W_law 804 = .ok (.iconst 1, 1) := by decide +kernel
theorem md_W_law_805 : decode mc_W_law 805 = .ok (.iadd, 1) := by decide +kernel
theorem md_W_law_806 : decode mc_W_law 806 = .ok (.iaload, 1) := by decide +kernel
theorem md_W_law_807 : decode mc_W_law 807 = .ok (.aload_n 0, 1) := by decide +kernel
theorem md_W_law_808 : decode mc_W_law 808 = .ok (.iload 4, 2) := by decide +kernel
theorem md_W_law_810 : decode mc_W_law 810 = .ok (.iconst 2, 1) := by decide +kernel
theorem md_W_law_811 : decode mc_W_law 811 = .ok (.iadd, 1) := by decide +kernel
theorem md_W_law_812 : decode mc_W_law 812 = .ok (.iaload, 1) := by decide +kernel
theorem md_W_law_813 : decode mc_W_law 813 = .ok (.invokevirtual 98, 3) := by decide +kernel
theorem md_W_law_816 : decode mc_W_law 816 = .ok (.if_icmp .eq 30, 3) := by decide +kernel
theorem md_W_law_819 : decode mc_W_law 819 = .ok (.iconst 0, 1) := by decide +kernel
theorem md_W_law_820 : decode mc_W_law 820 = .ok (.ireturn, 1) := by decide +kernel
theorem md_W_law_821 : decode mc_W_law 821 = .ok (.aload_n 1, 1) := by decide +kernel
theorem md_W_law_822 : decode mc_W_law 822 = .ok (.aload_n 0, 1) := by decide +kernel
theorem md_W_law_823 : decode mc_W_law 823 = .ok (.iload 4, 2) := by decide +kernel
theorem md_W_law_825 : decode mc_W_law 825 = .ok (.iconst 1, 1) := by decide +kernel
theorem md_W_law_826 : decode mc_W_law 826 = .ok (.iadd, 1) := by decide +kernel
theorem md_W_law_827 : decode mc_W_law 827 = .ok (.iaload, 1) := by decide +kernel
theorem md_W_law_828 : decode mc_W_law 828 = .ok (.invokevirtual 99, 3) := by decide +kernel
theorem md_W_law_831 : decode mc_W_law 831 = .ok (.aload_n 2, 1) := by decide +kernel
theorem md_W_law_832 : decode mc_W_law 832 = .ok (.aload_n 0, 1) := by decide +kernel
theorem md_W_law_833 : decode mc_W_law 833 = .ok (.iload 4, 2) := by decide +kernel
theorem md_W_law_835 : decode mc_W_law 835 = .ok (.iconst 1, 1) := by decide +kernel
theorem md_W_law_836 : decode mc_W_law 836 = .ok (.iadd, 1) := by decide +kernel
theorem md_W_law_837 : decode mc_W_law 837 = .ok (.iaload, 1) := by decide +kernel
theorem md_W_law_838 : decode mc_W_law 838 = .ok (.invokevirtual 102, 3) := by decide +kernel
theorem md_W_law_841 : decode mc_W_law 841 = .ok (.if_icmp .eq 5, 3) := by decide +kernel
theorem md_W_law_844 : decode mc_W_law 844 = .ok (.iconst 0, 1) := by decide +kernel
theorem md_W_law_845 : decode mc_W_law 845 = .ok (.ireturn, 1) := by decide +kernel
theorem md_W_law_846 : decode mc_W_law 846 = .ok (.iinc 4 6, 3) := by decide +kernel
theorem md_W_law_849 : decode mc_W_law 849 = .ok (.goto (-826), 3) := by decide +kernel
theorem md_W_law_852 : decode mc_W_law 852 = .ok (.iconst 1, 1) := by decide +kernel
theorem md_W_law_853 : decode mc_W_law 853 = .ok (.ireturn, 1) := by decide +kernel
end
section
/-! the words that the rows use: those of the tables but three kinds, and two of the heap (by a program) -/
def mb_hw : List Cond := [.isRef (.static Bundle.tN "UNASSIGNED_STACK" Bundle.steD), .isRef (.static Bundle.tN "SUPPRESSED_SENTINEL" Bundle.listD)]
def mb_T : List Cond := lw_tbl ++ mb_hw
def mb_need : Cond → Bool
  | .soleField _ _ => false
  | .sameMethod _ _ _ _ => false
  | .privateMethod _ => false
  | _ => true
def mb_B : List Cond := mb_T.filter mb_need
theorem mb (i : Nat) {w : Cond} (h : mb_T[i]? = some w) (hn : mb_need w = true) : w ∈ mb_B := List.mem_filter.mpr ⟨List.mem_of_getElem? h, hn⟩
theorem mb_all {ws : List Cond} (ps : List Nat) (h : ws = ps.filterMap (fun i => mb_T[i]?)) (hn : ws.all mb_need = true) : ∀ w ∈ ws, w ∈ mb_B := by
  intro w hw
  have h1 := List.all_eq_true.mp hn w hw
  rw [h] at hw
  obtain ⟨i, -, hi⟩ := List.mem_filterMap.mp hw
  exact List.mem_filter.mpr ⟨List.mem_of_getElem? hi, h1⟩
def ma_ty : List FieldType := [.object "MessageActs$Sender", .object "MessageActs$Subject", .boolean, .object "MessageActs$Message", .int, .long]
def ma_sh : Nat → mr_Sh
  | 0 => .inl (0, [1, 1, 1, 1, 1, 1, 1, 0, 0])
  | 1 => .inr (0, 4, 2)
  | 2 => .inr (1, 16, 2)
  | 3 => .inr (2, 5, 0)
  | 4 => .inl (3, [1, 1])
  | 5 => .inr (3, 25, 2)
  | 6 => .inr (2, 25, 0)
  | 7 => .inl (4, [0, 0, 0])
  | 8 => .inl (1, [1, 0])
  | 9 => .inr (3, 96, 2)
  | 10 => .inl (2, [0, 0, 1, 0, 0, 0, 0, 0])
  | 20 => .inl (5, [0, 0, 1, 1, 1, 1, 1, 1, 1, 1, 1, 1, 1, 1, 1, 1, 0, 1, 0, 1, 0, 1, 0])
  | 21 => .inr (4, 16, 0)
  | 22 => .inr (4, 16, 0)
  | 23 => .inr (4, 16, 0)
  | 24 => .inr (2, 96, 0)
  | 25 => .inr (2, 96, 0)
  | 26 => .inr (4, 96, 0)
  | 27 => .inr (4, 96, 0)
  | 28 => .inr (4, 96, 0)
  | 29 => .inr (4, 96, 0)
  | 30 => .inr (4, 96, 0)
  | 31 => .inr (4, 96, 0)
  | 32 => .inr (4, 96, 0)
  | 33 => .inr (2, 96, 0)
  | 34 => .inr (4, 96, 0)
  | 35 => .inr (2, 5, 0)
  | 36 => .inr (4, 96, 0)
  | 37 => .inr (4, 96, 0)
  | 40 => .inr (5, 1, 1)
  | _ => .inl (99, [])
theorem mb_cA : ∀ w ∈ u_ws mn_RA mn_TA 9, w ∈ mb_B := mb_all [105, 107, 109, 111, 113, 115, 117, 119, 121] (by decide +kernel) (by decide +kernel)
theorem mb_cL : ∀ w ∈ u_ws mn_RL mn_TL 2, w ∈ mb_B := mb_all [59, 61] (by decide +kernel) (by decide +kernel)
theorem mb_cG : ∀ w ∈ u_ws mn_RG mn_TG 8, w ∈ mb_B := mb_all [306, 308, 310, 312, 314, 316, 318, 320] (by decide +kernel) (by decide +kernel)
theorem mb_cS : ∀ w ∈ u_ws mn_RS mn_TS 2, w ∈ mb_B := mb_all [73, 75] (by decide +kernel) (by decide +kernel)
theorem mb_cU : ∀ w ∈ u_ws mn_RU mn_TU 3, w ∈ mb_B := mb_all [89, 91, 93] (by decide +kernel) (by decide +kernel)
theorem mb_cB : ∀ w ∈ u_ws mn_RB mn_TB 23, w ∈ mb_B := mb_all [500, 502, 504, 506, 508, 510, 512, 514, 516, 518, 520, 522, 524, 526, 528, 530, 532, 534, 536, 538, 540, 542, 544] (by decide +kernel) (by decide +kernel)
theorem ms_A_3 : Cond.methodLink mn_RA 3 objectInit ∈ mb_B := mb 41 (by decide +kernel) rfl
theorem mq_A_9 : Cond.classLink mn_RA 9 mn_RS ∈ mb_B ∧ Cond.arrayOver (.object mn_RS) ∈ mb_B := ⟨mb 44 (by decide +kernel) rfl, mb 45 (by decide +kernel) rfl⟩
theorem mf_A_11 : mr_Fd mb_B mn_cl ma_sh mn_RA 11 0 0 1 (.array (.object "MessageActs$Sender")) 1 := ⟨0, [1, 1, 1, 1, 1, 1, 1, 0, 0], mn_RA, mn_TA, 9, mn_yA, rfl, rfl, mb_cA, mn_pA, mn_nA, by decide, mb 96 (by decide +kernel) rfl, rfl, rfl, rfl, fun _ => rfl, rfl⟩
theorem mq_A_15 : Cond.classLink mn_RA 15 mn_RU ∈ mb_B ∧ Cond.arrayOver (.object mn_RU) ∈ mb_B := ⟨mb 46 (by decide +kernel) rfl, mb 47 (by decide +kernel) rfl⟩
theorem mf_A_17 : mr_Fd mb_B mn_cl ma_sh mn_RA 17 0 1 1 (.array (.object "MessageActs$Subject")) 1 := ⟨0, [1, 1, 1, 1, 1, 1, 1, 0, 0], mn_RA, mn_TA, 9, mn_yA, rfl, rfl, mb_cA, mn_pA, mn_nA, by decide, mb 97 (by decide +kernel) rfl, rfl, rfl, rfl, fun _ => rfl, rfl⟩
theorem mf_A_21 : mr_Fd mb_B mn_cl ma_sh mn_RA 21 0 2 1 (.array .boolean) 1 := ⟨0, [1, 1, 1, 1, 1, 1, 1, 0, 0], mn_RA, mn_TA, 9, mn_yA, rfl, rfl, mb_cA, mn_pA, mn_nA, by decide, mb 98 (by decide +kernel) rfl, rfl, rfl, rfl, fun _ => rfl, rfl⟩
theorem mw_A_25 : mr_Nd mb_B mn_cl ma_sh mn_RA 25 8 2 := ⟨1, [1, 0], mn_RL, mn_TL, mn_yL, rfl, rfl, mb_cL, mn_pL, mb 48 (by decide +kernel) rfl, mb 49 (by decide +kernel) rfl, mb 26 (by decide +kernel) rfl, by decide +kernel⟩
theorem ms_A_27 : mr_INs mb_B mn_RA "MessageActs" 27 my_L_init mc_L_init 1 0 := ⟨⟨by decide, mb 26 (by decide +kernel) rfl, mb 52 (by decide +kernel) rfl, by decide +kernel, by decide +kernel⟩, mb 50 (by decide +kernel) rfl, mb 51 (by decide +kernel) rfl, rfl⟩
theorem mf_A_28 : mr_Fd mb_B mn_cl ma_sh mn_RA 28 0 3 1 (.object "MessageActs$Line") 1 := ⟨0, [1, 1, 1, 1, 1, 1, 1, 0, 0], mn_RA, mn_TA, 9, mn_yA, rfl, rfl, mb_cA, mn_pA, mn_nA, by decide, mb 99 (by decide +kernel) rfl, rfl, rfl, rfl, fun _ => rfl, rfl⟩
theorem mf_A_32 : mr_Fd mb_B mn_cl ma_sh mn_RA 32 0 4 1 (.object "MessageActs$Line") 1 := ⟨0, [1, 1, 1, 1, 1, 1, 1, 0, 0], mn_RA, mn_TA, 9, mn_yA, rfl, rfl, mb_cA, mn_pA, mn_nA, by decide, mb 100 (by decide +kernel) rfl, rfl, rfl, rfl, fun _ => rfl, rfl⟩
theorem mf_A_35 : mr_Fd mb_B mn_cl ma_sh mn_RA 35 0 5 1 (.object "MessageActs$Line") 1 := ⟨0, [1, 1, 1, 1, 1, 1, 1, 0, 0], mn_RA, mn_TA, 9, mn_yA, rfl, rfl, mb_cA, mn_pA, mn_nA, by decide, mb 101 (by decide +kernel) rfl, rfl, rfl, rfl, fun _ => rfl, rfl⟩
theorem mf_A_38 : mr_Fd mb_B mn_cl ma_sh mn_RA 38 0 6 1 (.object "MessageActs$Line") 1 := ⟨0, [1, 1, 1, 1, 1, 1, 1, 0, 0], mn_RA, mn_TA, 9, mn_yA, rfl, rfl, mb_cA, mn_pA, mn_nA, by decide, mb 102 (by decide +kernel) rfl, rfl, rfl, rfl, fun _ => rfl, rfl⟩
theorem mf_A_41 : mr_Fd mb_B mn_cl ma_sh mn_RA 41 0 7 0 .int 0 := ⟨0, [1, 1, 1, 1, 1, 1, 1, 0, 0], mn_RA, mn_TA, 9, mn_yA, rfl, rfl, mb_cA, mn_pA, mn_nA, by decide, mb 103 (by decide +kernel) rfl, rfl, rfl, rfl, (fun h => by cases h), rfl⟩
theorem mf_A_45 : mr_Fd mb_B mn_cl ma_sh mn_RA 45 0 8 0 .int 0 := ⟨0, [1, 1, 1, 1, 1, 1, 1, 0, 0], mn_RA, mn_TA, 9, mn_yA, rfl, rfl, mb_cA, mn_pA, mn_nA, by decide, mb 104 (by decide +kernel) rfl, rfl, rfl, rfl, (fun h => by cases h), rfl⟩
theorem mw_A_9 : mr_Nd mb_B mn_cl ma_sh mn_RA 9 4 2 := ⟨3, [1, 1], mn_RS, mn_TS, mn_yS, rfl, rfl, mb_cS, mn_pS, mb 44 (by decide +kernel) rfl, mb 65 (by decide +kernel) rfl, mb 27 (by decide +kernel) rfl, by decide +kernel⟩
theorem ms_A_48 : mr_INs mb_B mn_RA "MessageActs" 48 my_S_init mc_S_init 1 0 := ⟨⟨by decide, mb 27 (by decide +kernel) rfl, mb 68 (by decide +kernel) rfl, by decide +kernel, by decide +kernel⟩, mb 66 (by decide +kernel) rfl, mb 67 (by decide +kernel) rfl, rfl⟩
theorem mw_A_15 : mr_Nd mb_B mn_cl ma_sh mn_RA 15 7 3 := ⟨4, [0, 0, 0], mn_RU, mn_TU, mn_yU, rfl, rfl, mb_cU, mn_pU, mb 46 (by decide +kernel) rfl, mb 78 (by decide +kernel) rfl, mb 28 (by decide +kernel) rfl, by decide +kernel⟩
theorem ms_A_49 : mr_INs mb_B mn_RA "MessageActs" 49 my_U_init mc_U_init 1 0 := ⟨⟨by decide, mb 28 (by decide +kernel) rfl, mb 81 (by decide +kernel) rfl, by decide +kernel, by decide +kernel⟩, mb 79 (by decide +kernel) rfl, mb 80 (by decide +kernel) rfl, rfl⟩
theorem ms_A_50 : mr_Ss mb_B mn_RA 50 my_A_checkSender mc_A_checkSender 1 none 1 := ⟨⟨by decide, mb 25 (by decide +kernel) rfl, mb 200 (by decide +kernel) rfl, by decide +kernel, by decide +kernel⟩, mb 198 (by decide +kernel) rfl, mb 199 (by decide +kernel) rfl⟩
theorem ms_A_54 : mr_Ss mb_B mn_RA 54 my_A_checkNumber mc_A_checkNumber 1 none 1 := ⟨⟨by decide, mb 25 (by decide +kernel) rfl, mb 270 (by decide +kernel) rfl, by decide +kernel, by decide +kernel⟩, mb 268 (by decide +kernel) rfl, mb 269 (by decide +kernel) rfl⟩
theorem ms_A_57 : mr_Ss mb_B mn_RA 57 my_A_checkContent mc_A_checkContent 3 none 3 := ⟨⟨by decide, mb 25 (by decide +kernel) rfl, mb 275 (by decide +kernel) rfl, by decide +kernel, by decide +kernel⟩, mb 273 (by decide +kernel) rfl, mb 274 (by decide +kernel) rfl⟩
theorem ms_A_61 : mr_Vs mb_B mn_RA mn_RS 61 my_S_isGap mc_S_isGap 2 (some .boolean) 1 := ⟨⟨by decide, mb 27 (by decide +kernel) rfl, mb 167 (by decide +kernel) rfl, by decide +kernel, by decide +kernel⟩, mb 280 (by decide +kernel) rfl, mb 165 (by decide +kernel) rfl, mb 166 (by decide +kernel) rfl⟩
theorem mw_A_65 : mr_Nd mb_B mn_cl ma_sh mn_RA 65 10 8 := ⟨2, [0, 0, 1, 0, 0, 0, 0, 0], mn_RG, mn_TG, mn_yG, rfl, rfl, mb_cG, mn_pG, mb 281 (by decide +kernel) rfl, mb 282 (by decide +kernel) rfl, mb 34 (by decide +kernel) rfl, by decide +kernel⟩
theorem ms_A_67 : mr_Is mb_B mn_RA 67 my_G_init mc_G_init 5 4 := ⟨⟨by decide, mb 34 (by decide +kernel) rfl, mb 285 (by decide +kernel) rfl, by decide +kernel, by decide +kernel⟩, mb 283 (by decide +kernel) rfl, mb 284 (by decide +kernel) rfl, rfl⟩
theorem ms_A_70 : mr_Vs mb_B mn_RA mn_RS 70 my_S_put mc_S_put 3 none 2 := ⟨⟨by decide, mb 27 (by decide +kernel) rfl, mb 326 (by decide +kernel) rfl, by decide +kernel, by decide +kernel⟩, mb 323 (by decide +kernel) rfl, mb 324 (by decide +kernel) rfl, mb 325 (by decide +kernel) rfl⟩
theorem ms_A_74 : mr_Vs mb_B mn_RA mn_RA 74 my_A_come mc_A_come 3 none 2 := ⟨⟨by decide, mb 25 (by decide +kernel) rfl, mb 330 (by decide +kernel) rfl, by decide +kernel, by decide +kernel⟩, mb 327 (by decide +kernel) rfl, mb 329 (by decide +kernel) rfl, mb 1 (by decide +kernel) rfl⟩
theorem ms_A_78 : mr_Ss mb_B mn_RA 78 my_A_received mc_A_received 1 (some .int) 1 := ⟨⟨by decide, mb 25 (by decide +kernel) rfl, mb 376 (by decide +kernel) rfl, by decide +kernel, by decide +kernel⟩, mb 374 (by decide +kernel) rfl, mb 375 (by decide +kernel) rfl⟩
theorem ms_A_82 : mr_Vs mb_B mn_RA mn_RS 82 my_S_get mc_S_get 2 (some (.object "MessageActs$Message")) 1 := ⟨⟨by decide, mb 27 (by decide +kernel) rfl, mb 181 (by decide +kernel) rfl, by decide +kernel, by decide +kernel⟩, mb 373 (by decide +kernel) rfl, mb 179 (by decide +kernel) rfl, mb 180 (by decide +kernel) rfl⟩
theorem mf_A_86 : mr_Fd mb_B mn_cl ma_sh mn_RA 86 10 4 0 .int 0 := ⟨2, [0, 0, 1, 0, 0, 0, 0, 0], mn_RG, mn_TG, 8, mn_yG, rfl, rfl, mb_cG, mn_pG, mn_nG, by decide, mb 297 (by decide +kernel) rfl, rfl, rfl, rfl, (fun h => by cases h), rfl⟩
theorem mf_A_89 : mr_Fd mb_B mn_cl ma_sh mn_RA 89 10 5 0 .int 0 := ⟨2, [0, 0, 1, 0, 0, 0, 0, 0], mn_RG, mn_TG, 8, mn_yG, rfl, rfl, mb_cG, mn_pG, mn_nG, by decide, mb 300 (by decide +kernel) rfl, rfl, rfl, rfl, (fun h => by cases h), rfl⟩
theorem ms_A_92 : mr_Ss mb_B mn_RA 92 my_A_isSubject mc_A_isSubject 1 (some .boolean) 1 := ⟨⟨by decide, mb 25 (by decide +kernel) rfl, mb 130 (by decide +kernel) rfl, by decide +kernel, by decide +kernel⟩, mb 128 (by decide +kernel) rfl, mb 129 (by decide +kernel) rfl⟩
theorem mf_A_95 : mr_Fd mb_B mn_cl ma_sh mn_RA 95 7 0 0 .int 0 := ⟨4, [0, 0, 0], mn_RU, mn_TU, 3, mn_yU, rfl, rfl, mb_cU, mn_pU, mn_nU, by decide, mb 84 (by decide +kernel) rfl, rfl, rfl, rfl, (fun h => by cases h), rfl⟩
theorem ms_A_98 : mr_Ss mb_B mn_RA 98 my_A_isFunction mc_A_isFunction 1 (some .boolean) 1 := ⟨⟨by decide, mb 25 (by decide +kernel) rfl, mb 137 (by decide +kernel) rfl, by decide +kernel, by decide +kernel⟩, mb 135 (by decide +kernel) rfl, mb 136 (by decide +kernel) rfl⟩
theorem mk_A_101 : Cond.constant mn_RA 101 100000 ∈ mb_B := mb 398 (by decide +kernel) rfl
theorem mw_A_102 : Cond.classLink mn_RA 102 "java/lang/IllegalArgumentException" ∈ mb_B ∧ Cond.initialized "java/lang/IllegalArgumentException" ∈ mb_B := ⟨mb 201 (by decide +kernel) rfl, mb 33 (by decide +kernel) rfl⟩
theorem mk_A_104 : Cond.stringRef mn_RA 104 "no time, or one that is over" ∈ mb_B := mb 399 (by decide +kernel) rfl
theorem mf_A_109 : mr_Fd mb_B mn_cl ma_sh mn_RA 109 8 1 0 .int 0 := ⟨1, [1, 0], mn_RL, mn_TL, 2, mn_yL, rfl, rfl, mb_cL, mn_pL, mn_nL, by decide, mb 58 (by decide +kernel) rfl, rfl, rfl, rfl, (fun h => by cases h), rfl⟩
theorem ms_A_112 : mr_Vs mb_B mn_RA mn_RA 112 my_A_tryFailedAgain mc_A_tryFailedAgain 4 none 0 := ⟨⟨by decide, mb 25 (by decide +kernel) rfl, mb 403 (by decide +kernel) rfl, by decide +kernel, by decide +kernel⟩, mb 400 (by decide +kernel) rfl, mb 402 (by decide +kernel) rfl, mb 9 (by decide +kernel) rfl⟩
theorem ms_A_115 : mr_Vs mb_B mn_RA mn_RA 115 my_A_endLongWaits mc_A_endLongWaits 3 none 0 := ⟨⟨by decide, mb 25 (by decide +kernel) rfl, mb 408 (by decide +kernel) rfl, by decide +kernel, by decide +kernel⟩, mb 405 (by decide +kernel) rfl, mb 407 (by decide +kernel) rfl, mb 10 (by decide +kernel) rfl⟩
theorem ms_A_118 : mr_Vs mb_B mn_RA mn_RS 118 my_S_leastGap mc_S_leastGap 2 (some .int) 0 := ⟨⟨by decide, mb 27 (by decide +kernel) rfl, mb 163 (by decide +kernel) rfl, by decide +kernel, by decide +kernel⟩, mb 160 (by decide +kernel) rfl, mb 161 (by decide +kernel) rfl, mb 162 (by decide +kernel) rfl⟩
theorem ms_A_122 : mr_Vs mb_B mn_RA mn_RS 122 my_S_cameBehind mc_S_cameBehind 5 (some .boolean) 2 := ⟨⟨by decide, mb 27 (by decide +kernel) rfl, mb 419 (by decide +kernel) rfl, by decide +kernel, by decide +kernel⟩, mb 416 (by decide +kernel) rfl, mb 417 (by decide +kernel) rfl, mb 418 (by decide +kernel) rfl⟩
theorem ms_A_126 : mr_Vs mb_B mn_RA mn_RS 126 my_S_close mc_S_close 2 none 1 := ⟨⟨by decide, mb 27 (by decide +kernel) rfl, mb 423 (by decide +kernel) rfl, by decide +kernel, by decide +kernel⟩, mb 420 (by decide +kernel) rfl, mb 421 (by decide +kernel) rfl, mb 422 (by decide +kernel) rfl⟩
theorem ms_A_129 : mr_Vs mb_B mn_RA mn_RA 129 my_A_giveTurns mc_A_giveTurns 5 none 1 := ⟨⟨by decide, mb 25 (by decide +kernel) rfl, mb 372 (by decide +kernel) rfl, by decide +kernel, by decide +kernel⟩, mb 369 (by decide +kernel) rfl, mb 371 (by decide +kernel) rfl, mb 8 (by decide +kernel) rfl⟩
theorem ms_A_133 : mr_Vs mb_B mn_RA mn_RS 133 my_S_loseHeld mc_S_loseHeld 4 (some .int) 0 := ⟨⟨by decide, mb 27 (by decide +kernel) rfl, mb 434 (by decide +kernel) rfl, by decide +kernel, by decide +kernel⟩, mb 431 (by decide +kernel) rfl, mb 432 (by decide +kernel) rfl, mb 433 (by decide +kernel) rfl⟩
theorem mw_A_136 : Cond.classLink mn_RA 136 "java/lang/IndexOutOfBoundsException" ∈ mb_B ∧ Cond.initialized "java/lang/IndexOutOfBoundsException" ∈ mb_B := ⟨mb 450 (by decide +kernel) rfl, mb 35 (by decide +kernel) rfl⟩
theorem mk_A_138 : Cond.stringRef mn_RA 138 "no such subject" ∈ mb_B := mb 459 (by decide +kernel) rfl
theorem mf_A_141 : mr_Fd mb_B mn_cl ma_sh mn_RA 141 7 1 0 .int 0 := ⟨4, [0, 0, 0], mn_RU, mn_TU, 3, mn_yU, rfl, rfl, mb_cU, mn_pU, mn_nU, by decide, mb 86 (by decide +kernel) rfl, rfl, rfl, rfl, (fun h => by cases h), rfl⟩
theorem mf_A_144 : mr_Fd mb_B mn_cl ma_sh mn_RA 144 7 2 0 .int 0 := ⟨4, [0, 0, 0], mn_RU, mn_TU, 3, mn_yU, rfl, rfl, mb_cU, mn_pU, mn_nU, by decide, mb 88 (by decide +kernel) rfl, rfl, rfl, rfl, (fun h => by cases h), rfl⟩
theorem ms_A_146 : mr_Vs mb_B mn_RA mn_RL 146 my_L_lengthFor mc_L_lengthFor 5 (some .int) 1 := ⟨⟨by decide, mb 26 (by decide +kernel) rfl, mb 469 (by decide +kernel) rfl, by decide +kernel, by decide +kernel⟩, mb 466 (by decide +kernel) rfl, mb 467 (by decide +kernel) rfl, mb 468 (by decide +kernel) rfl⟩
theorem mk_A_150 : Cond.stringRef mn_RA 150 "no such what" ∈ mb_B := mb 470 (by decide +kernel) rfl
theorem ms_A_152 : mr_Ss mb_B mn_RA 152 my_A_nameAt mc_A_nameAt 3 (some .int) 2 := ⟨⟨by decide, mb 25 (by decide +kernel) rfl, mb 144 (by decide +kernel) rfl, by decide +kernel, by decide +kernel⟩, mb 142 (by decide +kernel) rfl, mb 143 (by decide +kernel) rfl⟩
theorem ms_A_156 : mr_Ss mb_B mn_RA 156 my_A_isSender mc_A_isSender 1 (some .boolean) 1 := ⟨⟨by decide, mb 25 (by decide +kernel) rfl, mb 159 (by decide +kernel) rfl, by decide +kernel, by decide +kernel⟩, mb 157 (by decide +kernel) rfl, mb 158 (by decide +kernel) rfl⟩
theorem ms_A_159 : mr_Vs mb_B mn_RA mn_RS 159 my_S_withStatus mc_S_withStatus 5 (some .int) 1 := ⟨⟨by decide, mb 27 (by decide +kernel) rfl, mb 177 (by decide +kernel) rfl, by decide +kernel, by decide +kernel⟩, mb 174 (by decide +kernel) rfl, mb 175 (by decide +kernel) rfl, mb 176 (by decide +kernel) rfl⟩
theorem ms_A_163 : mr_Vs mb_B mn_RA mn_RS 163 my_S_greatest mc_S_greatest 2 (some .int) 0 := ⟨⟨by decide, mb 27 (by decide +kernel) rfl, mb 185 (by decide +kernel) rfl, by decide +kernel, by decide +kernel⟩, mb 182 (by decide +kernel) rfl, mb 183 (by decide +kernel) rfl, mb 184 (by decide +kernel) rfl⟩
theorem mk_A_166 : Cond.stringRef mn_RA 166 "no such sender" ∈ mb_B := mb 241 (by decide +kernel) rfl
theorem ms_A_168 : mr_Ss mb_B mn_RA 168 my_A_isNumber mc_A_isNumber 1 (some .boolean) 1 := ⟨⟨by decide, mb 25 (by decide +kernel) rfl, mb 170 (by decide +kernel) rfl, by decide +kernel, by decide +kernel⟩, mb 271 (by decide +kernel) rfl, mb 169 (by decide +kernel) rfl⟩
theorem mk_A_171 : Cond.stringRef mn_RA 171 "no such number" ∈ mb_B := mb 272 (by decide +kernel) rfl
theorem ms_A_173 : mr_Ss mb_B mn_RA 173 my_A_isWithin mc_A_isWithin 2 (some .boolean) 2 := ⟨⟨by decide, mb 25 (by decide +kernel) rfl, mb 278 (by decide +kernel) rfl, by decide +kernel, by decide +kernel⟩, mb 276 (by decide +kernel) rfl, mb 277 (by decide +kernel) rfl⟩
theorem mk_A_176 : Cond.stringRef mn_RA 176 "no such function, subject or value" ∈ mb_B := mb 279 (by decide +kernel) rfl
theorem mf_A_178 : mr_Fd mb_B mn_cl ma_sh mn_RA 178 10 6 0 .int 0 := ⟨2, [0, 0, 1, 0, 0, 0, 0, 0], mn_RG, mn_TG, 8, mn_yG, rfl, rfl, mb_cG, mn_pG, mn_nG, by decide, mb 303 (by decide +kernel) rfl, rfl, rfl, rfl, (fun h => by cases h), rfl⟩
theorem mf_A_181 : mr_Fd mb_B mn_cl ma_sh mn_RA 181 10 1 0 .int 2 := ⟨2, [0, 0, 1, 0, 0, 0, 0, 0], mn_RG, mn_TG, 8, mn_yG, rfl, rfl, mb_cG, mn_pG, mn_nG, by decide, mb 290 (by decide +kernel) rfl, rfl, rfl, rfl, (fun h => by cases h), rfl⟩
theorem ms_A_184 : mr_Vs mb_B mn_RA mn_RA 184 my_A_haveTurn mc_A_haveTurn 5 none 2 := ⟨⟨by decide, mb 25 (by decide +kernel) rfl, mb 334 (by decide +kernel) rfl, by decide +kernel, by decide +kernel⟩, mb 331 (by decide +kernel) rfl, mb 333 (by decide +kernel) rfl, mb 2 (by decide +kernel) rfl⟩
theorem ms_A_188 : mr_Vs mb_B mn_RA mn_RA 188 my_A_settle mc_A_settle 4 none 2 := ⟨⟨by decide, mb 25 (by decide +kernel) rfl, mb 338 (by decide +kernel) rfl, by decide +kernel, by decide +kernel⟩, mb 335 (by decide +kernel) rfl, mb 337 (by decide +kernel) rfl, mb 3 (by decide +kernel) rfl⟩
theorem mf_A_191 : mr_Fd mb_B mn_cl ma_sh mn_RA 191 10 2 1 (.object "MessageActs$Subject") 2 := ⟨2, [0, 0, 1, 0, 0, 0, 0, 0], mn_RG, mn_TG, 8, mn_yG, rfl, rfl, mb_cG, mn_pG, mn_nG, by decide, mb 293 (by decide +kernel) rfl, rfl, rfl, rfl, (fun h => by cases h), rfl⟩
theorem ms_A_195 : mr_Vs mb_B mn_RA mn_RL 195 my_L_takeFirstFor mc_L_takeFirstFor 4 (some (.object "MessageActs$Message")) 1 := ⟨⟨by decide, mb 26 (by decide +kernel) rfl, mb 363 (by decide +kernel) rfl, by decide +kernel, by decide +kernel⟩, mb 360 (by decide +kernel) rfl, mb 361 (by decide +kernel) rfl, mb 362 (by decide +kernel) rfl⟩
theorem ms_A_199 : mr_Vs mb_B mn_RA mn_RA 199 my_A_verdict mc_A_verdict 3 (some .int) 1 := ⟨⟨by decide, mb 25 (by decide +kernel) rfl, mb 342 (by decide +kernel) rfl, by decide +kernel, by decide +kernel⟩, mb 339 (by decide +kernel) rfl, mb 341 (by decide +kernel) rfl, mb 4 (by decide +kernel) rfl⟩
theorem mf_A_202 : mr_Fd mb_B mn_cl ma_sh mn_RA 202 10 7 0 .int 0 := ⟨2, [0, 0, 1, 0, 0, 0, 0, 0], mn_RG, mn_TG, 8, mn_yG, rfl, rfl, mb_cG, mn_pG, mn_nG, by decide, mb 305 (by decide +kernel) rfl, rfl, rfl, rfl, (fun h => by cases h), rfl⟩
theorem ms_A_205 : mr_Vs mb_B mn_RA mn_RL 205 my_L_append mc_L_append 2 none 1 := ⟨⟨by decide, mb 26 (by decide +kernel) rfl, mb 351 (by decide +kernel) rfl, by decide +kernel, by decide +kernel⟩, mb 348 (by decide +kernel) rfl, mb 349 (by decide +kernel) rfl, mb 350 (by decide +kernel) rfl⟩
theorem ms_A_209 : mr_Vs mb_B mn_RA mn_RA 209 my_A_fail mc_A_fail 4 none 2 := ⟨⟨by decide, mb 25 (by decide +kernel) rfl, mb 355 (by decide +kernel) rfl, by decide +kernel, by decide +kernel⟩, mb 352 (by decide +kernel) rfl, mb 354 (by decide +kernel) rfl, mb 6 (by decide +kernel) rfl⟩
theorem ms_A_212 : mr_Vs mb_B mn_RA mn_RA 212 my_A_perform mc_A_perform 3 none 1 := ⟨⟨by decide, mb 25 (by decide +kernel) rfl, mb 359 (by decide +kernel) rfl, by decide +kernel, by decide +kernel⟩, mb 356 (by decide +kernel) rfl, mb 358 (by decide +kernel) rfl, mb 7 (by decide +kernel) rfl⟩
theorem mf_A_215 : mr_Fd mb_B mn_cl ma_sh mn_RA 215 10 3 0 .int 2 := ⟨2, [0, 0, 1, 0, 0, 0, 0, 0], mn_RG, mn_TG, 8, mn_yG, rfl, rfl, mb_cG, mn_pG, mn_nG, by decide, mb 295 (by decide +kernel) rfl, rfl, rfl, rfl, (fun h => by cases h), rfl⟩
theorem mk_A_218 : Cond.constant mn_RA 218 1000000 ∈ mb_B := mb 343 (by decide +kernel) rfl
theorem ms_A_219 : mr_Vs mb_B mn_RA mn_RA 219 my_A_verdictIfOpenIsAsked mc_A_verdictIfOpenIsAsked 2 (some .int) 1 := ⟨⟨by decide, mb 25 (by decide +kernel) rfl, mb 347 (by decide +kernel) rfl, by decide +kernel, by decide +kernel⟩, mb 344 (by decide +kernel) rfl, mb 346 (by decide +kernel) rfl, mb 5 (by decide +kernel) rfl⟩
theorem ms_A_222 : mr_Vs mb_B mn_RA mn_RL 222 my_L_take mc_L_take 4 (some (.object "MessageActs$Message")) 1 := ⟨⟨by decide, mb 26 (by decide +kernel) rfl, mb 368 (by decide +kernel) rfl, by decide +kernel, by decide +kernel⟩, mb 404 (by decide +kernel) rfl, mb 366 (by decide +kernel) rfl, mb 367 (by decide +kernel) rfl⟩
theorem ms_A_225 : mr_Vs mb_B mn_RA mn_RL 225 my_L_get mc_L_get 2 (some (.object "MessageActs$Message")) 1 := ⟨⟨by decide, mb 26 (by decide +kernel) rfl, mb 148 (by decide +kernel) rfl, by decide +kernel, by decide +kernel⟩, mb 145 (by decide +kernel) rfl, mb 146 (by decide +kernel) rfl, mb 147 (by decide +kernel) rfl⟩
theorem mf_A_226 : mr_Fd mb_B mn_cl ma_sh mn_RA 226 10 0 0 .int 2 := ⟨2, [0, 0, 1, 0, 0, 0, 0, 0], mn_RG, mn_TG, 8, mn_yG, rfl, rfl, mb_cG, mn_pG, mn_nG, by decide, mb 288 (by decide +kernel) rfl, rfl, rfl, rfl, (fun h => by cases h), rfl⟩
theorem ms_B_1 : Cond.methodLink mn_RB 1 objectInit ∈ mb_B := mb 476 (by decide +kernel) rfl
theorem mf_B_7 : mr_Fd mb_B mn_cl ma_sh mn_RB 7 20 2 1 (.array .int) 1 := ⟨5, [0, 0, 1, 1, 1, 1, 1, 1, 1, 1, 1, 1, 1, 1, 1, 1, 0, 1, 0, 1, 0, 1, 0], mn_RB, mn_TB, 23, mn_yB, rfl, rfl, mb_cB, mn_pB, mn_nB, by decide, mb 479 (by decide +kernel) rfl, rfl, rfl, rfl, fun _ => rfl, rfl⟩
theorem mf_B_13 : mr_Fd mb_B mn_cl ma_sh mn_RB 13 20 3 1 (.array .int) 1 := ⟨5, [0, 0, 1, 1, 1, 1, 1, 1, 1, 1, 1, 1, 1, 1, 1, 1, 0, 1, 0, 1, 0, 1, 0], mn_RB, mn_TB, 23, mn_yB, rfl, rfl, mb_cB, mn_pB, mn_nB, by decide, mb 480 (by decide +kernel) rfl, rfl, rfl, rfl, fun _ => rfl, rfl⟩
theorem mf_B_16 : mr_Fd mb_B mn_cl ma_sh mn_RB 16 20 4 1 (.array .int) 1 := ⟨5, [0, 0, 1, 1, 1, 1, 1, 1, 1, 1, 1, 1, 1, 1, 1, 1, 0, 1, 0, 1, 0, 1, 0], mn_RB, mn_TB, 23, mn_yB, rfl, rfl, mb_cB, mn_pB, mn_nB, by decide, mb 481 (by decide +kernel) rfl, rfl, rfl, rfl, fun _ => rfl, rfl⟩
theorem mf_B_19 : mr_Fd mb_B mn_cl ma_sh mn_RB 19 20 5 1 (.array .boolean) 1 := ⟨5, [0, 0, 1, 1, 1, 1, 1, 1, 1, 1, 1, 1, 1, 1, 1, 1, 0, 1, 0, 1, 0, 1, 0], mn_RB, mn_TB, 23, mn_yB, rfl, rfl, mb_cB, mn_pB, mn_nB, by decide, mb 482 (by decide +kernel) rfl, rfl, rfl, rfl, fun _ => rfl, rfl⟩
theorem mf_B_23 : mr_Fd mb_B mn_cl ma_sh mn_RB 23 20 6 1 (.array .boolean) 1 := ⟨5, [0, 0, 1, 1, 1, 1, 1, 1, 1, 1, 1, 1, 1, 1, 1, 1, 0, 1, 0, 1, 0, 1, 0], mn_RB, mn_TB, 23, mn_yB, rfl, rfl, mb_cB, mn_pB, mn_nB, by decide, mb 483 (by decide +kernel) rfl, rfl, rfl, rfl, fun _ => rfl, rfl⟩
theorem mf_B_26 : mr_Fd mb_B mn_cl ma_sh mn_RB 26 20 7 1 (.array .int) 1 := ⟨5, [0, 0, 1, 1, 1, 1, 1, 1, 1, 1, 1, 1, 1, 1, 1, 1, 0, 1, 0, 1, 0, 1, 0], mn_RB, mn_TB, 23, mn_yB, rfl, rfl, mb_cB, mn_pB, mn_nB, by decide, mb 484 (by decide +kernel) rfl, rfl, rfl, rfl, fun _ => rfl, rfl⟩
theorem mf_B_29 : mr_Fd mb_B mn_cl ma_sh mn_RB 29 20 8 1 (.array .int) 1 := ⟨5, [0, 0, 1, 1, 1, 1, 1, 1, 1, 1, 1, 1, 1, 1, 1, 1, 0, 1, 0, 1, 0, 1, 0], mn_RB, mn_TB, 23, mn_yB, rfl, rfl, mb_cB, mn_pB, mn_nB, by decide, mb 485 (by decide +kernel) rfl, rfl, rfl, rfl, fun _ => rfl, rfl⟩
theorem mf_B_32 : mr_Fd mb_B mn_cl ma_sh mn_RB 32 20 9 1 (.array .int) 1 := ⟨5, [0, 0, 1, 1, 1, 1, 1, 1, 1, 1, 1, 1, 1, 1, 1, 1, 0, 1, 0, 1, 0, 1, 0], mn_RB, mn_TB, 23, mn_yB, rfl, rfl, mb_cB, mn_pB, mn_nB, by decide, mb 486 (by decide +kernel) rfl, rfl, rfl, rfl, fun _ => rfl, rfl⟩
theorem mf_B_35 : mr_Fd mb_B mn_cl ma_sh mn_RB 35 20 10 1 (.array .int) 1 := ⟨5, [0, 0, 1, 1, 1, 1, 1, 1, 1, 1, 1, 1, 1, 1, 1, 1, 0, 1, 0, 1, 0, 1, 0], mn_RB, mn_TB, 23, mn_yB, rfl, rfl, mb_cB, mn_pB, mn_nB, by decide, mb 487 (by decide +kernel) rfl, rfl, rfl, rfl, fun _ => rfl, rfl⟩
theorem mf_B_38 : mr_Fd mb_B mn_cl ma_sh mn_RB 38 20 11 1 (.array .int) 1 := ⟨5, [0, 0, 1, 1, 1, 1, 1, 1, 1, 1, 1, 1, 1, 1, 1, 1, 0, 1, 0, 1, 0, 1, 0], mn_RB, mn_TB, 23, mn_yB, rfl, rfl, mb_cB, mn_pB, mn_nB, by decide, mb 488 (by decide +kernel) rfl, rfl, rfl, rfl, fun _ => rfl, rfl⟩
theorem mf_B_41 : mr_Fd mb_B mn_cl ma_sh mn_RB 41 20 12 1 (.array .int) 1 := ⟨5, [0, 0, 1, 1, 1, 1, 1, 1, 1, 1, 1, 1, 1, 1, 1, 1, 0, 1, 0, 1, 0, 1, 0], mn_RB, mn_TB, 23, mn_yB, rfl, rfl, mb_cB, mn_pB, mn_nB, by decide, mb 489 (by decide +kernel) rfl, rfl, rfl, rfl, fun _ => rfl, rfl⟩
theorem mf_B_44 : mr_Fd mb_B mn_cl ma_sh mn_RB 44 20 13 1 (.array .int) 1 := ⟨5, [0, 0, 1, 1, 1, 1, 1, 1, 1, 1, 1, 1, 1, 1, 1, 1, 0, 1, 0, 1, 0, 1, 0], mn_RB, mn_TB, 23, mn_yB, rfl, rfl, mb_cB, mn_pB, mn_nB, by decide, mb 490 (by decide +kernel) rfl, rfl, rfl, rfl, fun _ => rfl, rfl⟩
theorem mf_B_47 : mr_Fd mb_B mn_cl ma_sh mn_RB 47 20 14 1 (.array .boolean) 1 := ⟨5, [0, 0, 1, 1, 1, 1, 1, 1, 1, 1, 1, 1, 1, 1, 1, 1, 0, 1, 0, 1, 0, 1, 0], mn_RB, mn_TB, 23, mn_yB, rfl, rfl, mb_cB, mn_pB, mn_nB, by decide, mb 491 (by decide +kernel) rfl, rfl, rfl, rfl, fun _ => rfl, rfl⟩
theorem mf_B_50 : mr_Fd mb_B mn_cl ma_sh mn_RB 50 20 15 1 (.array .int) 1 := ⟨5, [0, 0, 1, 1, 1, 1, 1, 1, 1, 1, 1, 1, 1, 1, 1, 1, 0, 1, 0, 1, 0, 1, 0], mn_RB, mn_TB, 23, mn_yB, rfl, rfl, mb_cB, mn_pB, mn_nB, by decide, mb 492 (by decide +kernel) rfl, rfl, rfl, rfl, fun _ => rfl, rfl⟩
theorem mf_B_53 : mr_Fd mb_B mn_cl ma_sh mn_RB 53 20 17 1 (.array .boolean) 1 := ⟨5, [0, 0, 1, 1, 1, 1, 1, 1, 1, 1, 1, 1, 1, 1, 1, 1, 0, 1, 0, 1, 0, 1, 0], mn_RB, mn_TB, 23, mn_yB, rfl, rfl, mb_cB, mn_pB, mn_nB, by decide, mb 494 (by decide +kernel) rfl, rfl, rfl, rfl, fun _ => rfl, rfl⟩
theorem mf_B_56 : mr_Fd mb_B mn_cl ma_sh mn_RB 56 20 19 1 (.array .int) 1 := ⟨5, [0, 0, 1, 1, 1, 1, 1, 1, 1, 1, 1, 1, 1, 1, 1, 1, 0, 1, 0, 1, 0, 1, 0], mn_RB, mn_TB, 23, mn_yB, rfl, rfl, mb_cB, mn_pB, mn_nB, by decide, mb 496 (by decide +kernel) rfl, rfl, rfl, rfl, fun _ => rfl, rfl⟩
theorem mf_B_59 : mr_Fd mb_B mn_cl ma_sh mn_RB 59 20 21 1 (.array .int) 1 := ⟨5, [0, 0, 1, 1, 1, 1, 1, 1, 1, 1, 1, 1, 1, 1, 1, 1, 0, 1, 0, 1, 0, 1, 0], mn_RB, mn_TB, 23, mn_yB, rfl, rfl, mb_cB, mn_pB, mn_nB, by decide, mb 498 (by decide +kernel) rfl, rfl, rfl, rfl, fun _ => rfl, rfl⟩
theorem mf_B_62 : mr_Fd mb_B mn_cl ma_sh mn_RB 62 20 0 0 .int 0 := ⟨5, [0, 0, 1, 1, 1, 1, 1, 1, 1, 1, 1, 1, 1, 1, 1, 1, 0, 1, 0, 1, 0, 1, 0], mn_RB, mn_TB, 23, mn_yB, rfl, rfl, mb_cB, mn_pB, mn_nB, by decide, mb 477 (by decide +kernel) rfl, rfl, rfl, rfl, (fun h => by cases h), rfl⟩
theorem ms_B_66 : mr_Vs mb_B mn_RB mn_RB 66 my_B_isHere mc_B_isHere 2 (some .boolean) 1 := ⟨⟨by decide, mb 29 (by decide +kernel) rfl, mb 572 (by decide +kernel) rfl, by decide +kernel, by decide +kernel⟩, mb 569 (by decide +kernel) rfl, mb 571 (by decide +kernel) rfl, mb 12 (by decide +kernel) rfl⟩
theorem ms_B_70 : mr_Vs mb_B mn_RB mn_RB 70 my_B_many mc_B_many 4 (some .int) 1 := ⟨⟨by decide, mb 29 (by decide +kernel) rfl, mb 596 (by decide +kernel) rfl, by decide +kernel, by decide +kernel⟩, mb 593 (by decide +kernel) rfl, mb 595 (by decide +kernel) rfl, mb 18 (by decide +kernel) rfl⟩
theorem mk_B_74 : Cond.constant mn_RB 74 (-1000000) ∈ mb_B := mb 597 (by decide +kernel) rfl
theorem mk_B_75 : Cond.constant mn_RB 75 1000000 ∈ mb_B := mb 598 (by decide +kernel) rfl
theorem ms_B_76 : mr_Ss mb_B mn_RB 76 my_B_in mc_B_in 3 (some .boolean) 3 := ⟨⟨by decide, mb 29 (by decide +kernel) rfl, mb 564 (by decide +kernel) rfl, by decide +kernel, by decide +kernel⟩, mb 562 (by decide +kernel) rfl, mb 563 (by decide +kernel) rfl⟩
theorem mf_B_80 : mr_Fd mb_B mn_cl ma_sh mn_RB 80 20 18 0 .int 0 := ⟨5, [0, 0, 1, 1, 1, 1, 1, 1, 1, 1, 1, 1, 1, 1, 1, 1, 0, 1, 0, 1, 0, 1, 0], mn_RB, mn_TB, 23, mn_yB, rfl, rfl, mb_cB, mn_pB, mn_nB, by decide, mb 495 (by decide +kernel) rfl, rfl, rfl, rfl, (fun h => by cases h), rfl⟩
theorem ms_B_83 : mr_Vs mb_B mn_RB mn_RB 83 my_B_rule mc_B_rule 4 (some .int) 1 := ⟨⟨by decide, mb 29 (by decide +kernel) rfl, mb 592 (by decide +kernel) rfl, by decide +kernel, by decide +kernel⟩, mb 589 (by decide +kernel) rfl, mb 591 (by decide +kernel) rfl, mb 17 (by decide +kernel) rfl⟩
theorem ms_B_86 : mr_Vs mb_B mn_RB mn_RB 86 my_B_refused mc_B_refused 3 (some .int) 2 := ⟨⟨by decide, mb 29 (by decide +kernel) rfl, mb 602 (by decide +kernel) rfl, by decide +kernel, by decide +kernel⟩, mb 599 (by decide +kernel) rfl, mb 601 (by decide +kernel) rfl, mb 19 (by decide +kernel) rfl⟩
theorem mf_B_90 : mr_Fd mb_B mn_cl ma_sh mn_RB 90 20 1 0 .int 0 := ⟨5, [0, 0, 1, 1, 1, 1, 1, 1, 1, 1, 1, 1, 1, 1, 1, 1, 0, 1, 0, 1, 0, 1, 0], mn_RB, mn_TB, 23, mn_yB, rfl, rfl, mb_cB, mn_pB, mn_nB, by decide, mb 478 (by decide +kernel) rfl, rfl, rfl, rfl, (fun h => by cases h), rfl⟩
theorem mf_B_93 : mr_Fd mb_B mn_cl ma_sh mn_RB 93 20 16 0 .int 0 := ⟨5, [0, 0, 1, 1, 1, 1, 1, 1, 1, 1, 1, 1, 1, 1, 1, 1, 0, 1, 0, 1, 0, 1, 0], mn_RB, mn_TB, 23, mn_yB, rfl, rfl, mb_cB, mn_pB, mn_nB, by decide, mb 493 (by decide +kernel) rfl, rfl, rfl, rfl, (fun h => by cases h), rfl⟩
theorem mf_B_96 : mr_Fd mb_B mn_cl ma_sh mn_RB 96 20 20 0 .int 0 := ⟨5, [0, 0, 1, 1, 1, 1, 1, 1, 1, 1, 1, 1, 1, 1, 1, 1, 0, 1, 0, 1, 0, 1, 0], mn_RB, mn_TB, 23, mn_yB, rfl, rfl, mb_cB, mn_pB, mn_nB, by decide, mb 497 (by decide +kernel) rfl, rfl, rfl, rfl, (fun h => by cases h), rfl⟩
theorem ms_B_99 : mr_Vs mb_B mn_RB mn_RB 99 my_B_acts mc_B_acts 4 none 1 := ⟨⟨by decide, mb 29 (by decide +kernel) rfl, mb 606 (by decide +kernel) rfl, by decide +kernel, by decide +kernel⟩, mb 603 (by decide +kernel) rfl, mb 605 (by decide +kernel) rfl, mb 20 (by decide +kernel) rfl⟩
theorem ms_B_102 : mr_Vs mb_B mn_RB mn_RB 102 my_B_decides mc_B_decides 4 (some .int) 1 := ⟨⟨by decide, mb 29 (by decide +kernel) rfl, mb 588 (by decide +kernel) rfl, by decide +kernel, by decide +kernel⟩, mb 585 (by decide +kernel) rfl, mb 587 (by decide +kernel) rfl, mb 16 (by decide +kernel) rfl⟩
theorem ms_B_105 : mr_Vs mb_B mn_RB mn_RB 105 my_B_first mc_B_first 7 (some .int) 3 := ⟨⟨by decide, mb 29 (by decide +kernel) rfl, mb 610 (by decide +kernel) rfl, by decide +kernel, by decide +kernel⟩, mb 607 (by decide +kernel) rfl, mb 609 (by decide +kernel) rfl, mb 21 (by decide +kernel) rfl⟩
theorem ms_B_109 : mr_Vs mb_B mn_RB mn_RB 109 my_B_gap mc_B_gap 3 (some .int) 1 := ⟨⟨by decide, mb 29 (by decide +kernel) rfl, mb 580 (by decide +kernel) rfl, by decide +kernel, by decide +kernel⟩, mb 577 (by decide +kernel) rfl, mb 579 (by decide +kernel) rfl, mb 14 (by decide +kernel) rfl⟩
theorem ms_B_112 : mr_Vs mb_B mn_RB mn_RB 112 my_B_takes mc_B_takes 7 (some .int) 1 := ⟨⟨by decide, mb 29 (by decide +kernel) rfl, mb 584 (by decide +kernel) rfl, by decide +kernel, by decide +kernel⟩, mb 581 (by decide +kernel) rfl, mb 583 (by decide +kernel) rfl, mb 15 (by decide +kernel) rfl⟩
theorem ms_B_115 : mr_Vs mb_B mn_RB mn_RB 115 my_B_releases mc_B_releases 5 none 1 := ⟨⟨by decide, mb 29 (by decide +kernel) rfl, mb 614 (by decide +kernel) rfl, by decide +kernel, by decide +kernel⟩, mb 611 (by decide +kernel) rfl, mb 613 (by decide +kernel) rfl, mb 22 (by decide +kernel) rfl⟩
theorem ms_B_118 : mr_Ss mb_B mn_RB 118 my_B_isSender mc_B_isSender 1 (some .boolean) 1 := ⟨⟨by decide, mb 29 (by decide +kernel) rfl, mb 558 (by decide +kernel) rfl, by decide +kernel, by decide +kernel⟩, mb 556 (by decide +kernel) rfl, mb 557 (by decide +kernel) rfl⟩
theorem ms_B_121 : mr_Ss mb_B mn_RB 121 my_B_isNumber mc_B_isNumber 1 (some .boolean) 1 := ⟨⟨by decide, mb 29 (by decide +kernel) rfl, mb 561 (by decide +kernel) rfl, by decide +kernel, by decide +kernel⟩, mb 559 (by decide +kernel) rfl, mb 560 (by decide +kernel) rfl⟩
theorem ms_B_124 : mr_Vs mb_B mn_RB mn_RB 124 my_B_refuse mc_B_refuse 2 (some .int) 1 := ⟨⟨by decide, mb 29 (by decide +kernel) rfl, mb 568 (by decide +kernel) rfl, by decide +kernel, by decide +kernel⟩, mb 565 (by decide +kernel) rfl, mb 567 (by decide +kernel) rfl, mb 11 (by decide +kernel) rfl⟩
theorem mf_B_127 : mr_Fd mb_B mn_cl ma_sh mn_RB 127 20 22 0 .int 0 := ⟨5, [0, 0, 1, 1, 1, 1, 1, 1, 1, 1, 1, 1, 1, 1, 1, 1, 0, 1, 0, 1, 0, 1, 0], mn_RB, mn_TB, 23, mn_yB, rfl, rfl, mb_cB, mn_pB, mn_nB, by decide, mb 499 (by decide +kernel) rfl, rfl, rfl, rfl, (fun h => by cases h), rfl⟩
theorem ms_B_130 : mr_Vs mb_B mn_RB mn_RB 130 my_B_comes mc_B_comes 4 (some .int) 1 := ⟨⟨by decide, mb 29 (by decide +kernel) rfl, mb 576 (by decide +kernel) rfl, by decide +kernel, by decide +kernel⟩, mb 573 (by decide +kernel) rfl, mb 575 (by decide +kernel) rfl, mb 13 (by decide +kernel) rfl⟩
theorem ms_B_133 : mr_Vs mb_B mn_RB mn_RB 133 my_B_isMessage mc_B_isMessage 3 (some .boolean) 2 := ⟨⟨by decide, mb 29 (by decide +kernel) rfl, mb 622 (by decide +kernel) rfl, by decide +kernel, by decide +kernel⟩, mb 619 (by decide +kernel) rfl, mb 621 (by decide +kernel) rfl, mb 23 (by decide +kernel) rfl⟩
theorem mk_B_137 : Cond.constant mn_RB 137 100000 ∈ mb_B := mb 639 (by decide +kernel) rfl
theorem ms_B_138 : mr_Ss mb_B mn_RB 138 my_B_name mc_B_name 1 (some .int) 1 := ⟨⟨by decide, mb 29 (by decide +kernel) rfl, mb 662 (by decide +kernel) rfl, by decide +kernel, by decide +kernel⟩, mb 660 (by decide +kernel) rfl, mb 661 (by decide +kernel) rfl⟩
theorem ms_L_3 : Cond.methodLink mn_RL 3 objectInit ∈ mb_B := mb 53 (by decide +kernel) rfl
theorem mq_L_9 : Cond.classLink mn_RL 9 mn_RG ∈ mb_B ∧ Cond.arrayOver (.object mn_RG) ∈ mb_B := ⟨mb 54 (by decide +kernel) rfl, mb 55 (by decide +kernel) rfl⟩
theorem mf_L_11 : mr_Fd mb_B mn_cl ma_sh mn_RL 11 8 0 1 (.array (.object "MessageActs$Message")) 1 := ⟨1, [1, 0], mn_RL, mn_TL, 2, mn_yL, rfl, rfl, mb_cL, mn_pL, mn_nL, by decide, mb 56 (by decide +kernel) rfl, rfl, rfl, rfl, fun _ => rfl, rfl⟩
theorem mf_L_17 : mr_Fd mb_B mn_cl ma_sh mn_RL 17 8 1 0 .int 0 := ⟨1, [1, 0], mn_RL, mn_TL, 2, mn_yL, rfl, rfl, mb_cL, mn_pL, mn_nL, by decide, mb 57 (by decide +kernel) rfl, rfl, rfl, rfl, (fun h => by cases h), rfl⟩
theorem ms_L_21 : mr_Vs mb_B mn_RL mn_RL 21 my_L_get mc_L_get 2 (some (.object "MessageActs$Message")) 1 := ⟨⟨by decide, mb 26 (by decide +kernel) rfl, mb 148 (by decide +kernel) rfl, by decide +kernel, by decide +kernel⟩, mb 364 (by decide +kernel) rfl, mb 146 (by decide +kernel) rfl, mb 147 (by decide +kernel) rfl⟩
theorem mf_L_25 : mr_Fd mb_B mn_cl ma_sh mn_RL 25 10 2 1 (.object "MessageActs$Subject") 2 := ⟨2, [0, 0, 1, 0, 0, 0, 0, 0], mn_RG, mn_TG, 8, mn_yG, rfl, rfl, mb_cG, mn_pG, mn_nG, by decide, mb 292 (by decide +kernel) rfl, rfl, rfl, rfl, (fun h => by cases h), rfl⟩
theorem ms_L_29 : mr_Vs mb_B mn_RL mn_RL 29 my_L_take mc_L_take 4 (some (.object "MessageActs$Message")) 1 := ⟨⟨by decide, mb 26 (by decide +kernel) rfl, mb 368 (by decide +kernel) rfl, by decide +kernel, by decide +kernel⟩, mb 365 (by decide +kernel) rfl, mb 366 (by decide +kernel) rfl, mb 367 (by decide +kernel) rfl⟩
theorem ms_G_3 : Cond.methodLink mn_RG 3 objectInit ∈ mb_B := mb 286 (by decide +kernel) rfl
theorem mf_G_9 : mr_Fd mb_B mn_cl ma_sh mn_RG 9 10 4 0 .int 0 := ⟨2, [0, 0, 1, 0, 0, 0, 0, 0], mn_RG, mn_TG, 8, mn_yG, rfl, rfl, mb_cG, mn_pG, mn_nG, by decide, mb 296 (by decide +kernel) rfl, rfl, rfl, rfl, (fun h => by cases h), rfl⟩
theorem mf_G_15 : mr_Fd mb_B mn_cl ma_sh mn_RG 15 10 5 0 .int 0 := ⟨2, [0, 0, 1, 0, 0, 0, 0, 0], mn_RG, mn_TG, 8, mn_yG, rfl, rfl, mb_cG, mn_pG, mn_nG, by decide, mb 299 (by decide +kernel) rfl, rfl, rfl, rfl, (fun h => by cases h), rfl⟩
theorem mf_G_18 : mr_Fd mb_B mn_cl ma_sh mn_RG 18 10 6 0 .int 0 := ⟨2, [0, 0, 1, 0, 0, 0, 0, 0], mn_RG, mn_TG, 8, mn_yG, rfl, rfl, mb_cG, mn_pG, mn_nG, by decide, mb 301 (by decide +kernel) rfl, rfl, rfl, rfl, (fun h => by cases h), rfl⟩
theorem mf_G_21 : mr_Fd mb_B mn_cl ma_sh mn_RG 21 10 7 0 .int 0 := ⟨2, [0, 0, 1, 0, 0, 0, 0, 0], mn_RG, mn_TG, 8, mn_yG, rfl, rfl, mb_cG, mn_pG, mn_nG, by decide, mb 304 (by decide +kernel) rfl, rfl, rfl, rfl, (fun h => by cases h), rfl⟩
theorem mf_G_24 : mr_Fd mb_B mn_cl ma_sh mn_RG 24 10 0 0 .int 1 := ⟨2, [0, 0, 1, 0, 0, 0, 0, 0], mn_RG, mn_TG, 8, mn_yG, rfl, rfl, mb_cG, mn_pG, mn_nG, by decide, mb 287 (by decide +kernel) rfl, rfl, rfl, rfl, fun _ => rfl, rfl⟩
theorem mf_G_27 : mr_Fd mb_B mn_cl ma_sh mn_RG 27 10 1 0 .int 1 := ⟨2, [0, 0, 1, 0, 0, 0, 0, 0], mn_RG, mn_TG, 8, mn_yG, rfl, rfl, mb_cG, mn_pG, mn_nG, by decide, mb 289 (by decide +kernel) rfl, rfl, rfl, rfl, fun _ => rfl, rfl⟩
theorem mf_G_30 : mr_Fd mb_B mn_cl ma_sh mn_RG 30 10 2 1 (.object "MessageActs$Subject") 1 := ⟨2, [0, 0, 1, 0, 0, 0, 0, 0], mn_RG, mn_TG, 8, mn_yG, rfl, rfl, mb_cG, mn_pG, mn_nG, by decide, mb 291 (by decide +kernel) rfl, rfl, rfl, rfl, fun _ => rfl, rfl⟩
theorem mf_G_34 : mr_Fd mb_B mn_cl ma_sh mn_RG 34 10 3 0 .int 1 := ⟨2, [0, 0, 1, 0, 0, 0, 0, 0], mn_RG, mn_TG, 8, mn_yG, rfl, rfl, mb_cG, mn_pG, mn_nG, by decide, mb 294 (by decide +kernel) rfl, rfl, rfl, rfl, fun _ => rfl, rfl⟩
theorem ms_S_3 : Cond.methodLink mn_RS 3 objectInit ∈ mb_B := mb 69 (by decide +kernel) rfl
theorem mq_S_9 : Cond.classLink mn_RS 9 mn_RG ∈ mb_B ∧ Cond.arrayOver (.object mn_RG) ∈ mb_B := ⟨mb 70 (by decide +kernel) rfl, mb 55 (by decide +kernel) rfl⟩
theorem mf_S_11 : mr_Fd mb_B mn_cl ma_sh mn_RS 11 4 0 1 (.array (.object "MessageActs$Message")) 1 := ⟨3, [1, 1], mn_RS, mn_TS, 2, mn_yS, rfl, rfl, mb_cS, mn_pS, mn_nS, by decide, mb 71 (by decide +kernel) rfl, rfl, rfl, rfl, fun _ => rfl, rfl⟩
theorem mf_S_17 : mr_Fd mb_B mn_cl ma_sh mn_RS 17 4 1 1 (.array .boolean) 1 := ⟨3, [1, 1], mn_RS, mn_TS, 2, mn_yS, rfl, rfl, mb_cS, mn_pS, mn_nS, by decide, mb 72 (by decide +kernel) rfl, rfl, rfl, rfl, fun _ => rfl, rfl⟩
theorem ms_S_21 : mr_SNs mb_B mn_RS "MessageActs" 21 my_A_isNumber mc_A_isNumber 1 (some .boolean) 1 := ⟨⟨by decide, mb 25 (by decide +kernel) rfl, mb 170 (by decide +kernel) rfl, by decide +kernel, by decide +kernel⟩, mb 168 (by decide +kernel) rfl, mb 169 (by decide +kernel) rfl⟩
theorem ms_S_25 : mr_Ss mb_B mn_RS 25 my_S_isHere mc_S_isHere 1 (some .boolean) 1 := ⟨⟨by decide, mb 27 (by decide +kernel) rfl, mb 173 (by decide +kernel) rfl, by decide +kernel, by decide +kernel⟩, mb 171 (by decide +kernel) rfl, mb 172 (by decide +kernel) rfl⟩
theorem mf_S_29 : mr_Fd mb_B mn_cl ma_sh mn_RS 29 10 4 0 .int 0 := ⟨2, [0, 0, 1, 0, 0, 0, 0, 0], mn_RG, mn_TG, 8, mn_yG, rfl, rfl, mb_cG, mn_pG, mn_nG, by decide, mb 298 (by decide +kernel) rfl, rfl, rfl, rfl, (fun h => by cases h), rfl⟩
theorem ms_S_33 : mr_Vs mb_B mn_RS mn_RS 33 my_S_isGap mc_S_isGap 2 (some .boolean) 1 := ⟨⟨by decide, mb 27 (by decide +kernel) rfl, mb 167 (by decide +kernel) rfl, by decide +kernel, by decide +kernel⟩, mb 164 (by decide +kernel) rfl, mb 165 (by decide +kernel) rfl, mb 166 (by decide +kernel) rfl⟩
theorem ms_S_36 : mr_Vs mb_B mn_RS mn_RS 36 my_S_get mc_S_get 2 (some (.object "MessageActs$Message")) 1 := ⟨⟨by decide, mb 27 (by decide +kernel) rfl, mb 181 (by decide +kernel) rfl, by decide +kernel, by decide +kernel⟩, mb 178 (by decide +kernel) rfl, mb 179 (by decide +kernel) rfl, mb 180 (by decide +kernel) rfl⟩
theorem mf_S_40 : mr_Fd mb_B mn_cl ma_sh mn_RS 40 10 6 0 .int 0 := ⟨2, [0, 0, 1, 0, 0, 0, 0, 0], mn_RG, mn_TG, 8, mn_yG, rfl, rfl, mb_cG, mn_pG, mn_nG, by decide, mb 302 (by decide +kernel) rfl, rfl, rfl, rfl, (fun h => by cases h), rfl⟩
theorem ms_U_3 : Cond.methodLink mn_RU 3 objectInit ∈ mb_B := mb 82 (by decide +kernel) rfl
theorem mf_U_9 : mr_Fd mb_B mn_cl ma_sh mn_RU 9 7 0 0 .int 0 := ⟨4, [0, 0, 0], mn_RU, mn_TU, 3, mn_yU, rfl, rfl, mb_cU, mn_pU, mn_nU, by decide, mb 83 (by decide +kernel) rfl, rfl, rfl, rfl, (fun h => by cases h), rfl⟩
theorem mf_U_15 : mr_Fd mb_B mn_cl ma_sh mn_RU 15 7 1 0 .int 0 := ⟨4, [0, 0, 0], mn_RU, mn_TU, 3, mn_yU, rfl, rfl, mb_cU, mn_pU, mn_nU, by decide, mb 85 (by decide +kernel) rfl, rfl, rfl, rfl, (fun h => by cases h), rfl⟩
theorem mf_U_18 : mr_Fd mb_B mn_cl ma_sh mn_RU 18 7 2 0 .int 0 := ⟨4, [0, 0, 0], mn_RU, mn_TU, 3, mn_yU, rfl, rfl, mb_cU, mn_pU, mn_nU, by decide, mb 87 (by decide +kernel) rfl, rfl, rfl, rfl, (fun h => by cases h), rfl⟩
theorem ms_W_7 : mr_Vs mb_B mn_RW mn_RA 7 my_A_receive mc_A_receive 8 (some .int) 5 := ⟨⟨by decide, mb 25 (by decide +kernel) rfl, mb 197 (by decide +kernel) rfl, by decide +kernel, by decide +kernel⟩, mb 194 (by decide +kernel) rfl, mb 195 (by decide +kernel) rfl, mb 196 (by decide +kernel) rfl⟩
theorem ms_W_15 : mr_Vs mb_B mn_RW mn_RA 15 my_A_status mc_A_status 4 (some .int) 2 := ⟨⟨by decide, mb 25 (by decide +kernel) rfl, mb 383 (by decide +kernel) rfl, by decide +kernel, by decide +kernel⟩, mb 380 (by decide +kernel) rfl, mb 381 (by decide +kernel) rfl, mb 382 (by decide +kernel) rfl⟩
theorem ms_W_19 : mr_Vs mb_B mn_RW mn_RA 19 my_A_answer mc_A_answer 4 (some .int) 2 := ⟨⟨by decide, mb 25 (by decide +kernel) rfl, mb 390 (by decide +kernel) rfl, by decide +kernel, by decide +kernel⟩, mb 387 (by decide +kernel) rfl, mb 388 (by decide +kernel) rfl, mb 389 (by decide +kernel) rfl⟩
theorem ms_W_22 : mr_Vs mb_B mn_RW mn_RA 22 my_A_tick mc_A_tick 3 (some .int) 1 := ⟨⟨by decide, mb 25 (by decide +kernel) rfl, mb 397 (by decide +kernel) rfl, by decide +kernel, by decide +kernel⟩, mb 394 (by decide +kernel) rfl, mb 395 (by decide +kernel) rfl, mb 396 (by decide +kernel) rfl⟩
theorem ms_W_26 : mr_Vs mb_B mn_RW mn_RA 26 my_A_skip mc_A_skip 4 (some .int) 1 := ⟨⟨by decide, mb 25 (by decide +kernel) rfl, mb 415 (by decide +kernel) rfl, by decide +kernel, by decide +kernel⟩, mb 412 (by decide +kernel) rfl, mb 413 (by decide +kernel) rfl, mb 414 (by decide +kernel) rfl⟩
theorem ms_W_29 : mr_Vs mb_B mn_RW mn_RA 29 my_A_cut mc_A_cut 2 (some .int) 1 := ⟨⟨by decide, mb 25 (by decide +kernel) rfl, mb 430 (by decide +kernel) rfl, by decide +kernel, by decide +kernel⟩, mb 427 (by decide +kernel) rfl, mb 428 (by decide +kernel) rfl, mb 429 (by decide +kernel) rfl⟩
theorem ms_W_32 : mr_Vs mb_B mn_RW mn_RA 32 my_A_replay mc_A_replay 7 (some .int) 2 := ⟨⟨by decide, mb 25 (by decide +kernel) rfl, mb 441 (by decide +kernel) rfl, by decide +kernel, by decide +kernel⟩, mb 438 (by decide +kernel) rfl, mb 439 (by decide +kernel) rfl, mb 440 (by decide +kernel) rfl⟩
theorem ms_W_35 : mr_Vs mb_B mn_RW mn_RA 35 my_A_look mc_A_look 4 (some .int) 2 := ⟨⟨by decide, mb 25 (by decide +kernel) rfl, mb 449 (by decide +kernel) rfl, by decide +kernel, by decide +kernel⟩, mb 446 (by decide +kernel) rfl, mb 447 (by decide +kernel) rfl, mb 448 (by decide +kernel) rfl⟩
theorem mw_W_8 : mr_Nd mb_B mn_cl ma_sh mn_RW 8 0 9 := ⟨0, [1, 1, 1, 1, 1, 1, 1, 0, 0], mn_RA, mn_TA, mn_yA, rfl, rfl, mb_cA, mn_pA, mb 36 (by decide +kernel) rfl, mb 37 (by decide +kernel) rfl, mb 25 (by decide +kernel) rfl, by decide +kernel⟩
theorem ms_W_40 : mr_Is mb_B mn_RW 40 my_A_init mc_A_init 2 0 := ⟨⟨by decide, mb 25 (by decide +kernel) rfl, mb 40 (by decide +kernel) rfl, by decide +kernel, by decide +kernel⟩, mb 38 (by decide +kernel) rfl, mb 39 (by decide +kernel) rfl, rfl⟩
theorem mw_W_41 : mr_Nd mb_B mn_cl ma_sh mn_RW 41 20 23 := ⟨5, [0, 0, 1, 1, 1, 1, 1, 1, 1, 1, 1, 1, 1, 1, 1, 1, 0, 1, 0, 1, 0, 1, 0], mn_RB, mn_TB, mn_yB, rfl, rfl, mb_cB, mn_pB, mb 471 (by decide +kernel) rfl, mb 472 (by decide +kernel) rfl, mb 29 (by decide +kernel) rfl, by decide +kernel⟩
theorem ms_W_43 : mr_Is mb_B mn_RW 43 my_B_init mc_B_init 1 0 := ⟨⟨by decide, mb 29 (by decide +kernel) rfl, mb 475 (by decide +kernel) rfl, by decide +kernel, by decide +kernel⟩, mb 473 (by decide +kernel) rfl, mb 474 (by decide +kernel) rfl, rfl⟩
theorem ms_W_44 : Cond.methodLink mn_RW 44 my_W_receive ∈ mb_B ∧ Cond.static my_W_receive ∈ mb_B ∧ Cond.codeWith my_W_receive mc_W_receive 8 (some .int) [(0, 16, 19, 13)] ∈ mb_B := ⟨mb 190 (by decide +kernel) rfl, mb 191 (by decide +kernel) rfl, mb 192 (by decide +kernel) rfl⟩
theorem ms_W_49 : mr_Vs mb_B mn_RW mn_RB 49 my_B_receive mc_B_receive 9 (some .int) 5 := ⟨⟨by decide, mb 29 (by decide +kernel) rfl, mb 555 (by decide +kernel) rfl, by decide +kernel, by decide +kernel⟩, mb 552 (by decide +kernel) rfl, mb 553 (by decide +kernel) rfl, mb 554 (by decide +kernel) rfl⟩
theorem ms_W_50 : mr_Vs mb_B mn_RW mn_RB 50 my_B_thrown mc_B_thrown 1 (some .int) 0 := ⟨⟨by decide, mb 29 (by decide +kernel) rfl, mb 551 (by decide +kernel) rfl, by decide +kernel, by decide +kernel⟩, mb 548 (by decide +kernel) rfl, mb 549 (by decide +kernel) rfl, mb 550 (by decide +kernel) rfl⟩
theorem ms_W_54 : Cond.methodLink mn_RW 54 my_W_status ∈ mb_B ∧ Cond.static my_W_status ∈ mb_B ∧ Cond.codeWith my_W_status mc_W_status 5 (some .int) [(0, 10, 13, 13)] ∈ mb_B := ⟨mb 377 (by decide +kernel) rfl, mb 378 (by decide +kernel) rfl, mb 379 (by decide +kernel) rfl⟩
theorem ms_W_57 : mr_Vs mb_B mn_RW mn_RB 57 my_B_status mc_B_status 4 (some .int) 2 := ⟨⟨by decide, mb 29 (by decide +kernel) rfl, mb 618 (by decide +kernel) rfl, by decide +kernel, by decide +kernel⟩, mb 615 (by decide +kernel) rfl, mb 616 (by decide +kernel) rfl, mb 617 (by decide +kernel) rfl⟩
theorem ms_W_58 : Cond.methodLink mn_RW 58 my_W_answer ∈ mb_B ∧ Cond.static my_W_answer ∈ mb_B ∧ Cond.codeWith my_W_answer mc_W_answer 5 (some .int) [(0, 10, 13, 13)] ∈ mb_B := ⟨mb 384 (by decide +kernel) rfl, mb 385 (by decide +kernel) rfl, mb 386 (by decide +kernel) rfl⟩
theorem ms_W_60 : mr_Vs mb_B mn_RW mn_RB 60 my_B_answer mc_B_answer 4 (some .int) 2 := ⟨⟨by decide, mb 29 (by decide +kernel) rfl, mb 626 (by decide +kernel) rfl, by decide +kernel, by decide +kernel⟩, mb 623 (by decide +kernel) rfl, mb 624 (by decide +kernel) rfl, mb 625 (by decide +kernel) rfl⟩
theorem ms_W_61 : mr_Vs mb_B mn_RW mn_RA 61 my_A_point mc_A_point 2 (some .boolean) 1 := ⟨⟨by decide, mb 25 (by decide +kernel) rfl, mb 127 (by decide +kernel) rfl, by decide +kernel, by decide +kernel⟩, mb 124 (by decide +kernel) rfl, mb 125 (by decide +kernel) rfl, mb 126 (by decide +kernel) rfl⟩
theorem ms_W_65 : mr_Vs mb_B mn_RW mn_RB 65 my_B_point mc_B_point 2 (some .boolean) 1 := ⟨⟨by decide, mb 29 (by decide +kernel) rfl, mb 630 (by decide +kernel) rfl, by decide +kernel, by decide +kernel⟩, mb 627 (by decide +kernel) rfl, mb 628 (by decide +kernel) rfl, mb 629 (by decide +kernel) rfl⟩
theorem ms_W_66 : mr_Vs mb_B mn_RW mn_RA 66 my_A_fails mc_A_fails 3 (some .boolean) 2 := ⟨⟨by decide, mb 25 (by decide +kernel) rfl, mb 134 (by decide +kernel) rfl, by decide +kernel, by decide +kernel⟩, mb 131 (by decide +kernel) rfl, mb 132 (by decide +kernel) rfl, mb 133 (by decide +kernel) rfl⟩
theorem ms_W_70 : mr_Vs mb_B mn_RW mn_RB 70 my_B_fails mc_B_fails 3 (some .boolean) 2 := ⟨⟨by decide, mb 29 (by decide +kernel) rfl, mb 634 (by decide +kernel) rfl, by decide +kernel, by decide +kernel⟩, mb 631 (by decide +kernel) rfl, mb 632 (by decide +kernel) rfl, mb 633 (by decide +kernel) rfl⟩
theorem ms_W_71 : Cond.methodLink mn_RW 71 my_W_tick ∈ mb_B ∧ Cond.static my_W_tick ∈ mb_B ∧ Cond.codeWith my_W_tick mc_W_tick 4 (some .int) [(0, 9, 12, 13)] ∈ mb_B := ⟨mb 391 (by decide +kernel) rfl, mb 392 (by decide +kernel) rfl, mb 393 (by decide +kernel) rfl⟩
theorem ms_W_74 : mr_Vs mb_B mn_RW mn_RB 74 my_B_tick mc_B_tick 6 (some .int) 1 := ⟨⟨by decide, mb 29 (by decide +kernel) rfl, mb 638 (by decide +kernel) rfl, by decide +kernel, by decide +kernel⟩, mb 635 (by decide +kernel) rfl, mb 636 (by decide +kernel) rfl, mb 637 (by decide +kernel) rfl⟩
theorem ms_W_75 : Cond.methodLink mn_RW 75 my_W_skip ∈ mb_B ∧ Cond.static my_W_skip ∈ mb_B ∧ Cond.codeWith my_W_skip mc_W_skip 4 (some .int) [(0, 9, 12, 13)] ∈ mb_B := ⟨mb 409 (by decide +kernel) rfl, mb 410 (by decide +kernel) rfl, mb 411 (by decide +kernel) rfl⟩
theorem ms_W_77 : mr_Vs mb_B mn_RW mn_RB 77 my_B_skip mc_B_skip 6 (some .int) 1 := ⟨⟨by decide, mb 29 (by decide +kernel) rfl, mb 643 (by decide +kernel) rfl, by decide +kernel, by decide +kernel⟩, mb 640 (by decide +kernel) rfl, mb 641 (by decide +kernel) rfl, mb 642 (by decide +kernel) rfl⟩
theorem ms_W_78 : Cond.methodLink mn_RW 78 my_W_cut ∈ mb_B ∧ Cond.static my_W_cut ∈ mb_B ∧ Cond.codeWith my_W_cut mc_W_cut 4 (some .int) [(0, 9, 12, 13)] ∈ mb_B := ⟨mb 424 (by decide +kernel) rfl, mb 425 (by decide +kernel) rfl, mb 426 (by decide +kernel) rfl⟩
theorem ms_W_80 : mr_Vs mb_B mn_RW mn_RB 80 my_B_cut mc_B_cut 4 (some .int) 1 := ⟨⟨by decide, mb 29 (by decide +kernel) rfl, mb 647 (by decide +kernel) rfl, by decide +kernel, by decide +kernel⟩, mb 644 (by decide +kernel) rfl, mb 645 (by decide +kernel) rfl, mb 646 (by decide +kernel) rfl⟩
theorem ms_W_81 : Cond.methodLink mn_RW 81 my_W_replay ∈ mb_B ∧ Cond.static my_W_replay ∈ mb_B ∧ Cond.codeWith my_W_replay mc_W_replay 5 (some .int) [(0, 10, 13, 13)] ∈ mb_B := ⟨mb 435 (by decide +kernel) rfl, mb 436 (by decide +kernel) rfl, mb 437 (by decide +kernel) rfl⟩
theorem ms_W_83 : mr_Vs mb_B mn_RW mn_RB 83 my_B_replay mc_B_replay 7 (some .int) 2 := ⟨⟨by decide, mb 29 (by decide +kernel) rfl, mb 651 (by decide +kernel) rfl, by decide +kernel, by decide +kernel⟩, mb 648 (by decide +kernel) rfl, mb 649 (by decide +kernel) rfl, mb 650 (by decide +kernel) rfl⟩
theorem ms_W_84 : Cond.methodLink mn_RW 84 my_W_look ∈ mb_B ∧ Cond.static my_W_look ∈ mb_B ∧ Cond.codeWith my_W_look mc_W_look 5 (some .int) [(0, 10, 13, 38)] ∈ mb_B := ⟨mb 442 (by decide +kernel) rfl, mb 443 (by decide +kernel) rfl, mb 444 (by decide +kernel) rfl⟩
theorem ms_W_86 : mr_Vs mb_B mn_RW mn_RB 86 my_B_look mc_B_look 5 (some .int) 2 := ⟨⟨by decide, mb 29 (by decide +kernel) rfl, mb 655 (by decide +kernel) rfl, by decide +kernel, by decide +kernel⟩, mb 652 (by decide +kernel) rfl, mb 653 (by decide +kernel) rfl, mb 654 (by decide +kernel) rfl⟩
theorem ms_W_87 : mr_Vs mb_B mn_RW mn_RA 87 my_A_act mc_A_act 2 (some .int) 1 := ⟨⟨by decide, mb 25 (by decide +kernel) rfl, mb 141 (by decide +kernel) rfl, by decide +kernel, by decide +kernel⟩, mb 138 (by decide +kernel) rfl, mb 139 (by decide +kernel) rfl, mb 140 (by decide +kernel) rfl⟩
theorem ms_W_90 : mr_Vs mb_B mn_RW mn_RB 90 my_B_act mc_B_act 2 (some .int) 1 := ⟨⟨by decide, mb 29 (by decide +kernel) rfl, mb 659 (by decide +kernel) rfl, by decide +kernel, by decide +kernel⟩, mb 656 (by decide +kernel) rfl, mb 657 (by decide +kernel) rfl, mb 658 (by decide +kernel) rfl⟩
theorem ms_W_91 : mr_Vs mb_B mn_RW mn_RA 91 my_A_dead mc_A_dead 2 (some .int) 1 := ⟨⟨by decide, mb 25 (by decide +kernel) rfl, mb 152 (by decide +kernel) rfl, by decide +kernel, by decide +kernel⟩, mb 149 (by decide +kernel) rfl, mb 150 (by decide +kernel) rfl, mb 151 (by decide +kernel) rfl⟩
theorem ms_W_94 : mr_Vs mb_B mn_RW mn_RB 94 my_B_dead mc_B_dead 2 (some .int) 1 := ⟨⟨by decide, mb 29 (by decide +kernel) rfl, mb 666 (by decide +kernel) rfl, by decide +kernel, by decide +kernel⟩, mb 663 (by decide +kernel) rfl, mb 664 (by decide +kernel) rfl, mb 665 (by decide +kernel) rfl⟩
theorem ms_W_95 : mr_Vs mb_B mn_RW mn_RA 95 my_A_of mc_A_of 4 (some .int) 2 := ⟨⟨by decide, mb 25 (by decide +kernel) rfl, mb 156 (by decide +kernel) rfl, by decide +kernel, by decide +kernel⟩, mb 153 (by decide +kernel) rfl, mb 154 (by decide +kernel) rfl, mb 155 (by decide +kernel) rfl⟩
theorem ms_W_98 : mr_Vs mb_B mn_RW mn_RB 98 my_B_of mc_B_of 8 (some .int) 2 := ⟨⟨by decide, mb 29 (by decide +kernel) rfl, mb 670 (by decide +kernel) rfl, by decide +kernel, by decide +kernel⟩, mb 667 (by decide +kernel) rfl, mb 668 (by decide +kernel) rfl, mb 669 (by decide +kernel) rfl⟩
theorem ms_W_99 : mr_Vs mb_B mn_RW mn_RA 99 my_A_count mc_A_count 2 (some .int) 1 := ⟨⟨by decide, mb 25 (by decide +kernel) rfl, mb 189 (by decide +kernel) rfl, by decide +kernel, by decide +kernel⟩, mb 186 (by decide +kernel) rfl, mb 187 (by decide +kernel) rfl, mb 188 (by decide +kernel) rfl⟩
theorem ms_W_102 : mr_Vs mb_B mn_RW mn_RB 102 my_B_count mc_B_count 2 (some .int) 1 := ⟨⟨by decide, mb 29 (by decide +kernel) rfl, mb 674 (by decide +kernel) rfl, by decide +kernel, by decide +kernel⟩, mb 671 (by decide +kernel) rfl, mb 672 (by decide +kernel) rfl, mb 673 (by decide +kernel) rfl⟩
theorem mb_ar_int : Cond.arrayClass .int ∈ mb_B := mb 547 (by decide +kernel) rfl
theorem mb_ar_boolean : Cond.arrayClass .boolean ∈ mb_B := mb 64 (by decide +kernel) rfl
theorem mb_ar_long : Cond.arrayClass .long ∈ mb_B := mb 675 (by decide +kernel) rfl
theorem mb_oi : Cond.instanceMethod objectInit ∈ mb_B ∧ Cond.code objectInit ⟨#[0xb1]⟩ 1 none ∈ mb_B := ⟨mb 42 (by decide +kernel) rfl, mb 43 (by decide +kernel) rfl⟩
theorem mo_iae : ∀ a ∈ Bundle.ownAtoms mn_RA 106 "java/lang/IllegalArgumentException" ["java/lang/RuntimeException", "java/lang/Exception"], a ∈ mb_B := mb_all [30, 223, 232, 235, 238, 240, 224, 225, 42, 43, 226, 231, 236, 256, 213, 257, 215, 258, 217, 227, 228, 229, 230, 219, 252, 253, 255, 219, 243, 244, 245, 246, 205, 246, 247, 248, 249, 207, 249, 250, 251, 252, 209, 242, 202, 203, 210, 211, 212, 214, 216, 218, 677, 678, 222, 221, 220] (by decide +kernel) (by decide +kernel)
theorem mo_ioob : ∀ a ∈ Bundle.ownAtoms mn_RA 140 "java/lang/IndexOutOfBoundsException" ["java/lang/RuntimeException", "java/lang/Exception"], a ∈ mb_B := mb_all [30, 223, 232, 235, 238, 240, 224, 225, 42, 43, 226, 231, 236, 256, 213, 257, 215, 258, 217, 227, 228, 229, 230, 219, 252, 253, 255, 219, 461, 462, 463, 246, 205, 246, 247, 248, 249, 207, 249, 250, 251, 252, 209, 460, 451, 452, 453, 234, 454, 455, 456, 457, 677, 678, 222, 221, 458] (by decide +kernel) (by decide +kernel)
end
section
/-! the class's small static methods -/
theorem mg_ca0 : ∀ w ∈ ([] : List Value), w.category = 1 := fun _ h => absurd h List.not_mem_nil
theorem mg_caS {a : Value} {l : List Value} (h : a.category = 1) (hl : ∀ w ∈ l, w.category = 1) : ∀ w ∈ a :: l, w.category = 1 := List.forall_mem_cons.mpr ⟨h, hl⟩
theorem mg_car (r : Option Nat) : (va_rf r).category = 1 := by cases r <;> rfl
def mi_b (b : Bool) : Int32 := if b then 1 else 0
theorem ma_t {tys : List (ClassId × FieldType)} (h : tys.map (·.2) = ma_ty) (i : Nat) : (tys[i]?).map (·.2) = ma_ty[i]? := by rw [← h, List.getElem?_map]
section CS1
variable {l : Launch} {D : va_G} {Z : Nat × Cell} {tys : List (ClassId × FieldType)}
theorem ct_A_isSender (x : Int32) : mr_MS l my_A_isSender mc_A_isSender 1 (some .boolean) 1 D mn_cl Z mb_B tys [.int x] (some (.int (if ¬ x < 0 ∧ ¬ 4 ≤ x then 1 else 0))) := by
  intro ad C
  refine mg_M.of (cc := mc_A_isSender) (maxL := 1) (ret := (some .boolean)) (by decide) rfl (Nat.le_of_ble_eq_true rfl) (mg_caS rfl mg_ca0) ?_
  intro p e s m args below meth c K hret hlk hnm hA
  refine mg_iload_n K md_A_isSender_0 rfl ?_
  refine mg_if_lt K 13 md_A_isSender_1 rfl (fun h1 => ?_) (fun h1 => ?_)
  · refine mg_iconst K (v := 0) md_A_isSender_13 (by decide) ?_
    exact mg_zret K hret hlk md_A_isSender_14 (by decide) (Nat.le_refl _) (Nat.le_refl _) ⟨by rw [if_neg (fun z => z.1 h1)], rfl, rfl⟩
  · refine mg_iload_n K md_A_isSender_4 rfl ?_
    refine mg_iconst K (v := 4) md_A_isSender_5 (by decide) ?_
    refine mg_icmp_ge K 13 md_A_isSender_6 rfl (fun h6 => ?_) (fun h6 => ?_)
    · refine mg_iconst K (v := 0) md_A_isSender_13 (by decide) ?_
      exact mg_zret K hret hlk md_A_isSender_14 (by decide) (Nat.le_refl _) (Nat.le_refl _) ⟨by rw [if_neg (fun z => z.2 h6)], rfl, rfl⟩
    · refine mg_iconst K (v := 1) md_A_isSender_9 (by decide) ?_
      refine mg_goto K 14 md_A_isSender_10 rfl ?_
      exact mg_zret K hret hlk md_A_isSender_14 (by decide) (Nat.le_refl _) (Nat.le_refl _) ⟨by rw [if_pos ⟨h1, h6⟩], rfl, rfl⟩
theorem ct_A_isSubject (x : Int32) : mr_MS l my_A_isSubject mc_A_isSubject 1 (some .boolean) 1 D mn_cl Z mb_B tys [.int x] (some (.int (if ¬ x < 0 ∧ ¬ 16 ≤ x then 1 else 0))) := by
  intro ad C
  refine mg_M.of (cc := mc_A_isSubject) (maxL := 1) (ret := (some .boolean)) (by decide) rfl (Nat.le_of_ble_eq_true rfl) (mg_caS rfl mg_ca0) ?_
  intro p e s m args below meth c K hret hlk hnm hA
  refine mg_iload_n K md_A_isSubject_0 rfl ?_
  refine mg_if_lt K 14 md_A_isSubject_1 rfl (fun h1 => ?_) (fun h1 => ?_)
  · refine mg_iconst K (v := 0) md_A_isSubject_14 (by decide) ?_
    exact mg_zret K hret hlk md_A_isSubject_15 (by decide) (Nat.le_refl _) (Nat.le_refl _) ⟨by rw [if_neg (fun z => z.1 h1)], rfl, rfl⟩
  · refine mg_iload_n K md_A_isSubject_4 rfl ?_
    refine mg_bipush K (v := 16) md_A_isSubject_5 (by decide) ?_
    refine mg_icmp_ge K 14 md_A_isSubject_7 rfl (fun h7 => ?_) (fun h7 => ?_)
    · refine mg_iconst K (v := 0) md_A_isSubject_14 (by decide) ?_
      exact mg_zret K hret hlk md_A_isSubject_15 (by decide) (Nat.le_refl _) (Nat.le_refl _) ⟨by rw [if_neg (fun z => z.2 h7)], rfl, rfl⟩
    · refine mg_iconst K (v := 1) md_A_isSubject_10 (by decide) ?_
      refine mg_goto K 15 md_A_isSubject_11 rfl ?_
      exact mg_zret K hret hlk md_A_isSubject_15 (by decide) (Nat.le_refl _) (Nat.le_refl _) ⟨by rw [if_pos ⟨h1, h7⟩], rfl, rfl⟩
theorem ct_A_isFunction (x : Int32) : mr_MS l my_A_isFunction mc_A_isFunction 1 (some .boolean) 1 D mn_cl Z mb_B tys [.int x] (some (.int (if ¬ x < 0 ∧ ¬ 5 ≤ x then 1 else 0))) := by
  intro ad C
  refine mg_M.of (cc := mc_A_isFunction) (maxL := 1) (ret := (some .boolean)) (by decide) rfl (Nat.le_of_ble_eq_true rfl) (mg_caS rfl mg_ca0) ?_
  intro p e s m args below meth c K hret hlk hnm hA
  refine mg_iload_n K md_A_isFunction_0 rfl ?_
  refine mg_if_lt K 13 md_A_isFunction_1 rfl (fun h1 => ?_) (fun h1 => ?_)
  · refine mg_iconst K (v := 0) md_A_isFunction_13 (by decide) ?_
    exact mg_zret K hret hlk md_A_isFunction_14 (by decide) (Nat.le_refl _) (Nat.le_refl _) ⟨by rw [if_neg (fun z => z.1 h1)], rfl, rfl⟩
  · refine mg_iload_n K md_A_isFunction_4 rfl ?_
    refine mg_iconst K (v := 5) md_A_isFunction_5 (by decide) ?_
    refine mg_icmp_ge K 13 md_A_isFunction_6 rfl (fun h6 => ?_) (fun h6 => ?_)
    · refine mg_iconst K (v := 0) md_A_isFunction_13 (by decide) ?_
      exact mg_zret K hret hlk md_A_isFunction_14 (by decide) (Nat.le_refl _) (Nat.le_refl _) ⟨by rw [if_neg (fun z => z.2 h6)], rfl, rfl⟩
    · refine mg_iconst K (v := 1) md_A_isFunction_9 (by decide) ?_
      refine mg_goto K 14 md_A_isFunction_10 rfl ?_
      exact mg_zret K hret hlk md_A_isFunction_14 (by decide) (Nat.le_refl _) (Nat.le_refl _) ⟨by rw [if_pos ⟨h1, h6⟩], rfl, rfl⟩
theorem ct_A_isNumber (x : Int32) : mr_MS l my_A_isNumber mc_A_isNumber 1 (some .boolean) 1 D mn_cl Z mb_B tys [.int x] (some (.int (if ¬ x < 1 ∧ ¬ 24 < x then 1 else 0))) := by
  intro ad C
  refine mg_M.of (cc := mc_A_isNumber) (maxL := 1) (ret := (some .boolean)) (by decide) rfl (Nat.le_of_ble_eq_true rfl) (mg_caS rfl mg_ca0) ?_
  intro p e s m args below meth c K hret hlk hnm hA
  refine mg_iload_n K md_A_isNumber_0 rfl ?_
  refine mg_iconst K (v := 1) md_A_isNumber_1 (by decide) ?_
  refine mg_icmp_lt K 15 md_A_isNumber_2 rfl (fun h2 => ?_) (fun h2 => ?_)
  · refine mg_iconst K (v := 0) md_A_isNumber_15 (by decide) ?_
    exact mg_zret K hret hlk md_A_isNumber_16 (by decide) (Nat.le_refl _) (Nat.le_refl _) ⟨by rw [if_neg (fun z => z.1 h2)], rfl, rfl⟩
  · refine mg_iload_n K md_A_isNumber_5 rfl ?_
    refine mg_bipush K (v := 24) md_A_isNumber_6 (by decide) ?_
    refine mg_icmp_gt K 15 md_A_isNumber_8 rfl (fun h8 => ?_) (fun h8 => ?_)
    · refine mg_iconst K (v := 0) md_A_isNumber_15 (by decide) ?_
      exact mg_zret K hret hlk md_A_isNumber_16 (by decide) (Nat.le_refl _) (Nat.le_refl _) ⟨by rw [if_neg (fun z => z.2 h8)], rfl, rfl⟩
    · refine mg_iconst K (v := 1) md_A_isNumber_11 (by decide) ?_
      refine mg_goto K 16 md_A_isNumber_12 rfl ?_
      exact mg_zret K hret hlk md_A_isNumber_16 (by decide) (Nat.le_refl _) (Nat.le_refl _) ⟨by rw [if_pos ⟨h2, h8⟩], rfl, rfl⟩
theorem ct_A_isWithin (x y : Int32) : mr_MS l my_A_isWithin mc_A_isWithin 2 (some .boolean) 1 D mn_cl Z mb_B tys [.int x, .int y] (some (.int (if ¬ x < -y ∧ ¬ y < x then 1 else 0))) := by
  intro ad C
  refine mg_M.of (cc := mc_A_isWithin) (maxL := 2) (ret := (some .boolean)) (by decide) rfl (Nat.le_of_ble_eq_true rfl) (mg_caS rfl (mg_caS rfl mg_ca0)) ?_
  intro p e s m args below meth c K hret hlk hnm hA
  refine mg_iload_n K md_A_isWithin_0 rfl ?_
  refine mg_iload_n K md_A_isWithin_1 rfl ?_
  refine mg_ineg K md_A_isWithin_2 ?_
  refine mg_icmp_lt K 15 md_A_isWithin_3 rfl (fun h3 => ?_) (fun h3 => ?_)
  · refine mg_iconst K (v := 0) md_A_isWithin_15 (by decide) ?_
    exact mg_zret K hret hlk md_A_isWithin_16 (by decide) (Nat.le_refl _) (Nat.le_refl _) ⟨by rw [if_neg (fun z => z.1 h3)], rfl, rfl⟩
  · refine mg_iload_n K md_A_isWithin_6 rfl ?_
    refine mg_iload_n K md_A_isWithin_7 rfl ?_
    refine mg_icmp_gt K 15 md_A_isWithin_8 rfl (fun h8 => ?_) (fun h8 => ?_)
    · refine mg_iconst K (v := 0) md_A_isWithin_15 (by decide) ?_
      exact mg_zret K hret hlk md_A_isWithin_16 (by decide) (Nat.le_refl _) (Nat.le_refl _) ⟨by rw [if_neg (fun z => z.2 h8)], rfl, rfl⟩
    · refine mg_iconst K (v := 1) md_A_isWithin_11 (by decide) ?_
      refine mg_goto K 16 md_A_isWithin_12 rfl ?_
      exact mg_zret K hret hlk md_A_isWithin_16 (by decide) (Nat.le_refl _) (Nat.le_refl _) ⟨by rw [if_pos ⟨h3, h8⟩], rfl, rfl⟩
end CS1
end
section
/-! Line: lists of messages -/
theorem mi_ex {x : Int32} (h : ¬ x < 0) : ∃ n : Nat, n < 2147483648 ∧ x = Int32.ofNat n := ⟨x.toNatClampNeg, by have h1 : x.toInt < 2147483648 := Int32.toInt_lt x; have h2 : x.toNatClampNeg = x.toInt.toNat := rfl; omega, mi_of h⟩
section CL0
variable {p : Program} {l : Launch} {e : Env} {R : Room} {s : State} {m : MethodId} {args : Array Value} {below : List Frame} {meth : Method} {c : Code} {Q : State → Prop}
variable {D : va_G} {cl : List vw_C} {Z : Nat × Cell} {tys : List (ClassId × FieldType)} {A : Nat → Prop} {H0 : Heap} {nL : Nat} {cc : ByteArray} {Ts : List Cond} {own : String}
variable {ad : mg_Ad} {sh : Nat → mr_Sh} {r : mr_St} {L : List (Option Value)} {cells slots pc : Nat} {st : List Value}
theorem mr_acmp_ne (K : mg_K p m c cc nL s args Ts own D cl Z tys) {k i k2 i2 : Nat} {off : Int} (tgt : Nat) (hd : decode cc pc = .ok (.if_acmp .ne off, 3)) (ht : (pc : Int) + off = (tgt : Int)) (hi : i < mr_pn r k) (hi2 : i2 < mr_pn r k2)
    (kt : ¬ (k = k2 ∧ i = i2) → mg_G p l e R s m args below meth c D cl Z A H0 nL Q ad (mr_C tys sh ad r) L cells slots st tgt) (kf : k = k2 ∧ i = i2 → mg_G p l e R s m args below meth c D cl Z A H0 nL Q ad (mr_C tys sh ad r) L cells slots st (pc + 3)) : mg_G p l e R s m args below meth c D cl Z A H0 nL Q ad (mr_C tys sh ad r) L cells slots (va_rf (some (ad k2 i2)) :: va_rf (some (ad k i)) :: st) pc := by
  intro H locs ls hW hS hL
  have n1 : mr_C tys sh ad r k i ≠ none := by rw [mr_at hi]; exact fun z => by cases z
  have n2 : mr_C tys sh ad r k2 i2 ≠ none := by rw [mr_at hi2]; exact fun z => by cases z
  exact lv_acmp_ne (rx := some (ad k i)) (ry := some (ad k2 i2)) K.1.1 K.1.2.1 hd ht (fun h => kt (fun z => h (by obtain ⟨rfl, rfl⟩ := z; rfl)) H locs ls hW hS hL) (fun h => kf (hW.2.1 k i k2 i2 n1 n2 (Option.some.inj h)) H locs ls hW hS hL)
end CL0
theorem ma_snE (g : ca_S) (q : mr_St) (x : Nat) (y : List Nat) (r : mr_St) (h1 : ∀ a b c, mr_iv r a b c = if a = 8 ∧ b = x ∧ c = 1 then Int32.ofNat y.length else ma_iv g q a b c) (h2 : mr_lv r = ma_lv q)
    (h3 : ∀ a b c, mr_rv r a b c = if a = 9 ∧ b = x then (y[c]?).map (fun j => (10, j)) else ma_rv g q a b c) (h4 : mr_pn r = ma_pn g q) : r = ma_R (ca_sn g x y) q := by
  obtain ⟨r1, r2, r3, r4⟩ := r
  have e1 : r1 = ma_iv (ca_sn g x y) q := by
    funext a b c
    refine (h1 a b c).trans ?_
    unfold ma_iv
    by_cases ha : a = 8
    · subst ha
      rw [if_pos rfl, if_pos rfl]
      by_cases hc : c = 1
      · rw [if_pos hc, if_pos hc]
        by_cases hb : b = x
        · rw [if_pos ⟨rfl, hb, hc⟩, hb, ca_ln_s]
        · rw [if_neg (fun z => hb z.2.1), ca_ln_n _ _ _ hb]
      · rw [if_neg (fun z => hc z.2.2), if_neg hc, if_neg hc]
    · rw [if_neg (fun z => ha z.1), if_neg ha, if_neg ha]
      rfl
  have e3 : r3 = ma_rv (ca_sn g x y) q := by
    funext a b c
    refine (h3 a b c).trans ?_
    by_cases ha : a = 9
    · subst ha
      by_cases hb : b = x
      · rw [if_pos ⟨rfl, hb⟩]
        show _ = ((ca_ln (ca_sn g x y) b)[c]?).map _
        rw [hb, ca_ln_s]
      · rw [if_neg (fun z => hb z.2)]
        show ((ca_ln g b)[c]?).map _ = ((ca_ln (ca_sn g x y) b)[c]?).map _
        rw [ca_ln_n _ _ _ hb]
    · rw [if_neg (fun z => ha z.1)]
      unfold ma_rv
      simp only [ha, if_false]
      rfl
  have e2 : r2 = ma_lv q := h2
  have e4 : r4 = ma_pn g q := h4
  rw [e1, e2, e3, e4]
  rfl
theorem ma_app (g : ca_S) (q : mr_St) (x j : Nat) (h : (ca_ln g x).length < 96) : mr_sI (mr_sR (ma_R g q) 9 x (ca_ln g x).length (some (10, j))) 8 x 1 (Int32.ofNat ((ca_ln g x).length + 1)) = ma_R (ca_app g x j) q := by
  unfold ca_app
  rw [if_pos h]
  refine ma_snE g q x _ _ (fun a b c => ?_) rfl (fun a b c => ?_) rfl
  · rw [List.length_append, List.length_singleton]
    rfl
  · show mr_u3 (ma_rv g q) 9 x (ca_ln g x).length (some (10, j)) a b c = _
    by_cases hab : a = 9 ∧ b = x
    · obtain ⟨rfl, rfl⟩ := hab
      rw [if_pos ⟨rfl, rfl⟩]
      by_cases hc : c = (ca_ln g b).length
      · subst hc
        rw [mr_u3_s, List.getElem?_append_right (Nat.le_refl _), Nat.sub_self]
        rfl
      · rw [mr_u3_n _ _ _ _ _ (fun z => hc z.2.2)]
        show ((ca_ln g b)[c]?).map _ = _
        by_cases hlt : c < (ca_ln g b).length
        · rw [List.getElem?_append_left hlt]
        · rw [List.getElem?_eq_none (by omega), List.getElem?_eq_none (by rw [List.length_append, List.length_singleton]; omega)]
    · rw [if_neg hab, mr_u3_n _ _ _ _ _ (fun z => hab ⟨z.1, z.2.1⟩)]
/-- while one is taken out: those behind it, moved up to the n-th -/
def ma_T (g : ca_S) (q : mr_St) (x i n : Nat) : mr_St := (ma_iv g q, ma_lv q, fun a b c => if a = 9 ∧ b = x ∧ i ≤ c ∧ c + 1 < n then ((ca_ln g x)[c + 1]?).map (fun j => (10, j)) else ma_rv g q a b c, ma_pn g q)
theorem ma_T0 (g : ca_S) (q : mr_St) (x i : Nat) : ma_T g q x i (i + 1) = ma_R g q := by
  refine Prod.ext rfl (Prod.ext rfl (Prod.ext ?_ rfl))
  funext a b c
  exact if_neg (by omega)
theorem ma_TS (g : ca_S) (q : mr_St) (x i n : Nat) (hn : i + 1 ≤ n) : mr_sR (ma_T g q x i n) 9 x (n - 1) (((ca_ln g x)[n]?).map (fun j => (10, j))) = ma_T g q x i (n + 1) := by
  refine Prod.ext rfl (Prod.ext rfl (Prod.ext ?_ rfl))
  funext a b c
  show mr_u3 _ 9 x (n - 1) _ a b c = if a = 9 ∧ b = x ∧ i ≤ c ∧ c + 1 < n + 1 then _ else _
  by_cases h : a = 9 ∧ b = x ∧ c = n - 1
  · obtain ⟨rfl, rfl, rfl⟩ := h
    rw [mr_u3_s, if_pos ⟨rfl, rfl, by omega, by omega⟩]
    congr 2
    omega
  · rw [mr_u3_n _ _ _ _ _ h]
    show (if a = 9 ∧ b = x ∧ i ≤ c ∧ c + 1 < n then _ else _) = _
    by_cases h2 : a = 9 ∧ b = x ∧ i ≤ c ∧ c + 1 < n
    · rw [if_pos h2, if_pos ⟨h2.1, h2.2.1, h2.2.2.1, by omega⟩]
    · rw [if_neg h2, if_neg (fun z => h2 ⟨z.1, z.2.1, z.2.2.1, by have := z.2.2.2; have h3 : ¬ c = n - 1 := fun w => h ⟨z.1, z.2.1, w⟩; omega⟩)]
theorem ma_TE (g : ca_S) (q : mr_St) (x i : Nat) (hi : i < (ca_ln g x).length) : mr_sR (mr_sI (ma_T g q x i (ca_ln g x).length) 8 x 1 (Int32.ofNat ((ca_ln g x).length - 1))) 9 x ((ca_ln g x).length - 1) none = ma_R (ca_sn g x ((ca_ln g x).eraseIdx i)) q := by
  refine ma_snE g q x _ _ (fun a b c => ?_) rfl (fun a b c => ?_) rfl
  · rw [List.length_eraseIdx, if_pos hi]
    rfl
  · show mr_u3 (fun a b c => if a = 9 ∧ b = x ∧ i ≤ c ∧ c + 1 < (ca_ln g x).length then _ else _) 9 x ((ca_ln g x).length - 1) none a b c = _
    by_cases hab : a = 9 ∧ b = x
    · obtain ⟨rfl, rfl⟩ := hab
      rw [if_pos ⟨rfl, rfl⟩, List.getElem?_eraseIdx]
      by_cases hc : c = (ca_ln g b).length - 1
      · subst hc
        rw [mr_u3_s]
        by_cases hci : (ca_ln g b).length - 1 < i
        · omega
        · rw [if_neg hci, List.getElem?_eq_none (by omega)]
          rfl
      · rw [mr_u3_n _ _ _ _ _ (fun z => hc z.2.2)]
        by_cases hci : c < i
        · rw [if_pos hci, if_neg (fun z => by have := z.2.2.1; omega)]
          rfl
        · rw [if_neg hci]
          by_cases hcl : c + 1 < (ca_ln g b).length
          · rw [if_pos ⟨rfl, rfl, by omega, hcl⟩]
          · rw [if_neg (fun z => hcl z.2.2.2), List.getElem?_eq_none (by omega)]
            show ((ca_ln g b)[c]?).map _ = _
            rw [List.getElem?_eq_none (by omega)]
    · rw [if_neg hab, mr_u3_n _ _ _ _ _ (fun z => hab ⟨z.1, z.2.1⟩)]
      exact if_neg (fun z => hab ⟨z.1, z.2.1⟩)
def ca_at (g : ca_S) (x : Nat) (i : Int32) : Option (Nat × Nat) := if i < 0 then none else ((ca_ln g x)[i.toNatClampNeg]?).map (fun j => (10, j))
section CL1
variable {l : Launch} {D : va_G} {Z : Nat × Cell} {tys : List (ClassId × FieldType)} {ad : mg_Ad}
theorem ct_L_append (hty : tys.map (·.2) = ma_ty) (g : ca_S) (q : mr_St) {x j : Nat} (hx : x < 4) (hj : j < ca_nm g) (hle : (ca_ln g x).length ≤ 96) : mr_M l my_L_append mc_L_append 2 none 1 D mn_cl Z mb_B tys ma_sh [va_rf (some (ad 8 x)), va_rf (some (ad 10 j))] ad (ma_R g q) none (ma_R (ca_app g x j) q) := by
  refine mg_M.of (cc := mc_L_append) (maxL := 2) (ret := none) (by decide) rfl (Nat.le_of_ble_eq_true rfl) (mg_caS rfl (mg_caS rfl mg_ca0)) ?_
  intro p e s m args below meth c K hret hlk hnm hA
  refine mg_aload_n K md_L_append_0 rfl ?_
  refine mr_getI (v := Int32.ofNat (ca_ln g x).length) K mf_L_17 md_L_append_1 (by decide) hx rfl ?_
  refine mg_if_lt K 39 md_L_append_4 rfl (fun h4 => ?_) (fun h4 => ?_)
  · exact absurd h4 (mi_nn (by omega))
  · refine mg_aload_n K md_L_append_7 rfl ?_
    refine mr_getI (v := Int32.ofNat (ca_ln g x).length) K mf_L_17 md_L_append_8 (by decide) hx rfl ?_
    refine mg_aload_n K md_L_append_11 rfl ?_
    refine mr_getS K mf_L_11 md_L_append_12 hx rfl ?_
    refine mr_alenR (v := Int32.ofNat 96) K rfl (ma_t hty 3) md_L_append_15 hx rfl ?_
    refine mg_icmp_ge K 39 md_L_append_16 rfl (fun h16 => ?_) (fun h16 => ?_)
    · have hge : ¬ (ca_ln g x).length < 96 := by have := (mi_le (by omega) (by omega)).mp h16; omega
      have hap : ca_app g x j = g := if_neg hge
      exact mg_vret K hret hlk md_L_append_39 (Nat.le_refl _) (Nat.le_refl _) ⟨rfl, rfl, by rw [hap]⟩
    · refine mg_aload_n K md_L_append_19 rfl ?_
      refine mr_getS K mf_L_11 md_L_append_20 hx rfl ?_
      refine mg_aload_n K md_L_append_23 rfl ?_
      refine mr_getI (v := Int32.ofNat (ca_ln g x).length) K mf_L_17 md_L_append_24 (by decide) hx rfl ?_
      refine mg_aload_n K md_L_append_27 rfl ?_
      have hlt : (ca_ln g x).length < 96 := by have := mt (mi_le (by omega) (by omega)).mpr h16; omega
      refine mr_aast (k2 := 10) (i2 := j) K rfl (ma_t hty 3) rfl rfl md_L_append_28 hx hj (mi_vn (by omega) hlt) ?_
      rw [mi_tn (by omega)]
      refine mg_aload_n K md_L_append_29 rfl ?_
      refine mg_dup K md_L_append_30 rfl ?_
      refine mr_getI (v := Int32.ofNat (ca_ln g x).length) K mf_L_17 md_L_append_31 (by decide) hx rfl ?_
      refine mg_iconst K (v := 1) md_L_append_34 (by decide) ?_
      refine mg_iadd K md_L_append_35 ?_
      refine mr_putI K mf_L_17 md_L_append_36 hx ?_
      rw [mi_a1]
      refine mr_eqr (ma_app g q x j hlt) ?_
      exact mg_vret K hret hlk md_L_append_39 (Nat.le_refl _) (Nat.le_refl _) ⟨rfl, rfl, rfl⟩
theorem ct_L_get (hty : tys.map (·.2) = ma_ty) (g : ca_S) (q : mr_St) {x : Nat} (i : Int32) (hx : x < 4) (hle : (ca_ln g x).length ≤ 96) : mr_M l my_L_get mc_L_get 2 (some (.object "MessageActs$Message")) 1 D mn_cl Z mb_B tys ma_sh [va_rf (some (ad 8 x)), .int i] ad (ma_R g q) (some (va_rf (mr_a ad (ca_at g x i)))) (ma_R g q) := by
  refine mg_M.of (cc := mc_L_get) (maxL := 2) (ret := (some (.object "MessageActs$Message"))) (by decide) rfl (Nat.le_of_ble_eq_true rfl) (mg_caS rfl (mg_caS rfl mg_ca0)) ?_
  intro p e s m args below meth c K hret hlk hnm hA
  refine mg_iload_n K md_L_get_0 rfl ?_
  refine mg_if_lt K 30 md_L_get_1 rfl (fun h1 => ?_) (fun h1 => ?_)
  · refine mg_null K md_L_get_30 ?_
    exact mg_aret K hret hlk md_L_get_31 (Nat.le_refl _) (Nat.le_refl _) ⟨by unfold ca_at; rw [if_pos h1]; rfl, rfl, rfl⟩
  · obtain ⟨n, hn, rfl⟩ := mi_ex h1
    refine mg_iload_n K md_L_get_4 rfl ?_
    refine mg_aload_n K md_L_get_5 rfl ?_
    refine mr_getI (v := Int32.ofNat (ca_ln g x).length) K mf_L_17 md_L_get_6 (by decide) hx rfl ?_
    refine mg_icmp_ge K 30 md_L_get_9 rfl (fun h9 => ?_) (fun h9 => ?_)
    · have hge : (ca_ln g x).length ≤ n := (mi_le (by omega) hn).mp h9
      refine mg_null K md_L_get_30 ?_
      exact mg_aret K hret hlk md_L_get_31 (Nat.le_refl _) (Nat.le_refl _) ⟨by unfold ca_at; rw [if_neg h1, mi_tn hn, List.getElem?_eq_none hge]; rfl, rfl, rfl⟩
    · have hlt : n < (ca_ln g x).length := by have := mt (mi_le (by omega) hn).mpr h9; omega
      refine mg_iload_n K md_L_get_12 rfl ?_
      refine mg_aload_n K md_L_get_13 rfl ?_
      refine mr_getS K mf_L_11 md_L_get_14 hx rfl ?_
      refine mr_alenR (v := Int32.ofNat 96) K rfl (ma_t hty 3) md_L_get_17 hx rfl ?_
      refine mg_icmp_ge K 30 md_L_get_18 rfl (fun h18 => ?_) (fun h18 => ?_)
      · exact absurd ((mi_le (by omega) hn).mp h18) (by omega)
      · refine mg_aload_n K md_L_get_21 rfl ?_
        refine mr_getS K mf_L_11 md_L_get_22 hx rfl ?_
        refine mg_iload_n K md_L_get_25 rfl ?_
        refine mr_aald K rfl (ma_t hty 3) md_L_get_26 hx (mi_vn hn (by omega)) rfl ?_
        refine mg_goto K 31 md_L_get_27 rfl ?_
        exact mg_aret K hret hlk md_L_get_31 (Nat.le_refl _) (Nat.le_refl _) ⟨by unfold ca_at; rw [if_neg h1]; rfl, rfl, rfl⟩
theorem mi_s {k : Nat} (h : 1 ≤ k) : Int32.ofNat k - 1 = Int32.ofNat (k - 1) := by
  obtain ⟨n, rfl⟩ : ∃ n, k = n + 1 := ⟨k - 1, by omega⟩
  rw [mi_s1]
  rfl
theorem mr_as (ad : mg_Ad) (k i : Nat) : mr_a ad (some (k, i)) = some (ad k i) := rfl
theorem ca_at_n {g : ca_S} {x n j : Nat} (hn : n < 2147483648) (h : (ca_ln g x)[n]? = some j) : ca_at g x (Int32.ofNat n) = some (10, j) := by
  unfold ca_at
  rw [if_neg (mi_nn hn), mi_tn hn, h]
  rfl
theorem ca_at_o {g : ca_S} {x n : Nat} (hn : n < 2147483648) (h : (ca_ln g x).length ≤ n) : ca_at g x (Int32.ofNat n) = none := by
  unfold ca_at
  rw [if_neg (mi_nn hn), mi_tn hn, List.getElem?_eq_none h]
  rfl
theorem ma_Tv (g : ca_S) (q : mr_St) {x i n j : Nat} (h : (ca_ln g x)[n]? = some j) : mr_rv (ma_T g q x i n) 9 x n = some (10, j) := by
  show (if 9 = 9 ∧ x = x ∧ i ≤ n ∧ n + 1 < n then _ else _) = _
  rw [if_neg (by omega)]
  show ((ca_ln g x)[n]?).map _ = _
  rw [h]
  rfl
theorem ct_L_take (hty : tys.map (·.2) = ma_ty) (g : ca_S) (q : mr_St) {x n j : Nat} (hx : x < 4) (hle : (ca_ln g x).length ≤ 96) (hm : ∀ i ∈ ca_ln g x, i < ca_nm g) (hnj : (ca_ln g x)[n]? = some j) : mr_M l my_L_take mc_L_take 4 (some (.object "MessageActs$Message")) 2 D mn_cl Z mb_B tys ma_sh [va_rf (some (ad 8 x)), .int (Int32.ofNat n)] ad (ma_R g q) (some (va_rf (some (ad 10 j)))) (ma_R (ca_sn g x ((ca_ln g x).eraseIdx n)) q) := by
  have hnl : n < (ca_ln g x).length := (List.getElem?_eq_some_iff.mp hnj).1
  refine mg_M.of (cc := mc_L_take) (maxL := 4) (ret := (some (.object "MessageActs$Message"))) (by decide) rfl (Nat.le_of_ble_eq_true rfl) (mg_caS rfl (mg_caS rfl mg_ca0)) ?_
  intro p e s m args below meth c K hret hlk hnm hA
  have loop : ∀ (f k : Nat), k + f = (ca_ln g x).length → n + 1 ≤ k → mg_G p l e (mg_rm 2 0 0) s m args below meth c D mn_cl Z (mg_A ad (mr_C tys ma_sh ad (ma_R g q)) s.heap.size) s.heap 4 (MQ below (mg_Qc D mn_cl Z ad (mr_C tys ma_sh ad (ma_R g q)) s.heap.size (mg_Po tys ma_sh ad (some (va_rf (some (ad 10 j)))) (ma_R (ca_sn g x ((ca_ln g x).eraseIdx n)) q))) args s 0 0 (mg_A ad (mr_C tys ma_sh ad (ma_R g q)) s.heap.size)) ad (mr_C tys ma_sh ad (ma_T g q x n k)) [some (va_rf (some (ad 8 x))), some (.int (Int32.ofNat n)), some (va_rf (some (ad 10 j))), some (.int (Int32.ofNat k))] 0 0 [] 14 := by
    intro f
    induction f with
    | zero =>
      intro k hk hnk
      have hk2 : k = (ca_ln g x).length := by omega
      subst hk2
      refine mg_iload_n K md_L_take_14 rfl ?_
      refine mg_aload_n K md_L_take_15 rfl ?_
      refine mr_getI (v := Int32.ofNat (ca_ln g x).length) K mf_L_17 md_L_take_16 (by decide) hx rfl ?_
      refine mg_icmp_ge K 42 md_L_take_19 rfl (fun h19 => ?_) (fun h19 => ?_)
      · refine mg_aload_n K md_L_take_42 rfl ?_
        refine mg_dup K md_L_take_43 rfl ?_
        refine mr_getI (v := Int32.ofNat (ca_ln g x).length) K mf_L_17 md_L_take_44 (by decide) hx rfl ?_
        refine mg_iconst K (v := 1) md_L_take_47 (by decide) ?_
        refine mg_isub K md_L_take_48 ?_
        rw [mi_s (by omega)]
        refine mr_putI K mf_L_17 md_L_take_49 hx ?_
        refine mg_aload_n K md_L_take_52 rfl ?_
        refine mr_getS K mf_L_11 md_L_take_53 hx rfl ?_
        refine mg_aload_n K md_L_take_56 rfl ?_
        refine mr_getI (v := Int32.ofNat ((ca_ln g x).length - 1)) K mf_L_17 md_L_take_57 (by decide) hx (mr_u3_s _ _ _ _ _) ?_
        refine mg_null K md_L_take_60 ?_
        refine mr_aastN K rfl (ma_t hty 3) md_L_take_61 hx (mi_vn (by omega) (by omega)) ?_
        rw [mi_tn (by omega)]
        refine mr_eqr (ma_TE g q x n hnl) ?_
        refine mg_aload_n K md_L_take_62 rfl ?_
        exact mg_aret K hret hlk md_L_take_63 (Nat.le_refl _) (Nat.le_refl _) ⟨rfl, rfl, rfl⟩
      · exact absurd ((mi_le (by omega) (by omega)).mpr (Nat.le_refl _)) h19
    | succ f ih =>
      intro k hk hnk
      obtain ⟨jk, hjk⟩ : ∃ j, (ca_ln g x)[k]? = some j := ⟨_, List.getElem?_eq_getElem (by omega)⟩
      have hjm : jk < ca_nm g := hm jk (List.mem_of_getElem? hjk)
      refine mg_iload_n K md_L_take_14 rfl ?_
      refine mg_aload_n K md_L_take_15 rfl ?_
      refine mr_getI (v := Int32.ofNat (ca_ln g x).length) K mf_L_17 md_L_take_16 (by decide) hx rfl ?_
      refine mg_icmp_ge K 42 md_L_take_19 rfl (fun h19 => ?_) (fun h19 => ?_)
      · exact absurd ((mi_le (by omega) (by omega)).mp h19) (by omega)
      · refine mg_aload_n K md_L_take_22 rfl ?_
        refine mr_getS K mf_L_11 md_L_take_23 hx rfl ?_
        refine mg_iload_n K md_L_take_26 rfl ?_
        refine mg_iconst K (v := 1) md_L_take_27 (by decide) ?_
        refine mg_isub K md_L_take_28 ?_
        rw [mi_s (by omega)]
        refine mg_aload_n K md_L_take_29 rfl ?_
        refine mr_getS K mf_L_11 md_L_take_30 hx rfl ?_
        refine mg_iload_n K md_L_take_33 rfl ?_
        refine mr_aaldS K rfl (ma_t hty 3) md_L_take_34 hx (mi_vn (by omega) (by omega)) (by rw [mi_tn (by omega)]; exact ma_Tv g q hjk) ?_
        refine mr_aast (k2 := 10) (i2 := jk) K rfl (ma_t hty 3) rfl rfl md_L_take_35 hx hjm (mi_vn (by omega) (by omega)) ?_
        rw [mi_tn (by omega)]
        have hTS := ma_TS g q x n k hnk
        rw [hjk] at hTS
        refine mr_eqr hTS ?_
        refine mg_iinc K (v := Int32.ofNat (k + 1)) md_L_take_36 rfl (mi_a1 k) (by decide) ?_
        refine mg_goto K 14 md_L_take_39 rfl ?_
        exact ih (k + 1) (by omega) (by omega)
  refine mg_aload_n K md_L_take_0 rfl ?_
  refine mg_iload_n K md_L_take_1 rfl ?_
  refine mr_cV K hA (ct_L_get hty g q (Int32.ofNat n) hx hle) ms_L_21 (by decide) md_L_take_2 rfl rfl hx rfl (by decide) ⟨Nat.le_refl _, Nat.le_refl _⟩ ?_
  rw [ca_at_n (by omega) hnj, mr_as]
  refine mg_astore_n K md_L_take_5 (by decide) ?_
  refine mg_aload_n K md_L_take_6 rfl ?_
  refine mg_ifnull K 62 md_L_take_7 rfl (fun h7 => ?_) (fun h7 => ?_)
  · exact absurd h7 (fun z => by cases z)
  · refine mg_iload_n K md_L_take_10 rfl ?_
    refine mg_iconst K (v := 1) md_L_take_11 (by decide) ?_
    refine mg_iadd K md_L_take_12 ?_
    rw [mi_a1]
    refine mg_istore_n K md_L_take_13 (by decide) ?_
    refine mr_eqr (ma_T0 g q x n).symm ?_
    exact loop ((ca_ln g x).length - (n + 1)) (n + 1) (by omega) (Nat.le_refl _)
theorem ct_L_takeN (hty : tys.map (·.2) = ma_ty) (g : ca_S) (q : mr_St) {x n : Nat} (hx : x < 4) (hle : (ca_ln g x).length ≤ 96) (hn : n < 2147483648) (hnl : (ca_ln g x).length ≤ n) : mr_M l my_L_take mc_L_take 4 (some (.object "MessageActs$Message")) 2 D mn_cl Z mb_B tys ma_sh [va_rf (some (ad 8 x)), .int (Int32.ofNat n)] ad (ma_R g q) (some (va_rf none)) (ma_R g q) := by
  refine mg_M.of (cc := mc_L_take) (maxL := 4) (ret := (some (.object "MessageActs$Message"))) (by decide) rfl (Nat.le_of_ble_eq_true rfl) (mg_caS rfl (mg_caS rfl mg_ca0)) ?_
  intro p e s m args below meth c K hret hlk hnm hA
  refine mg_aload_n K md_L_take_0 rfl ?_
  refine mg_iload_n K md_L_take_1 rfl ?_
  refine mr_cV K hA (ct_L_get hty g q (Int32.ofNat n) hx hle) ms_L_21 (by decide) md_L_take_2 rfl rfl hx rfl (by decide) ⟨Nat.le_refl _, Nat.le_refl _⟩ ?_
  rw [ca_at_o hn hnl]
  refine mg_astore_n K md_L_take_5 (by decide) ?_
  refine mg_aload_n K md_L_take_6 rfl ?_
  refine mg_ifnull K 62 md_L_take_7 rfl (fun h7 => ?_) (fun h7 => ?_)
  · refine mg_aload_n K md_L_take_62 rfl ?_
    exact mg_aret K hret hlk md_L_take_63 (Nat.le_refl _) (Nat.le_refl _) ⟨rfl, rfl, rfl⟩
  · exact absurd rfl h7
theorem ct_L_tff (hty : tys.map (·.2) = ma_ty) (g : ca_S) (q : mr_St) {x u : Nat} (hx : x < 4) (hu : u < 16) (hle : (ca_ln g x).length ≤ 96) (hm : ∀ i ∈ ca_ln g x, i < ca_nm g ∧ ca_ms g i < 16) {n j : Nat} (hnj : (ca_ln g x)[n]? = some j) (hju : ca_ms g j = u) (hno : ∀ k i, k < n → (ca_ln g x)[k]? = some i → ¬ ca_ms g i = u) : mr_M l my_L_takeFirstFor mc_L_takeFirstFor 4 (some (.object "MessageActs$Message")) 3 D mn_cl Z mb_B tys ma_sh [va_rf (some (ad 8 x)), va_rf (some (ad 7 u))] ad (ma_R g q) (some (va_rf (some (ad 10 j)))) (ma_R (ca_sn g x ((ca_ln g x).eraseIdx n)) q) := by
  refine mg_M.of (cc := mc_L_takeFirstFor) (maxL := 4) (ret := (some (.object "MessageActs$Message"))) (by decide) rfl (Nat.le_of_ble_eq_true rfl) (mg_caS rfl (mg_caS rfl mg_ca0)) ?_
  intro p e s m args below meth c K hret hlk hnm hA
  have hnl : n < (ca_ln g x).length := (List.getElem?_eq_some_iff.mp hnj).1
  have loop : ∀ (f k : Nat), k + f = n → mg_G p l e (mg_rm 3 0 0) s m args below meth c D mn_cl Z (mg_A ad (mr_C tys ma_sh ad (ma_R g q)) s.heap.size) s.heap 4 (MQ below (mg_Qc D mn_cl Z ad (mr_C tys ma_sh ad (ma_R g q)) s.heap.size (mg_Po tys ma_sh ad (some (va_rf (some (ad 10 j)))) (ma_R (ca_sn g x ((ca_ln g x).eraseIdx n)) q))) args s 0 0 (mg_A ad (mr_C tys ma_sh ad (ma_R g q)) s.heap.size)) ad (mr_C tys ma_sh ad (ma_R g q)) [some (va_rf (some (ad 8 x))), some (va_rf (some (ad 7 u))), some (.int (Int32.ofNat k))] 0 0 [] 2 := by
    intro f
    induction f with
    | zero =>
      intro k hk
      have hk2 : k = n := by omega
      subst hk2
      refine mg_iload_n K md_L_takeFirstFor_2 rfl ?_
      refine mg_aload_n K md_L_takeFirstFor_3 rfl ?_
      refine mr_getI (v := Int32.ofNat (ca_ln g x).length) K mf_L_17 md_L_takeFirstFor_4 (by decide) hx rfl ?_
      refine mg_icmp_ge K 40 md_L_takeFirstFor_7 rfl (fun h7 => ?_) (fun h7 => ?_)
      · exact absurd ((mi_le (by omega) (by omega)).mp h7) (by omega)
      · refine mg_aload_n K md_L_takeFirstFor_10 rfl ?_
        refine mg_iload_n K md_L_takeFirstFor_11 rfl ?_
        refine mr_cV K hA (ct_L_get hty g q (Int32.ofNat k) hx hle) ms_L_21 (by decide) md_L_takeFirstFor_12 rfl rfl hx rfl (by decide) ⟨Nat.le_refl _, Nat.le_refl _⟩ ?_
        rw [ca_at_n (by omega) hnj, mr_as]
        refine mg_astore_n K md_L_takeFirstFor_15 (by decide) ?_
        refine mg_aload_n K md_L_takeFirstFor_16 rfl ?_
        refine mg_ifnull K 34 md_L_takeFirstFor_17 rfl (fun h17 => ?_) (fun h17 => ?_)
        · exact absurd h17 (fun z => by cases z)
        · refine mg_aload_n K md_L_takeFirstFor_20 rfl ?_
          refine mr_getS K mf_L_25 md_L_takeFirstFor_21 (hm j (List.mem_of_getElem? hnj)).1 rfl ?_
          refine mg_aload_n K md_L_takeFirstFor_24 rfl ?_
          refine mr_acmp_ne K 34 md_L_takeFirstFor_25 rfl (hm j (List.mem_of_getElem? hnj)).2 hu (fun h25 => absurd ⟨rfl, hju⟩ h25) (fun h25 => ?_)
          refine mg_aload_n K md_L_takeFirstFor_28 rfl ?_
          refine mg_iload_n K md_L_takeFirstFor_29 rfl ?_
          refine mr_cV K hA (ct_L_take hty g q hx hle (fun i hi => (hm i hi).1) hnj) ms_L_29 (by decide) md_L_takeFirstFor_30 rfl rfl hx rfl (by decide) ⟨Nat.le_refl _, Nat.le_refl _⟩ ?_
          exact mg_aret K hret hlk md_L_takeFirstFor_33 (Nat.le_refl _) (Nat.le_refl _) ⟨rfl, rfl, rfl⟩
    | succ f ih =>
      intro k hk
      obtain ⟨jk, hjk⟩ : ∃ j, (ca_ln g x)[k]? = some j := ⟨_, List.getElem?_eq_getElem (by omega)⟩
      have hjm := hm jk (List.mem_of_getElem? hjk)
      have hne : ¬ ca_ms g jk = u := hno k jk (by omega) hjk
      refine mg_iload_n K md_L_takeFirstFor_2 rfl ?_
      refine mg_aload_n K md_L_takeFirstFor_3 rfl ?_
      refine mr_getI (v := Int32.ofNat (ca_ln g x).length) K mf_L_17 md_L_takeFirstFor_4 (by decide) hx rfl ?_
      refine mg_icmp_ge K 40 md_L_takeFirstFor_7 rfl (fun h7 => ?_) (fun h7 => ?_)
      · exact absurd ((mi_le (by omega) (by omega)).mp h7) (by omega)
      · refine mg_aload_n K md_L_takeFirstFor_10 rfl ?_
        refine mg_iload_n K md_L_takeFirstFor_11 rfl ?_
        refine mr_cV K hA (ct_L_get hty g q (Int32.ofNat k) hx hle) ms_L_21 (by decide) md_L_takeFirstFor_12 rfl rfl hx rfl (by decide) ⟨Nat.le_refl _, Nat.le_refl _⟩ ?_
        rw [ca_at_n (by omega) hjk, mr_as]
        refine mg_astore_n K md_L_takeFirstFor_15 (by decide) ?_
        refine mg_aload_n K md_L_takeFirstFor_16 rfl ?_
        refine mg_ifnull K 34 md_L_takeFirstFor_17 rfl (fun h17 => ?_) (fun h17 => ?_)
        · exact absurd h17 (fun z => by cases z)
        · refine mg_aload_n K md_L_takeFirstFor_20 rfl ?_
          refine mr_getS K mf_L_25 md_L_takeFirstFor_21 hjm.1 rfl ?_
          refine mg_aload_n K md_L_takeFirstFor_24 rfl ?_
          refine mr_acmp_ne K 34 md_L_takeFirstFor_25 rfl hjm.2 hu (fun h25 => ?_) (fun h25 => absurd h25.2 hne)
          refine mg_iinc K (v := Int32.ofNat (k + 1)) md_L_takeFirstFor_34 rfl (mi_a1 k) (by decide) ?_
          refine mg_goto K 2 md_L_takeFirstFor_37 rfl ?_
          refine mg_take 3 ?_
          exact ih (k + 1) (by omega)
  refine mg_iconst K (v := 0) md_L_takeFirstFor_0 (by decide) ?_
  refine mg_istore_n K md_L_takeFirstFor_1 (by decide) ?_
  exact loop n 0 (by omega)
theorem ct_L_tffN (hty : tys.map (·.2) = ma_ty) (g : ca_S) (q : mr_St) {x u : Nat} (hx : x < 4) (hu : u < 16) (hle : (ca_ln g x).length ≤ 96) (hm : ∀ i ∈ ca_ln g x, i < ca_nm g ∧ ca_ms g i < 16) (hno : ∀ i ∈ ca_ln g x, ¬ ca_ms g i = u) : mr_M l my_L_takeFirstFor mc_L_takeFirstFor 4 (some (.object "MessageActs$Message")) 3 D mn_cl Z mb_B tys ma_sh [va_rf (some (ad 8 x)), va_rf (some (ad 7 u))] ad (ma_R g q) (some (va_rf none)) (ma_R g q) := by
  refine mg_M.of (cc := mc_L_takeFirstFor) (maxL := 4) (ret := (some (.object "MessageActs$Message"))) (by decide) rfl (Nat.le_of_ble_eq_true rfl) (mg_caS rfl (mg_caS rfl mg_ca0)) ?_
  intro p e s m args below meth c K hret hlk hnm hA
  have loop : ∀ (f k : Nat), k + f = (ca_ln g x).length → mg_G p l e (mg_rm 3 0 0) s m args below meth c D mn_cl Z (mg_A ad (mr_C tys ma_sh ad (ma_R g q)) s.heap.size) s.heap 4 (MQ below (mg_Qc D mn_cl Z ad (mr_C tys ma_sh ad (ma_R g q)) s.heap.size (mg_Po tys ma_sh ad (some (va_rf none)) (ma_R g q))) args s 0 0 (mg_A ad (mr_C tys ma_sh ad (ma_R g q)) s.heap.size)) ad (mr_C tys ma_sh ad (ma_R g q)) [some (va_rf (some (ad 8 x))), some (va_rf (some (ad 7 u))), some (.int (Int32.ofNat k))] 0 0 [] 2 := by
    intro f
    induction f with
    | zero =>
      intro k hk
      refine mg_iload_n K md_L_takeFirstFor_2 rfl ?_
      refine mg_aload_n K md_L_takeFirstFor_3 rfl ?_
      refine mr_getI (v := Int32.ofNat (ca_ln g x).length) K mf_L_17 md_L_takeFirstFor_4 (by decide) hx rfl ?_
      refine mg_icmp_ge K 40 md_L_takeFirstFor_7 rfl (fun h7 => ?_) (fun h7 => ?_)
      · refine mg_null K md_L_takeFirstFor_40 ?_
        exact mg_aret K hret hlk md_L_takeFirstFor_41 (Nat.le_refl _) (Nat.le_refl _) ⟨rfl, rfl, rfl⟩
      · exact absurd ((mi_le (by omega) (by omega)).mpr (by omega)) h7
    | succ f ih =>
      intro k hk
      obtain ⟨jk, hjk⟩ : ∃ j, (ca_ln g x)[k]? = some j := ⟨_, List.getElem?_eq_getElem (by omega)⟩
      have hjm := hm jk (List.mem_of_getElem? hjk)
      have hne : ¬ ca_ms g jk = u := hno jk (List.mem_of_getElem? hjk)
      refine mg_iload_n K md_L_takeFirstFor_2 rfl ?_
      refine mg_aload_n K md_L_takeFirstFor_3 rfl ?_
      refine mr_getI (v := Int32.ofNat (ca_ln g x).length) K mf_L_17 md_L_takeFirstFor_4 (by decide) hx rfl ?_
      refine mg_icmp_ge K 40 md_L_takeFirstFor_7 rfl (fun h7 => ?_) (fun h7 => ?_)
      · exact absurd ((mi_le (by omega) (by omega)).mp h7) (by omega)
      · refine mg_aload_n K md_L_takeFirstFor_10 rfl ?_
        refine mg_iload_n K md_L_takeFirstFor_11 rfl ?_
        refine mr_cV K hA (ct_L_get hty g q (Int32.ofNat k) hx hle) ms_L_21 (by decide) md_L_takeFirstFor_12 rfl rfl hx rfl (by decide) ⟨Nat.le_refl _, Nat.le_refl _⟩ ?_
        rw [ca_at_n (by omega) hjk, mr_as]
        refine mg_astore_n K md_L_takeFirstFor_15 (by decide) ?_
        refine mg_aload_n K md_L_takeFirstFor_16 rfl ?_
        refine mg_ifnull K 34 md_L_takeFirstFor_17 rfl (fun h17 => ?_) (fun h17 => ?_)
        · exact absurd h17 (fun z => by cases z)
        · refine mg_aload_n K md_L_takeFirstFor_20 rfl ?_
          refine mr_getS K mf_L_25 md_L_takeFirstFor_21 hjm.1 rfl ?_
          refine mg_aload_n K md_L_takeFirstFor_24 rfl ?_
          refine mr_acmp_ne K 34 md_L_takeFirstFor_25 rfl hjm.2 hu (fun h25 => ?_) (fun h25 => absurd h25.2 hne)
          refine mg_iinc K (v := Int32.ofNat (k + 1)) md_L_takeFirstFor_34 rfl (mi_a1 k) (by decide) ?_
          refine mg_goto K 2 md_L_takeFirstFor_37 rfl ?_
          refine mg_take 3 ?_
          exact ih (k + 1) (by omega)
  refine mg_iconst K (v := 0) md_L_takeFirstFor_0 (by decide) ?_
  refine mg_istore_n K md_L_takeFirstFor_1 (by decide) ?_
  exact loop (ca_ln g x).length 0 (by omega)
def ca_lf (g : ca_S) (x u : Nat) : Nat → Nat → Nat → Nat
  | _, 0, a => a
  | k, f + 1, a => ca_lf g x u (k + 1) f (match (ca_ln g x)[k]? with
    | none => a
    | some j => if ca_ms g j = u then a + 1 else a)
theorem ca_lf_S {g : ca_S} {x u k f a j : Nat} (h : (ca_ln g x)[k]? = some j) : ca_lf g x u k (f + 1) a = ca_lf g x u (k + 1) f (if ca_ms g j = u then a + 1 else a) := by
  show ca_lf g x u (k + 1) f (match (ca_ln g x)[k]? with | none => a | some j => if ca_ms g j = u then a + 1 else a) = _
  rw [h]
theorem ca_lf_le (g : ca_S) (x u : Nat) : ∀ (f k a : Nat), ca_lf g x u k f a ≤ a + f
  | 0, k, a => Nat.le_refl _
  | f + 1, k, a => by
    unfold ca_lf
    refine Nat.le_trans (ca_lf_le g x u f (k + 1) _) ?_
    split
    · omega
    · split <;> omega
theorem ct_L_lengthFor (hty : tys.map (·.2) = ma_ty) (g : ca_S) (q : mr_St) {x u : Nat} (hx : x < 4) (hu : u < 16) (hle : (ca_ln g x).length ≤ 96) (hm : ∀ i ∈ ca_ln g x, i < ca_nm g ∧ ca_ms g i < 16) : mr_M l my_L_lengthFor mc_L_lengthFor 5 (some .int) 2 D mn_cl Z mb_B tys ma_sh [va_rf (some (ad 8 x)), va_rf (some (ad 7 u))] ad (ma_R g q) (some (.int (Int32.ofNat (ca_lf g x u 0 (ca_ln g x).length 0)))) (ma_R g q) := by
  refine mg_M.of (cc := mc_L_lengthFor) (maxL := 5) (ret := (some .int)) (by decide) rfl (Nat.le_of_ble_eq_true rfl) (mg_caS rfl (mg_caS rfl mg_ca0)) ?_
  intro p e s m args below meth c K hret hlk hnm hA
  have loop : ∀ (f k a : Nat), k + f = (ca_ln g x).length → ca_lf g x u k f a = ca_lf g x u 0 (ca_ln g x).length 0 → mg_G p l e (mg_rm 2 0 0) s m args below meth c D mn_cl Z (mg_A ad (mr_C tys ma_sh ad (ma_R g q)) s.heap.size) s.heap 5 (MQ below (mg_Qc D mn_cl Z ad (mr_C tys ma_sh ad (ma_R g q)) s.heap.size (mg_Po tys ma_sh ad (some (.int (Int32.ofNat (ca_lf g x u 0 (ca_ln g x).length 0)))) (ma_R g q))) args s 0 0 (mg_A ad (mr_C tys ma_sh ad (ma_R g q)) s.heap.size)) ad (mr_C tys ma_sh ad (ma_R g q)) [some (va_rf (some (ad 8 x))), some (va_rf (some (ad 7 u))), some (.int (Int32.ofNat a)), some (.int (Int32.ofNat k))] 0 0 [] 4 := by
    intro f
    induction f with
    | zero =>
      intro k a hk ha
      refine mg_iload_n K md_L_lengthFor_4 rfl ?_
      refine mg_aload_n K md_L_lengthFor_5 rfl ?_
      refine mr_getI (v := Int32.ofNat (ca_ln g x).length) K mf_L_17 md_L_lengthFor_6 (by decide) hx rfl ?_
      refine mg_icmp_ge K 42 md_L_lengthFor_9 rfl (fun h9 => ?_) (fun h9 => ?_)
      · refine mg_iload_n K md_L_lengthFor_42 rfl ?_
        exact mg_iret K hret hlk md_L_lengthFor_43 (Nat.le_refl _) (Nat.le_refl _) ⟨by rw [← ha]; rfl, rfl, rfl⟩
      · exact absurd ((mi_le (by omega) (by omega)).mpr (by omega)) h9
    | succ f ih =>
      intro k a hk ha
      obtain ⟨jk, hjk⟩ : ∃ j, (ca_ln g x)[k]? = some j := ⟨_, List.getElem?_eq_getElem (by omega)⟩
      have hjm := hm jk (List.mem_of_getElem? hjk)
      rw [ca_lf_S hjk] at ha
      refine mg_iload_n K md_L_lengthFor_4 rfl ?_
      refine mg_aload_n K md_L_lengthFor_5 rfl ?_
      refine mr_getI (v := Int32.ofNat (ca_ln g x).length) K mf_L_17 md_L_lengthFor_6 (by decide) hx rfl ?_
      refine mg_icmp_ge K 42 md_L_lengthFor_9 rfl (fun h9 => ?_) (fun h9 => ?_)
      · exact absurd ((mi_le (by omega) (by omega)).mp h9) (by omega)
      · refine mg_aload_n K md_L_lengthFor_12 rfl ?_
        refine mg_iload_n K md_L_lengthFor_13 rfl ?_
        refine mr_cV K hA (ct_L_get hty g q (Int32.ofNat k) hx hle) ms_L_21 (by decide) md_L_lengthFor_14 rfl rfl hx rfl (by decide) ⟨Nat.le_refl _, Nat.le_refl _⟩ ?_
        rw [ca_at_n (by omega) hjk, mr_as]
        refine mg_astore K md_L_lengthFor_17 (by decide) ?_
        refine mg_aload K md_L_lengthFor_19 rfl ?_
        refine mg_ifnull K 36 md_L_lengthFor_21 rfl (fun h21 => ?_) (fun h21 => ?_)
        · exact absurd h21 (fun z => by cases z)
        · refine mg_aload K md_L_lengthFor_24 rfl ?_
          refine mr_getS K mf_L_25 md_L_lengthFor_26 hjm.1 rfl ?_
          refine mg_aload_n K md_L_lengthFor_29 rfl ?_
          refine mr_acmp_ne K 36 md_L_lengthFor_30 rfl hjm.2 hu (fun h30 => ?_) (fun h30 => ?_)
          · refine mg_iinc K (v := Int32.ofNat (k + 1)) md_L_lengthFor_36 rfl (mi_a1 k) (by decide) ?_
            refine mg_goto K 4 md_L_lengthFor_39 rfl ?_
            rw [if_neg (fun z => h30 ⟨rfl, z⟩)] at ha
            refine mg_take 4 ?_
            exact ih (k + 1) a (by omega) ha
          · refine mg_iinc K (v := Int32.ofNat (a + 1)) md_L_lengthFor_33 rfl (mi_a1 a) (by decide) ?_
            refine mg_iinc K (v := Int32.ofNat (k + 1)) md_L_lengthFor_36 rfl (mi_a1 k) (by decide) ?_
            refine mg_goto K 4 md_L_lengthFor_39 rfl ?_
            rw [if_pos h30.2] at ha
            refine mg_take 4 ?_
            exact ih (k + 1) (a + 1) (by omega) ha
  refine mg_iconst K (v := 0) md_L_lengthFor_0 (by decide) ?_
  refine mg_istore_n K md_L_lengthFor_1 (by decide) ?_
  refine mg_iconst K (v := 0) md_L_lengthFor_2 (by decide) ?_
  refine mg_istore_n K md_L_lengthFor_3 (by decide) ?_
  exact loop (ca_ln g x).length 0 0 (by omega) rfl
end CL1
end
section
/-! Sender: its numbers -/
theorem mi_num {n : Nat} (h1 : 1 ≤ n) (h2 : n ≤ 24) : (if ¬ Int32.ofNat n < 1 ∧ ¬ 24 < Int32.ofNat n then (1 : Int32) else 0) = 1 :=
  if_pos ⟨fun z => by have := (mi_lt (a := n) (b := 1) (by omega) (by omega)).mp z; omega, fun z => by have := (mi_lt (a := 24) (b := n) (by omega) (by omega)).mp z; omega⟩
theorem mi_m1 (n : Nat) : Int32.ofNat (n + 1) + Int32.ofInt (-1) = Int32.ofNat n := by
  have h : Int32.ofInt (-1) = -1 := by decide
  rw [h, ← Int32.sub_eq_add_neg, mi_s1]
def ca_tv (g : ca_S) (s n : Nat) : Option (Nat × Nat) := (ca_tb g s n).map (fun j => (10, j))
theorem ca_tv_n {g : ca_S} {s n : Nat} (h : ca_tb g s n = none) : ca_tv g s n = none := by unfold ca_tv; rw [h]; rfl
theorem ca_tv_s {g : ca_S} {s n j : Nat} (h : ca_tb g s n = some j) : ca_tv g s n = some (10, j) := by unfold ca_tv; rw [h]; rfl
theorem ca_beh_N {g : ca_S} {s n f : Nat} {b : Int32} (h : ca_tb g s n = none) : ca_beh g s b n (f + 1) = ca_beh g s b (n + 1) f := by
  show ((match ca_tb g s n with | none => false | some j => decide (¬ ca_iv g 10 j 4 = 6) && decide (ca_iv g 10 j 6 < b)) || ca_beh g s b (n + 1) f) = _
  rw [h]
  rfl
theorem ca_beh_S {g : ca_S} {s n f j : Nat} {b : Int32} (h : ca_tb g s n = some j) : ca_beh g s b n (f + 1) = ((decide (¬ ca_iv g 10 j 4 = 6) && decide (ca_iv g 10 j 6 < b)) || ca_beh g s b (n + 1) f) := by
  show ((match ca_tb g s n with | none => false | some j => decide (¬ ca_iv g 10 j 4 = 6) && decide (ca_iv g 10 j 6 < b)) || ca_beh g s b (n + 1) f) = _
  rw [h]
theorem ca_cnt_N {g : ca_S} {s n f a : Nat} {b : Int32} (h : ca_tb g s n = none) : ca_cnt g s b n (f + 1) a = ca_cnt g s b (n + 1) f a := by
  show ca_cnt g s b (n + 1) f (match ca_tb g s n with | none => a | some j => if ca_iv g 10 j 4 = b then a + 1 else a) = _
  rw [h]
theorem ca_cnt_S {g : ca_S} {s n f a j : Nat} {b : Int32} (h : ca_tb g s n = some j) : ca_cnt g s b n (f + 1) a = ca_cnt g s b (n + 1) f (if ca_iv g 10 j 4 = b then a + 1 else a) := by
  show ca_cnt g s b (n + 1) f (match ca_tb g s n with | none => a | some j => if ca_iv g 10 j 4 = b then a + 1 else a) = _
  rw [h]
theorem ca_lose_N {g : ca_S} {s n f a : Nat} (h : ca_tb g s n = none) : ca_lose s n (f + 1) g a = ca_lose s (n + 1) f g a := by
  show (match ca_tb g s n with | none => ca_lose s (n + 1) f g a | some j => if ca_iv g 10 j 4 = 0 then ca_lose s (n + 1) f (ca_si g 10 j 4 6) (a + 1) else ca_lose s (n + 1) f g a) = _
  rw [h]
theorem ca_lose_S {g : ca_S} {s n f a j : Nat} (h : ca_tb g s n = some j) : ca_lose s n (f + 1) g a = if ca_iv g 10 j 4 = 0 then ca_lose s (n + 1) f (ca_si g 10 j 4 6) (a + 1) else ca_lose s (n + 1) f g a := by
  show (match ca_tb g s n with | none => ca_lose s (n + 1) f g a | some j => if ca_iv g 10 j 4 = 0 then ca_lose s (n + 1) f (ca_si g 10 j 4 6) (a + 1) else ca_lose s (n + 1) f g a) = _
  rw [h]
def ca_stb (g : ca_S) (s n : Nat) (x : Option Nat) : ca_S := (g.1, fun a b => if a = s ∧ b = n then x else g.2.1 a b, g.2.2)
theorem ma_tb (g : ca_S) (q : mr_St) (s n : Nat) (x : Option Nat) : mr_sR (ma_R g q) 5 s n (x.map (fun j => (10, j))) = ma_R (ca_stb g s n x) q := by
  refine Prod.ext rfl (Prod.ext rfl (Prod.ext ?_ rfl))
  funext a b c
  show mr_u3 (ma_rv g q) 5 s n _ a b c = ma_rv (ca_stb g s n x) q a b c
  by_cases h : a = 5 ∧ b = s ∧ c = n
  · obtain ⟨rfl, rfl, rfl⟩ := h
    rw [mr_u3_s]
    show _ = (ca_tb (ca_stb g b c x) b c).map _
    have : ca_tb (ca_stb g b c x) b c = x := if_pos ⟨rfl, rfl⟩
    rw [this]
  · rw [mr_u3_n _ _ _ _ _ h]
    by_cases ha : a = 5
    · subst ha
      show (ca_tb g b c).map _ = (ca_tb (ca_stb g s n x) b c).map _
      have : ca_tb (ca_stb g s n x) b c = ca_tb g b c := if_neg (fun z => h ⟨rfl, z.1, z.2⟩)
      rw [this]
    · unfold ma_rv
      simp only [ha, if_false]
      rfl
section CS2
variable {l : Launch} {D : va_G} {Z : Nat × Cell} {tys : List (ClassId × FieldType)} {ad : mg_Ad}
theorem ct_S_get (hty : tys.map (·.2) = ma_ty) (g : ca_S) (q : mr_St) {s0 n : Nat} (hs : s0 < 4) (h1 : 1 ≤ n) (h24 : n ≤ 24) : mr_M l my_S_get mc_S_get 2 (some (.object "MessageActs$Message")) 2 D mn_cl Z mb_B tys ma_sh [va_rf (some (ad 4 s0)), .int (Int32.ofNat n)] ad (ma_R g q) (some (va_rf (mr_a ad (ca_tv g s0 n)))) (ma_R g q) := by
  refine mg_M.of (cc := mc_S_get) (maxL := 2) (ret := (some (.object "MessageActs$Message"))) (by decide) rfl (Nat.le_of_ble_eq_true rfl) (mg_caS rfl (mg_caS rfl mg_ca0)) ?_
  intro p e s m args below meth c K hret hlk hnm hA
  refine mg_iload_n K md_S_get_0 rfl ?_
  refine mr_cPN K hA (ct_A_isNumber (Int32.ofNat n)) ms_S_21 (by decide) md_S_get_1 rfl (by decide) ⟨Nat.le_refl _, Nat.le_refl _⟩ ?_
  rw [mi_num h1 h24]
  refine mg_if_eq K 16 md_S_get_4 rfl (fun h4 => ?_) (fun h4 => ?_)
  · exact absurd h4 (by decide)
  · refine mg_aload_n K md_S_get_7 rfl ?_
    refine mr_getS K mf_S_11 md_S_get_8 hs rfl ?_
    refine mg_iload_n K md_S_get_11 rfl ?_
    refine mr_aald (v := ca_tv g s0 n) K rfl (ma_t hty 3) md_S_get_12 hs (mi_vn (by omega) (by omega)) (by rw [mi_tn (by omega)]; rfl) ?_
    refine mg_goto K 17 md_S_get_13 rfl ?_
    exact mg_aret K hret hlk md_S_get_17 (Nat.le_refl _) (Nat.le_refl _) ⟨rfl, rfl, rfl⟩
theorem ct_S_put (hty : tys.map (·.2) = ma_ty) (g : ca_S) (q : mr_St) {s0 n j : Nat} (hs : s0 < 4) (h1 : 1 ≤ n) (h24 : n ≤ 24) (hj : j < ca_nm g) : mr_M l my_S_put mc_S_put 3 none 2 D mn_cl Z mb_B tys ma_sh [va_rf (some (ad 4 s0)), .int (Int32.ofNat n), va_rf (some (ad 10 j))] ad (ma_R g q) none (ma_R (ca_stb g s0 n (some j)) q) := by
  refine mg_M.of (cc := mc_S_put) (maxL := 3) (ret := none) (by decide) rfl (Nat.le_of_ble_eq_true rfl) (mg_caS rfl (mg_caS rfl (mg_caS rfl mg_ca0))) ?_
  intro p e s m args below meth c K hret hlk hnm hA
  refine mg_iload_n K md_S_put_0 rfl ?_
  refine mr_cPN K hA (ct_A_isNumber (Int32.ofNat n)) ms_S_21 (by decide) md_S_put_1 rfl (by decide) ⟨Nat.le_refl _, Nat.le_refl _⟩ ?_
  rw [mi_num h1 h24]
  refine mg_if_eq K 14 md_S_put_4 rfl (fun h4 => ?_) (fun h4 => ?_)
  · exact absurd h4 (by decide)
  · refine mg_aload_n K md_S_put_7 rfl ?_
    refine mr_getS K mf_S_11 md_S_put_8 hs rfl ?_
    refine mg_iload_n K md_S_put_11 rfl ?_
    refine mg_aload_n K md_S_put_12 rfl ?_
    refine mr_aast (k2 := 10) (i2 := j) K rfl (ma_t hty 3) rfl rfl md_S_put_13 hs hj (mi_vn (by omega) (by omega)) ?_
    rw [mi_tn (by omega)]
    refine mr_eqr (ma_tb g q s0 n (some j)) ?_
    exact mg_vret K hret hlk md_S_put_14 (Nat.le_refl _) (Nat.le_refl _) ⟨rfl, rfl, rfl⟩
theorem ct_S_close (hty : tys.map (·.2) = ma_ty) (g : ca_S) (q : mr_St) {s0 n : Nat} (hs : s0 < 4) (h1 : 1 ≤ n) (h24 : n ≤ 24) : mr_M l my_S_close mc_S_close 2 none 2 D mn_cl Z mb_B tys ma_sh [va_rf (some (ad 4 s0)), .int (Int32.ofNat n)] ad (ma_R g q) none (ma_R (ca_si g 6 s0 n 1) q) := by
  refine mg_M.of (cc := mc_S_close) (maxL := 2) (ret := none) (by decide) rfl (Nat.le_of_ble_eq_true rfl) (mg_caS rfl (mg_caS rfl mg_ca0)) ?_
  intro p e s m args below meth c K hret hlk hnm hA
  refine mg_iload_n K md_S_close_0 rfl ?_
  refine mr_cPN K hA (ct_A_isNumber (Int32.ofNat n)) ms_S_21 (by decide) md_S_close_1 rfl (by decide) ⟨Nat.le_refl _, Nat.le_refl _⟩ ?_
  rw [mi_num h1 h24]
  refine mg_if_eq K 14 md_S_close_4 rfl (fun h4 => ?_) (fun h4 => ?_)
  · exact absurd h4 (by decide)
  · refine mg_aload_n K md_S_close_7 rfl ?_
    refine mr_getS K mf_S_17 md_S_close_8 hs rfl ?_
    refine mg_iload_n K md_S_close_11 rfl ?_
    refine mg_iconst K (v := 1) md_S_close_12 (by decide) ?_
    refine mr_zast (v := 1) K rfl (ma_t hty 2) md_S_close_13 hs (mi_vn (by omega) (by omega)) (by decide) ?_
    rw [mi_tn (by omega)]
    refine mr_eqr (ma_sI g q 6 s0 n 1 (by decide) (by decide)) ?_
    exact mg_vret K hret hlk md_S_close_14 (Nat.le_refl _) (Nat.le_refl _) ⟨rfl, rfl, rfl⟩
theorem ct_S_isHere (hty : tys.map (·.2) = ma_ty) (g : ca_S) (q : mr_St) (x : Option Nat) (hx : ∀ j, x = some j → j < ca_nm g) : mr_M l my_S_isHere mc_S_isHere 1 (some .boolean) 1 D mn_cl Z mb_B tys ma_sh [va_rf (mr_a ad (x.map (fun j => (10, j))))] ad (ma_R g q) (some (.int (if ca_here g x then 1 else 0))) (ma_R g q) := by
  cases x with
  | none =>
    refine mg_M.of (cc := mc_S_isHere) (maxL := 1) (ret := (some .boolean)) (by decide) rfl (Nat.le_of_ble_eq_true rfl) (mg_caS rfl mg_ca0) ?_
    intro p e s m args below meth c K hret hlk hnm hA
    refine mg_aload_n K md_S_isHere_0 rfl ?_
    refine mg_ifnull K 17 md_S_isHere_1 rfl (fun h1 => ?_) (fun h1 => ?_)
    · refine mg_iconst K (v := 0) md_S_isHere_17 (by decide) ?_
      exact mg_zret K hret hlk md_S_isHere_18 (by decide) (Nat.le_refl _) (Nat.le_refl _) ⟨rfl, rfl, rfl⟩
    · exact absurd rfl h1
  | some j =>
    have hj := hx j rfl
    rw [show mr_a ad ((some j).map (fun j => (10, j))) = some (ad 10 j) from rfl]
    refine mg_M.of (cc := mc_S_isHere) (maxL := 1) (ret := (some .boolean)) (by decide) rfl (Nat.le_of_ble_eq_true rfl) (mg_caS rfl mg_ca0) ?_
    intro p e s m args below meth c K hret hlk hnm hA
    refine mg_aload_n K md_S_isHere_0 rfl ?_
    refine mg_ifnull K 17 md_S_isHere_1 rfl (fun h1 => ?_) (fun h1 => ?_)
    · exact absurd h1 (fun z => by cases z)
    · refine mg_aload_n K md_S_isHere_4 rfl ?_
      refine mr_getI (v := ca_iv g 10 j 4) K mf_S_29 md_S_isHere_5 (by decide) hj rfl ?_
      refine mg_bipush K (v := 6) md_S_isHere_8 (by decide) ?_
      refine mg_icmp_eq K 17 md_S_isHere_10 rfl (fun h10 => ?_) (fun h10 => ?_)
      · refine mg_iconst K (v := 0) md_S_isHere_17 (by decide) ?_
        exact mg_zret K hret hlk md_S_isHere_18 (by decide) (Nat.le_refl _) (Nat.le_refl _) ⟨by rw [show ca_here g (some j) = false from decide_eq_false (fun z => z h10)]; rfl, rfl, rfl⟩
      · refine mg_iconst K (v := 1) md_S_isHere_13 (by decide) ?_
        refine mg_goto K 18 md_S_isHere_14 rfl ?_
        exact mg_zret K hret hlk md_S_isHere_18 (by decide) (Nat.le_refl _) (Nat.le_refl _) ⟨by rw [show ca_here g (some j) = true from decide_eq_true h10]; rfl, rfl, rfl⟩
theorem ct_S_isGap (hty : tys.map (·.2) = ma_ty) (g : ca_S) (q : mr_St) {s0 n : Nat} (hs : s0 < 4) (h1 : 1 ≤ n) (h24 : n ≤ 24) (hok : ∀ j, ca_tb g s0 n = some j → j < ca_nm g) : mr_M l my_S_isGap mc_S_isGap 2 (some .boolean) 2 D mn_cl Z mb_B tys ma_sh [va_rf (some (ad 4 s0)), .int (Int32.ofNat n)] ad (ma_R g q) (some (.int (if ca_gap g s0 n then 1 else 0))) (ma_R g q) := by
  refine mg_M.of (cc := mc_S_isGap) (maxL := 2) (ret := (some .boolean)) (by decide) rfl (Nat.le_of_ble_eq_true rfl) (mg_caS rfl (mg_caS rfl mg_ca0)) ?_
  intro p e s m args below meth c K hret hlk hnm hA
  have hg : ca_gap g s0 n = (decide (ca_iv g 6 s0 n = 0) && !ca_here g (ca_tb g s0 n)) := by unfold ca_gap; rw [decide_eq_true (⟨h1, h24⟩ : 1 ≤ n ∧ n ≤ 24), Bool.true_and]
  refine mg_iload_n K md_S_isGap_0 rfl ?_
  refine mr_cPN K hA (ct_A_isNumber (Int32.ofNat n)) ms_S_21 (by decide) md_S_isGap_1 rfl (by decide) ⟨Nat.le_refl _, Nat.le_refl _⟩ ?_
  rw [mi_num h1 h24]
  refine mg_if_eq K 32 md_S_isGap_4 rfl (fun h4 => ?_) (fun h4 => ?_)
  · exact absurd h4 (by decide)
  · refine mg_aload_n K md_S_isGap_7 rfl ?_
    refine mr_getS K mf_S_17 md_S_isGap_8 hs rfl ?_
    refine mg_iload_n K md_S_isGap_11 rfl ?_
    refine mr_zald (v := ca_iv g 6 s0 n) K rfl (ma_t hty 2) md_S_isGap_12 hs (mi_vn (by omega) (by omega)) (by rw [mi_tn (by omega)]; rfl) ?_
    refine mg_if_ne K 32 md_S_isGap_13 rfl (fun h13 => ?_) (fun h13 => ?_)
    · refine mg_iconst K (v := 0) md_S_isGap_32 (by decide) ?_
      exact mg_zret K hret hlk md_S_isGap_33 (by decide) (Nat.le_refl _) (Nat.le_refl _) ⟨by rw [hg, decide_eq_false h13]; rfl, rfl, rfl⟩
    · refine mg_aload_n K md_S_isGap_16 rfl ?_
      refine mr_getS K mf_S_11 md_S_isGap_17 hs rfl ?_
      refine mg_iload_n K md_S_isGap_20 rfl ?_
      refine mr_aald (v := (ca_tb g s0 n).map (fun j => (10, j))) K rfl (ma_t hty 3) md_S_isGap_21 hs (mi_vn (by omega) (by omega)) (by rw [mi_tn (by omega)]; rfl) ?_
      refine mr_cS K hA (ct_S_isHere hty g q (ca_tb g s0 n) hok) ms_S_25 (by decide) md_S_isGap_22 rfl (by decide) ⟨Nat.le_refl _, Nat.le_refl _⟩ ?_
      refine mg_if_ne K 32 md_S_isGap_25 rfl (fun h25 => ?_) (fun h25 => ?_)
      · refine mg_iconst K (v := 0) md_S_isGap_32 (by decide) ?_
        exact mg_zret K hret hlk md_S_isGap_33 (by decide) (Nat.le_refl _) (Nat.le_refl _) ⟨by cases hh : ca_here g (ca_tb g s0 n) with | true => rw [hg, hh, Bool.not_true, Bool.and_false]; rfl | false => rw [hh] at h25; exact absurd rfl h25, rfl, rfl⟩
      · refine mg_iconst K (v := 1) md_S_isGap_28 (by decide) ?_
        refine mg_goto K 33 md_S_isGap_29 rfl ?_
        exact mg_zret K hret hlk md_S_isGap_33 (by decide) (Nat.le_refl _) (Nat.le_refl _) ⟨by cases hh : ca_here g (ca_tb g s0 n) with | true => rw [hh] at h25; exact absurd h25 (by decide) | false => rw [hg, hh, decide_eq_true h13]; rfl, rfl, rfl⟩
theorem ct_S_leastGap (hty : tys.map (·.2) = ma_ty) (g : ca_S) (q : mr_St) {s0 : Nat} (hs : s0 < 4) (hok : ∀ n j, ca_tb g s0 n = some j → j < ca_nm g) : mr_M l my_S_leastGap mc_S_leastGap 2 (some .int) 3 D mn_cl Z mb_B tys ma_sh [va_rf (some (ad 4 s0))] ad (ma_R g q) (some (.int (Int32.ofNat (ca_lg g s0)))) (ma_R g q) := by
  refine mg_M.of (cc := mc_S_leastGap) (maxL := 2) (ret := (some .int)) (by decide) rfl (Nat.le_of_ble_eq_true rfl) (mg_caS rfl mg_ca0) ?_
  intro p e s m args below meth c K hret hlk hnm hA
  have loop : ∀ (f n : Nat), n + f = 25 → 1 ≤ n → ca_least g s0 n f = ca_lg g s0 → mg_G p l e (mg_rm 3 0 0) s m args below meth c D mn_cl Z (mg_A ad (mr_C tys ma_sh ad (ma_R g q)) s.heap.size) s.heap 2 (MQ below (mg_Qc D mn_cl Z ad (mr_C tys ma_sh ad (ma_R g q)) s.heap.size (mg_Po tys ma_sh ad (some (.int (Int32.ofNat (ca_lg g s0)))) (ma_R g q))) args s 0 0 (mg_A ad (mr_C tys ma_sh ad (ma_R g q)) s.heap.size)) ad (mr_C tys ma_sh ad (ma_R g q)) [some (va_rf (some (ad 4 s0))), some (.int (Int32.ofNat n))] 0 0 [] 2 := by
    intro f
    induction f with
    | zero =>
      intro n hn h1 hT
      have hn2 : n = 25 := by omega
      subst hn2
      refine mg_iload_n K md_S_leastGap_2 rfl ?_
      refine mg_bipush K (v := 24) md_S_leastGap_3 (by decide) ?_
      refine mg_icmp_gt K 24 md_S_leastGap_5 rfl (fun h5 => ?_) (fun h5 => ?_)
      · refine mg_bipush K (v := 25) md_S_leastGap_24 (by decide) ?_
        exact mg_iret K hret hlk md_S_leastGap_26 (Nat.le_refl _) (Nat.le_refl _) ⟨by rw [← hT]; rfl, rfl, rfl⟩
      · exact absurd ((mi_lt (a := 24) (b := 25) (by omega) (by omega)).mpr (by omega)) h5
    | succ f ih =>
      intro n hn h1 hT
      have hS : (if ca_gap g s0 n then n else ca_least g s0 (n + 1) f) = ca_lg g s0 := hT
      refine mg_iload_n K md_S_leastGap_2 rfl ?_
      refine mg_bipush K (v := 24) md_S_leastGap_3 (by decide) ?_
      refine mg_icmp_gt K 24 md_S_leastGap_5 rfl (fun h5 => ?_) (fun h5 => ?_)
      · exact absurd ((mi_lt (a := 24) (b := n) (by omega) (by omega)).mp h5) (by omega)
      · refine mg_aload_n K md_S_leastGap_8 rfl ?_
        refine mg_iload_n K md_S_leastGap_9 rfl ?_
        refine mr_cV K hA (ct_S_isGap hty g q hs h1 (by omega) (hok n)) ms_S_33 (by decide) md_S_leastGap_10 rfl rfl hs rfl (by decide) ⟨Nat.le_refl _, Nat.le_refl _⟩ ?_
        refine mg_if_eq K 18 md_S_leastGap_13 rfl (fun h13 => ?_) (fun h13 => ?_)
        · have hg : ca_gap g s0 n = false := by cases hh : ca_gap g s0 n with | true => rw [hh] at h13; exact absurd h13 (by decide) | false => rfl
          rw [if_neg (by rw [hg]; decide)] at hS
          refine mg_iinc K (v := Int32.ofNat (n + 1)) md_S_leastGap_18 rfl (mi_a1 n) (by decide) ?_
          refine mg_goto K 2 md_S_leastGap_21 rfl ?_
          exact ih (n + 1) (by omega) (by omega) hS
        · have hg : ca_gap g s0 n = true := by cases hh : ca_gap g s0 n with | true => rfl | false => rw [hh] at h13; exact absurd rfl h13
          rw [if_pos hg] at hS
          refine mg_iload_n K md_S_leastGap_16 rfl ?_
          exact mg_iret K hret hlk md_S_leastGap_17 (Nat.le_refl _) (Nat.le_refl _) ⟨by rw [← hS], rfl, rfl⟩
  refine mg_iconst K (v := 1) md_S_leastGap_0 (by decide) ?_
  refine mg_istore_n K md_S_leastGap_1 (by decide) ?_
  exact loop 24 1 (by omega) (by omega) rfl
theorem ct_S_greatest (hty : tys.map (·.2) = ma_ty) (g : ca_S) (q : mr_St) {s0 : Nat} (hs : s0 < 4) (hok : ∀ n j, ca_tb g s0 n = some j → j < ca_nm g) : mr_M l my_S_greatest mc_S_greatest 2 (some .int) 3 D mn_cl Z mb_B tys ma_sh [va_rf (some (ad 4 s0))] ad (ma_R g q) (some (.int (Int32.ofNat (ca_great g s0 24)))) (ma_R g q) := by
  refine mg_M.of (cc := mc_S_greatest) (maxL := 2) (ret := (some .int)) (by decide) rfl (Nat.le_of_ble_eq_true rfl) (mg_caS rfl mg_ca0) ?_
  intro p e s m args below meth c K hret hlk hnm hA
  have loop : ∀ (n : Nat), n ≤ 24 → ca_great g s0 n = ca_great g s0 24 → mg_G p l e (mg_rm 3 0 0) s m args below meth c D mn_cl Z (mg_A ad (mr_C tys ma_sh ad (ma_R g q)) s.heap.size) s.heap 2 (MQ below (mg_Qc D mn_cl Z ad (mr_C tys ma_sh ad (ma_R g q)) s.heap.size (mg_Po tys ma_sh ad (some (.int (Int32.ofNat (ca_great g s0 24)))) (ma_R g q))) args s 0 0 (mg_A ad (mr_C tys ma_sh ad (ma_R g q)) s.heap.size)) ad (mr_C tys ma_sh ad (ma_R g q)) [some (va_rf (some (ad 4 s0))), some (.int (Int32.ofNat n))] 0 0 [] 3 := by
    intro n
    induction n with
    | zero =>
      intro hn hT
      refine mg_iload_n K md_S_greatest_3 rfl ?_
      refine mg_if_le K 26 md_S_greatest_4 rfl (fun h4 => ?_) (fun h4 => ?_)
      · refine mg_iconst K (v := 0) md_S_greatest_26 (by decide) ?_
        exact mg_iret K hret hlk md_S_greatest_27 (Nat.le_refl _) (Nat.le_refl _) ⟨by rw [← hT]; rfl, rfl, rfl⟩
      · exact absurd ((mi_le (a := 0) (b := 0) (by omega) (by omega)).mpr (by omega)) h4
    | succ n ih =>
      intro hn hT
      have hS : (if ca_here g (ca_tb g s0 (n + 1)) then n + 1 else ca_great g s0 n) = ca_great g s0 24 := hT
      refine mg_iload_n K md_S_greatest_3 rfl ?_
      refine mg_if_le K 26 md_S_greatest_4 rfl (fun h4 => ?_) (fun h4 => ?_)
      · exact absurd ((mi_le (a := n + 1) (b := 0) (by omega) (by omega)).mp h4) (by omega)
      · refine mg_aload_n K md_S_greatest_7 rfl ?_
        refine mg_iload_n K md_S_greatest_8 rfl ?_
        refine mr_cV K hA (ct_S_get hty g q hs (by omega) hn) ms_S_36 (by decide) md_S_greatest_9 rfl rfl hs rfl (by decide) ⟨Nat.le_refl _, Nat.le_refl _⟩ ?_
        refine mr_cS K hA (ct_S_isHere hty g q (ca_tb g s0 (n + 1)) (hok (n + 1))) ms_S_25 (by decide) md_S_greatest_12 rfl (by decide) ⟨Nat.le_refl _, Nat.le_refl _⟩ ?_
        refine mg_if_eq K 20 md_S_greatest_15 rfl (fun h15 => ?_) (fun h15 => ?_)
        · have hg : ca_here g (ca_tb g s0 (n + 1)) = false := by cases hh : ca_here g (ca_tb g s0 (n + 1)) with | true => rw [hh] at h15; exact absurd h15 (by decide) | false => rfl
          rw [if_neg (by rw [hg]; decide)] at hS
          refine mg_iinc K (v := Int32.ofNat n) md_S_greatest_20 rfl (mi_m1 n) (by decide) ?_
          refine mg_goto K 3 md_S_greatest_23 rfl ?_
          exact ih (by omega) hS
        · have hg : ca_here g (ca_tb g s0 (n + 1)) = true := by cases hh : ca_here g (ca_tb g s0 (n + 1)) with | true => rfl | false => rw [hh] at h15; exact absurd rfl h15
          rw [if_pos hg] at hS
          refine mg_iload_n K md_S_greatest_18 rfl ?_
          exact mg_iret K hret hlk md_S_greatest_19 (Nat.le_refl _) (Nat.le_refl _) ⟨by rw [← hS], rfl, rfl⟩
  refine mg_bipush K (v := 24) md_S_greatest_0 (by decide) ?_
  refine mg_istore_n K md_S_greatest_2 (by decide) ?_
  exact loop 24 (by omega) rfl
theorem ct_S_cameBehind (hty : tys.map (·.2) = ma_ty) (g : ca_S) (q : mr_St) {s0 n0 : Nat} {b : Int32} (hs : s0 < 4) (hn0 : n0 ≤ 25) (hok : ∀ n j, ca_tb g s0 n = some j → j < ca_nm g) : mr_M l my_S_cameBehind mc_S_cameBehind 5 (some .boolean) 3 D mn_cl Z mb_B tys ma_sh [va_rf (some (ad 4 s0)), .int (Int32.ofNat n0), .int b] ad (ma_R g q) (some (.int (if (ca_beh g s0 b (n0 + 1) (24 - n0)) then 1 else 0))) (ma_R g q) := by
  refine mg_M.of (cc := mc_S_cameBehind) (maxL := 5) (ret := (some .boolean)) (by decide) rfl (Nat.le_of_ble_eq_true rfl) (mg_caS rfl (mg_caS rfl (mg_caS rfl mg_ca0))) ?_
  intro p e s m args below meth c K hret hlk hnm hA
  have loop : ∀ (f n : Nat), (n + f = 25 ∨ n = 26 ∧ f = 0) → 1 ≤ n → ca_beh g s0 b n f = (ca_beh g s0 b (n0 + 1) (24 - n0)) → mg_G p l e (mg_rm 3 0 0) s m args below meth c D mn_cl Z (mg_A ad (mr_C tys ma_sh ad (ma_R g q)) s.heap.size) s.heap 5 (MQ below (mg_Qc D mn_cl Z ad (mr_C tys ma_sh ad (ma_R g q)) s.heap.size (mg_Po tys ma_sh ad (some (.int (if (ca_beh g s0 b (n0 + 1) (24 - n0)) then 1 else 0))) (ma_R g q))) args s 0 0 (mg_A ad (mr_C tys ma_sh ad (ma_R g q)) s.heap.size)) ad (mr_C tys ma_sh ad (ma_R g q)) [some (va_rf (some (ad 4 s0))), some (.int (Int32.ofNat n0)), some (.int b), some (.int (Int32.ofNat n))] 0 0 [] 4 := by
    intro f
    induction f with
    | zero =>
      intro n hn h1 hT
      refine mg_iload_n K md_S_cameBehind_4 rfl ?_
      refine mg_bipush K (v := 24) md_S_cameBehind_5 (by decide) ?_
      refine mg_icmp_gt K 42 md_S_cameBehind_7 rfl (fun h7 => ?_) (fun h7 => ?_)
      · refine mg_iconst K (v := 0) md_S_cameBehind_42 (by decide) ?_
        exact mg_zret K hret hlk md_S_cameBehind_43 (by decide) (Nat.le_refl _) (Nat.le_refl _) ⟨by rw [← hT]; rfl, rfl, rfl⟩
      · exact absurd ((mi_lt (a := 24) (b := n) (by omega) (by omega)).mpr (by omega)) h7
    | succ f ih =>
      intro n hn h1 hT
      cases hx : ca_tb g s0 n with
      | none =>
        rw [ca_beh_N hx] at hT
        refine mg_iload_n K md_S_cameBehind_4 rfl ?_
        refine mg_bipush K (v := 24) md_S_cameBehind_5 (by decide) ?_
        refine mg_icmp_gt K 42 md_S_cameBehind_7 rfl (fun h7 => ?_) (fun h7 => ?_)
        · exact absurd ((mi_lt (a := 24) (b := n) (by omega) (by omega)).mp h7) (by omega)
        · refine mg_aload_n K md_S_cameBehind_10 rfl ?_
          refine mg_iload_n K md_S_cameBehind_11 rfl ?_
          refine mr_cV K hA (ct_S_get hty g q hs h1 (by omega)) ms_S_36 (by decide) md_S_cameBehind_12 rfl rfl hs rfl (by decide) ⟨Nat.le_refl _, Nat.le_refl _⟩ ?_
          rw [ca_tv_n hx]
          refine mg_astore K md_S_cameBehind_15 (by decide) ?_
          refine mg_aload K md_S_cameBehind_17 rfl ?_
          refine mr_cS K hA (ct_S_isHere hty g q none (fun j h => by cases h)) ms_S_25 (by decide) md_S_cameBehind_19 rfl (by decide) ⟨Nat.le_refl _, Nat.le_refl _⟩ ?_
          refine mg_if_eq K 36 md_S_cameBehind_22 rfl (fun h22 => ?_) (fun h22 => ?_)
          · refine mg_iinc K (v := Int32.ofNat (n + 1)) md_S_cameBehind_36 rfl (mi_a1 n) (by decide) ?_
            refine mg_goto K 4 md_S_cameBehind_39 rfl ?_
            refine mg_take 4 ?_
            exact ih (n + 1) (by omega) (by omega) hT
          · exact absurd rfl h22
      | some j =>
        have hj := hok n j hx
        rw [ca_beh_S hx] at hT
        refine mg_iload_n K md_S_cameBehind_4 rfl ?_
        refine mg_bipush K (v := 24) md_S_cameBehind_5 (by decide) ?_
        refine mg_icmp_gt K 42 md_S_cameBehind_7 rfl (fun h7 => ?_) (fun h7 => ?_)
        · exact absurd ((mi_lt (a := 24) (b := n) (by omega) (by omega)).mp h7) (by omega)
        · refine mg_aload_n K md_S_cameBehind_10 rfl ?_
          refine mg_iload_n K md_S_cameBehind_11 rfl ?_
          refine mr_cV K hA (ct_S_get hty g q hs h1 (by omega)) ms_S_36 (by decide) md_S_cameBehind_12 rfl rfl hs rfl (by decide) ⟨Nat.le_refl _, Nat.le_refl _⟩ ?_
          rw [ca_tv_s hx, mr_as]
          refine mg_astore K md_S_cameBehind_15 (by decide) ?_
          refine mg_aload K md_S_cameBehind_17 rfl ?_
          refine mr_cS K hA (ct_S_isHere hty g q (some j) (fun i h => by cases h; exact hj)) ms_S_25 (by decide) md_S_cameBehind_19 rfl (by decide) ⟨Nat.le_refl _, Nat.le_refl _⟩ ?_
          refine mg_if_eq K 36 md_S_cameBehind_22 rfl (fun h22 => ?_) (fun h22 => ?_)
          · have hg : ca_here g (some j) = false := by cases hh : ca_here g (some j) with | true => rw [hh] at h22; exact absurd h22 (by decide) | false => rfl
            rw [show decide (¬ ca_iv g 10 j 4 = 6) = false from hg, Bool.false_and, Bool.false_or] at hT
            refine mg_iinc K (v := Int32.ofNat (n + 1)) md_S_cameBehind_36 rfl (mi_a1 n) (by decide) ?_
            refine mg_goto K 4 md_S_cameBehind_39 rfl ?_
            refine mg_take 4 ?_
            exact ih (n + 1) (by omega) (by omega) hT
          · have hg : ca_here g (some j) = true := by cases hh : ca_here g (some j) with | true => rfl | false => rw [hh] at h22; exact absurd rfl h22
            refine mg_aload K md_S_cameBehind_25 rfl ?_
            refine mr_getI (v := ca_iv g 10 j 6) K mf_S_40 md_S_cameBehind_27 (by decide) hj rfl ?_
            refine mg_iload_n K md_S_cameBehind_30 rfl ?_
            refine mg_icmp_ge K 36 md_S_cameBehind_31 rfl (fun h31 => ?_) (fun h31 => ?_)
            · rw [show decide (ca_iv g 10 j 6 < b) = false from decide_eq_false (Int32.not_lt.mpr h31), Bool.and_false, Bool.false_or] at hT
              refine mg_iinc K (v := Int32.ofNat (n + 1)) md_S_cameBehind_36 rfl (mi_a1 n) (by decide) ?_
              refine mg_goto K 4 md_S_cameBehind_39 rfl ?_
              refine mg_take 4 ?_
              exact ih (n + 1) (by omega) (by omega) hT
            · rw [show decide (ca_iv g 10 j 6 < b) = true from decide_eq_true (Int32.not_le.mp h31), show decide (¬ ca_iv g 10 j 4 = 6) = true from hg, Bool.true_and, Bool.true_or] at hT
              refine mg_iconst K (v := 1) md_S_cameBehind_34 (by decide) ?_
              exact mg_zret K hret hlk md_S_cameBehind_35 (by decide) (Nat.le_refl _) (Nat.le_refl _) ⟨by rw [← hT]; rfl, rfl, rfl⟩
  refine mg_iload_n K md_S_cameBehind_0 rfl ?_
  refine mg_iconst K (v := 1) md_S_cameBehind_1 (by decide) ?_
  refine mg_iadd K md_S_cameBehind_2 ?_
  rw [mi_a1]
  refine mg_istore_n K md_S_cameBehind_3 (by decide) ?_
  exact loop (24 - n0) (n0 + 1) (by omega) (by omega) rfl
theorem ct_S_withStatus (hty : tys.map (·.2) = ma_ty) (g : ca_S) (q : mr_St) {s0 : Nat} {b : Int32} (hs : s0 < 4) (hok : ∀ n j, ca_tb g s0 n = some j → j < ca_nm g) : mr_M l my_S_withStatus mc_S_withStatus 5 (some .int) 3 D mn_cl Z mb_B tys ma_sh [va_rf (some (ad 4 s0)), .int b] ad (ma_R g q) (some (.int (Int32.ofNat (ca_cnt g s0 b 1 24 0)))) (ma_R g q) := by
  refine mg_M.of (cc := mc_S_withStatus) (maxL := 5) (ret := (some .int)) (by decide) rfl (Nat.le_of_ble_eq_true rfl) (mg_caS rfl (mg_caS rfl mg_ca0)) ?_
  intro p e s m args below meth c K hret hlk hnm hA
  have loop : ∀ (f n a : Nat), n + f = 25 → 1 ≤ n → ca_cnt g s0 b n f a = (ca_cnt g s0 b 1 24 0) → mg_G p l e (mg_rm 3 0 0) s m args below meth c D mn_cl Z (mg_A ad (mr_C tys ma_sh ad (ma_R g q)) s.heap.size) s.heap 5 (MQ below (mg_Qc D mn_cl Z ad (mr_C tys ma_sh ad (ma_R g q)) s.heap.size (mg_Po tys ma_sh ad (some (.int (Int32.ofNat (ca_cnt g s0 b 1 24 0)))) (ma_R g q))) args s 0 0 (mg_A ad (mr_C tys ma_sh ad (ma_R g q)) s.heap.size)) ad (mr_C tys ma_sh ad (ma_R g q)) [some (va_rf (some (ad 4 s0))), some (.int b), some (.int (Int32.ofNat a)), some (.int (Int32.ofNat n))] 0 0 [] 4 := by
    intro f
    induction f with
    | zero =>
      intro n a hn h1 hT
      refine mg_iload_n K md_S_withStatus_4 rfl ?_
      refine mg_bipush K (v := 24) md_S_withStatus_5 (by decide) ?_
      refine mg_icmp_gt K 40 md_S_withStatus_7 rfl (fun h7 => ?_) (fun h7 => ?_)
      · refine mg_iload_n K md_S_withStatus_40 rfl ?_
        exact mg_iret K hret hlk md_S_withStatus_41 (Nat.le_refl _) (Nat.le_refl _) ⟨by rw [← hT]; rfl, rfl, rfl⟩
      · exact absurd ((mi_lt (a := 24) (b := n) (by omega) (by omega)).mpr (by omega)) h7
    | succ f ih =>
      intro n a hn h1 hT
      cases hx : ca_tb g s0 n with
      | none =>
        rw [ca_cnt_N hx] at hT
        refine mg_iload_n K md_S_withStatus_4 rfl ?_
        refine mg_bipush K (v := 24) md_S_withStatus_5 (by decide) ?_
        refine mg_icmp_gt K 40 md_S_withStatus_7 rfl (fun h7 => ?_) (fun h7 => ?_)
        · exact absurd ((mi_lt (a := 24) (b := n) (by omega) (by omega)).mp h7) (by omega)
        · refine mg_aload_n K md_S_withStatus_10 rfl ?_
          refine mg_iload_n K md_S_withStatus_11 rfl ?_
          refine mr_cV K hA (ct_S_get hty g q hs h1 (by omega)) ms_S_36 (by decide) md_S_withStatus_12 rfl rfl hs rfl (by decide) ⟨Nat.le_refl _, Nat.le_refl _⟩ ?_
          rw [ca_tv_n hx]
          refine mg_astore K md_S_withStatus_15 (by decide) ?_
          refine mg_aload K md_S_withStatus_17 rfl ?_
          refine mg_ifnull K 34 md_S_withStatus_19 rfl (fun h19 => ?_) (fun h19 => ?_)
          · refine mg_iinc K (v := Int32.ofNat (n + 1)) md_S_withStatus_34 rfl (mi_a1 n) (by decide) ?_
            refine mg_goto K 4 md_S_withStatus_37 rfl ?_
            refine mg_take 4 ?_
            exact ih (n + 1) a (by omega) (by omega) hT
          · exact absurd rfl h19
      | some j =>
        have hj := hok n j hx
        rw [ca_cnt_S hx] at hT
        refine mg_iload_n K md_S_withStatus_4 rfl ?_
        refine mg_bipush K (v := 24) md_S_withStatus_5 (by decide) ?_
        refine mg_icmp_gt K 40 md_S_withStatus_7 rfl (fun h7 => ?_) (fun h7 => ?_)
        · exact absurd ((mi_lt (a := 24) (b := n) (by omega) (by omega)).mp h7) (by omega)
        · refine mg_aload_n K md_S_withStatus_10 rfl ?_
          refine mg_iload_n K md_S_withStatus_11 rfl ?_
          refine mr_cV K hA (ct_S_get hty g q hs h1 (by omega)) ms_S_36 (by decide) md_S_withStatus_12 rfl rfl hs rfl (by decide) ⟨Nat.le_refl _, Nat.le_refl _⟩ ?_
          rw [ca_tv_s hx, mr_as]
          refine mg_astore K md_S_withStatus_15 (by decide) ?_
          refine mg_aload K md_S_withStatus_17 rfl ?_
          refine mg_ifnull K 34 md_S_withStatus_19 rfl (fun h19 => ?_) (fun h19 => ?_)
          · exact absurd h19 (fun z => by cases z)
          · refine mg_aload K md_S_withStatus_22 rfl ?_
            refine mr_getI (v := ca_iv g 10 j 4) K mf_S_29 md_S_withStatus_24 (by decide) hj rfl ?_
            refine mg_iload_n K md_S_withStatus_27 rfl ?_
            refine mg_icmp_ne K 34 md_S_withStatus_28 rfl (fun h28 => ?_) (fun h28 => ?_)
            · rw [if_neg h28] at hT
              refine mg_iinc K (v := Int32.ofNat (n + 1)) md_S_withStatus_34 rfl (mi_a1 n) (by decide) ?_
              refine mg_goto K 4 md_S_withStatus_37 rfl ?_
              refine mg_take 4 ?_
              exact ih (n + 1) a (by omega) (by omega) hT
            · rw [if_pos h28] at hT
              refine mg_iinc K (v := Int32.ofNat (a + 1)) md_S_withStatus_31 rfl (mi_a1 a) (by decide) ?_
              refine mg_iinc K (v := Int32.ofNat (n + 1)) md_S_withStatus_34 rfl (mi_a1 n) (by decide) ?_
              refine mg_goto K 4 md_S_withStatus_37 rfl ?_
              refine mg_take 4 ?_
              exact ih (n + 1) (a + 1) (by omega) (by omega) hT
  refine mg_iconst K (v := 0) md_S_withStatus_0 (by decide) ?_
  refine mg_istore_n K md_S_withStatus_1 (by decide) ?_
  refine mg_iconst K (v := 1) md_S_withStatus_2 (by decide) ?_
  refine mg_istore_n K md_S_withStatus_3 (by decide) ?_
  exact loop 24 1 0 (by omega) (by omega) rfl
theorem ct_S_loseHeld (hty : tys.map (·.2) = ma_ty) (g : ca_S) (q : mr_St) {s0 : Nat} (hs : s0 < 4) (hok : ∀ n j, ca_tb g s0 n = some j → j < ca_nm g) : mr_M l my_S_loseHeld mc_S_loseHeld 4 (some .int) 3 D mn_cl Z mb_B tys ma_sh [va_rf (some (ad 4 s0))] ad (ma_R g q) (some (.int (Int32.ofNat (ca_lose s0 1 24 g 0).2))) (ma_R (ca_lose s0 1 24 g 0).1 q) := by
  refine mg_M.of (cc := mc_S_loseHeld) (maxL := 4) (ret := (some .int)) (by decide) rfl (Nat.le_of_ble_eq_true rfl) (mg_caS rfl mg_ca0) ?_
  intro p e s m args below meth c K hret hlk hnm hA
  have loop : ∀ (f n : Nat) (g' : ca_S) (a : Nat), n + f = 25 → 1 ≤ n → ca_tb g' = ca_tb g → ca_nm g' = ca_nm g → ca_lose s0 n f g' a = (ca_lose s0 1 24 g 0) → mg_G p l e (mg_rm 3 0 0) s m args below meth c D mn_cl Z (mg_A ad (mr_C tys ma_sh ad (ma_R g q)) s.heap.size) s.heap 4 (MQ below (mg_Qc D mn_cl Z ad (mr_C tys ma_sh ad (ma_R g q)) s.heap.size (mg_Po tys ma_sh ad (some (.int (Int32.ofNat (ca_lose s0 1 24 g 0).2))) (ma_R (ca_lose s0 1 24 g 0).1 q))) args s 0 0 (mg_A ad (mr_C tys ma_sh ad (ma_R g q)) s.heap.size)) ad (mr_C tys ma_sh ad (ma_R g' q)) [some (va_rf (some (ad 4 s0))), some (.int (Int32.ofNat a)), some (.int (Int32.ofNat n))] 0 0 [] 4 := by
    intro f
    induction f with
    | zero =>
      intro n g' a hn h1 htb hnm2 hT
      refine mg_iload_n K md_S_loseHeld_4 rfl ?_
      refine mg_bipush K (v := 24) md_S_loseHeld_5 (by decide) ?_
      refine mg_icmp_gt K 42 md_S_loseHeld_7 rfl (fun h7 => ?_) (fun h7 => ?_)
      · refine mg_iload_n K md_S_loseHeld_42 rfl ?_
        exact mg_iret K hret hlk md_S_loseHeld_43 (Nat.le_refl _) (Nat.le_refl _) ⟨by rw [← hT]; rfl, rfl, by rw [← hT]; rfl⟩
      · exact absurd ((mi_lt (a := 24) (b := n) (by omega) (by omega)).mpr (by omega)) h7
    | succ f ih =>
      intro n g' a hn h1 htb hnm2 hT
      cases hx : ca_tb g' s0 n with
      | none =>
        rw [ca_lose_N hx] at hT
        refine mg_iload_n K md_S_loseHeld_4 rfl ?_
        refine mg_bipush K (v := 24) md_S_loseHeld_5 (by decide) ?_
        refine mg_icmp_gt K 42 md_S_loseHeld_7 rfl (fun h7 => ?_) (fun h7 => ?_)
        · exact absurd ((mi_lt (a := 24) (b := n) (by omega) (by omega)).mp h7) (by omega)
        · refine mg_aload_n K md_S_loseHeld_10 rfl ?_
          refine mg_iload_n K md_S_loseHeld_11 rfl ?_
          refine mr_cV K hA (ct_S_get hty g' q hs h1 (by omega)) ms_S_36 (by decide) md_S_loseHeld_12 rfl rfl hs rfl (by decide) ⟨Nat.le_refl _, Nat.le_refl _⟩ ?_
          rw [ca_tv_n hx]
          refine mg_astore_n K md_S_loseHeld_15 (by decide) ?_
          refine mg_aload_n K md_S_loseHeld_16 rfl ?_
          refine mg_ifnull K 36 md_S_loseHeld_17 rfl (fun h17 => ?_) (fun h17 => ?_)
          · refine mg_iinc K (v := Int32.ofNat (n + 1)) md_S_loseHeld_36 rfl (mi_a1 n) (by decide) ?_
            refine mg_goto K 4 md_S_loseHeld_39 rfl ?_
            refine mg_take 3 ?_
            exact ih (n + 1) g' a (by omega) (by omega) htb hnm2 hT
          · exact absurd rfl h17
      | some j =>
        have hj : j < ca_nm g' := by rw [hnm2]; exact hok n j (by rw [← htb]; exact hx)
        rw [ca_lose_S hx] at hT
        refine mg_iload_n K md_S_loseHeld_4 rfl ?_
        refine mg_bipush K (v := 24) md_S_loseHeld_5 (by decide) ?_
        refine mg_icmp_gt K 42 md_S_loseHeld_7 rfl (fun h7 => ?_) (fun h7 => ?_)
        · exact absurd ((mi_lt (a := 24) (b := n) (by omega) (by omega)).mp h7) (by omega)
        · refine mg_aload_n K md_S_loseHeld_10 rfl ?_
          refine mg_iload_n K md_S_loseHeld_11 rfl ?_
          refine mr_cV K hA (ct_S_get hty g' q hs h1 (by omega)) ms_S_36 (by decide) md_S_loseHeld_12 rfl rfl hs rfl (by decide) ⟨Nat.le_refl _, Nat.le_refl _⟩ ?_
          rw [ca_tv_s hx, mr_as]
          refine mg_astore_n K md_S_loseHeld_15 (by decide) ?_
          refine mg_aload_n K md_S_loseHeld_16 rfl ?_
          refine mg_ifnull K 36 md_S_loseHeld_17 rfl (fun h17 => ?_) (fun h17 => ?_)
          · exact absurd h17 (fun z => by cases z)
          · refine mg_aload_n K md_S_loseHeld_20 rfl ?_
            refine mr_getI (v := ca_iv g' 10 j 4) K mf_S_29 md_S_loseHeld_21 (by decide) hj rfl ?_
            refine mg_if_ne K 36 md_S_loseHeld_24 rfl (fun h24 => ?_) (fun h24 => ?_)
            · rw [if_neg h24] at hT
              refine mg_iinc K (v := Int32.ofNat (n + 1)) md_S_loseHeld_36 rfl (mi_a1 n) (by decide) ?_
              refine mg_goto K 4 md_S_loseHeld_39 rfl ?_
              refine mg_take 3 ?_
              exact ih (n + 1) g' a (by omega) (by omega) htb hnm2 hT
            · rw [if_pos h24] at hT
              refine mg_aload_n K md_S_loseHeld_27 rfl ?_
              refine mg_bipush K (v := 6) md_S_loseHeld_28 (by decide) ?_
              refine mr_putI K mf_S_29 md_S_loseHeld_30 hj ?_
              refine mr_eqr (ma_sI g' q 10 j 4 6 (by decide) (by decide)) ?_
              refine mg_iinc K (v := Int32.ofNat (a + 1)) md_S_loseHeld_33 rfl (mi_a1 a) (by decide) ?_
              refine mg_iinc K (v := Int32.ofNat (n + 1)) md_S_loseHeld_36 rfl (mi_a1 n) (by decide) ?_
              refine mg_goto K 4 md_S_loseHeld_39 rfl ?_
              refine mg_take 3 ?_
              exact ih (n + 1) (ca_si g' 10 j 4 6) (a + 1) (by omega) (by omega) htb hnm2 hT
  refine mg_iconst K (v := 0) md_S_loseHeld_0 (by decide) ?_
  refine mg_istore_n K md_S_loseHeld_1 (by decide) ?_
  refine mg_iconst K (v := 1) md_S_loseHeld_2 (by decide) ?_
  refine mg_istore_n K md_S_loseHeld_3 (by decide) ?_
  exact loop 24 1 g 0 (by omega) (by omega) rfl rfl rfl
end CS2
end
section
/-! the class: turns -/
theorem ca_in_w {x y : Int32} (h : ¬ (if ¬ x < -y ∧ ¬ y < x then (1 : Int32) else 0) = 0) : ca_in x y = true := by
  by_cases hc : ¬ x < -y ∧ ¬ y < x
  · unfold ca_in
    rw [decide_eq_true (Int32.not_lt.mp hc.1), decide_eq_true (Int32.not_lt.mp hc.2)]
    rfl
  · rw [if_neg hc] at h
    exact absurd rfl h
theorem ca_in_n {x y : Int32} (h : (if ¬ x < -y ∧ ¬ y < x then (1 : Int32) else 0) = 0) : ca_in x y = false := by
  by_cases hc : ¬ x < -y ∧ ¬ y < x
  · rw [if_pos hc] at h
    exact absurd h (by decide)
  · cases hi : ca_in x y with
    | false => rfl
    | true =>
      unfold ca_in at hi
      rw [Bool.and_eq_true] at hi
      exact absurd ⟨Int32.not_lt.mpr (of_decide_eq_true hi.1), Int32.not_lt.mpr (of_decide_eq_true hi.2)⟩ hc
section CA1
variable {l : Launch} {D : va_G} {Z : Nat × Cell} {tys : List (ClassId × FieldType)} {ad : mg_Ad}
theorem ct_A_vo (hty : tys.map (·.2) = ma_ty) (g : ca_S) (q : mr_St) (st : Int32) (hle : (ca_ln g 2).length ≤ 96) : mr_M l my_A_verdictIfOpenIsAsked mc_A_verdictIfOpenIsAsked 2 (some .int) 1 D mn_cl Z mb_B tys ma_sh [va_rf (some (ad 0 0)), .int st] ad (ma_R g q) (some (.int (ca_vo g st))) (ma_R g q) := by
  refine mg_M.of (cc := mc_A_verdictIfOpenIsAsked) (maxL := 2) (ret := (some .int)) (by decide) rfl (Nat.le_of_ble_eq_true rfl) (mg_caS rfl (mg_caS rfl mg_ca0)) ?_
  intro p e s m args below meth c K hret hlk hnm hA
  refine mg_iload_n K md_A_verdictIfOpenIsAsked_0 rfl ?_
  by_cases hS1_0 : st = 0
  · refine mg_tabIn (off := 31) K 0 32 md_A_verdictIfOpenIsAsked_1 hS1_0 (by decide) (by decide) (by decide) rfl ?_
    refine mg_aload_n K md_A_verdictIfOpenIsAsked_32 rfl ?_
    refine mr_getS (k2 := 8) (i2 := 2) K mf_A_35 md_A_verdictIfOpenIsAsked_33 Nat.zero_lt_one rfl ?_
    refine mr_getI (v := Int32.ofNat (ca_ln g 2).length) K mf_A_109 md_A_verdictIfOpenIsAsked_36 (by decide) (by decide : 2 < 4) rfl ?_
    refine mg_bipush K (v := 12) md_A_verdictIfOpenIsAsked_39 (by decide) ?_
    refine mg_icmp_ge K 48 md_A_verdictIfOpenIsAsked_41 rfl (fun h41 => ?_) (fun h41 => ?_)
    · have hge : ¬ (ca_ln g 2).length < 12 := by have := (mi_le (a := 12) (b := (ca_ln g 2).length) (by omega) (by omega)).mp h41; omega
      refine mg_iconst K (v := 5) md_A_verdictIfOpenIsAsked_48 (by decide) ?_
      exact mg_iret K hret hlk md_A_verdictIfOpenIsAsked_49 (Nat.le_refl _) (Nat.le_refl _) ⟨by unfold ca_vo; rw [if_pos hS1_0, if_neg hge], rfl, rfl⟩
    · have hlt : (ca_ln g 2).length < 12 := by have := mt (mi_le (a := 12) (b := (ca_ln g 2).length) (by omega) (by omega)).mpr h41; omega
      refine mg_iconst K (v := -1) md_A_verdictIfOpenIsAsked_44 (by decide) ?_
      refine mg_goto K 49 md_A_verdictIfOpenIsAsked_45 rfl ?_
      exact mg_iret K hret hlk md_A_verdictIfOpenIsAsked_49 (Nat.le_refl _) (Nat.le_refl _) ⟨by unfold ca_vo; rw [if_pos hS1_0, if_pos hlt], rfl, rfl⟩
  by_cases hS1_1 : st = 1
  · refine mg_tabIn (off := 53) K 1 54 md_A_verdictIfOpenIsAsked_1 hS1_1 (by decide) (by decide) (by decide) rfl ?_
    refine mg_iconst K (v := 0) md_A_verdictIfOpenIsAsked_54 (by decide) ?_
    exact mg_iret K hret hlk md_A_verdictIfOpenIsAsked_55 (Nat.le_refl _) (Nat.le_refl _) ⟨by unfold ca_vo; rw [hS1_1]; rfl, rfl, rfl⟩
  by_cases hS1_2 : st = 2
  · refine mg_tabIn (off := 49) K 2 50 md_A_verdictIfOpenIsAsked_1 hS1_2 (by decide) (by decide) (by decide) rfl ?_
    refine mg_iconst K (v := 2) md_A_verdictIfOpenIsAsked_50 (by decide) ?_
    exact mg_iret K hret hlk md_A_verdictIfOpenIsAsked_51 (Nat.le_refl _) (Nat.le_refl _) ⟨by unfold ca_vo; rw [hS1_2]; rfl, rfl, rfl⟩
  by_cases hS1_3 : st = 3
  · refine mg_tabIn (off := 51) K 3 52 md_A_verdictIfOpenIsAsked_1 hS1_3 (by decide) (by decide) (by decide) rfl ?_
    refine mg_iconst K (v := 3) md_A_verdictIfOpenIsAsked_52 (by decide) ?_
    exact mg_iret K hret hlk md_A_verdictIfOpenIsAsked_53 (Nat.le_refl _) (Nat.le_refl _) ⟨by unfold ca_vo; rw [hS1_3]; rfl, rfl, rfl⟩
  have ehS1_0 : (st).toInt ≠ 0 := fun z => hS1_0 (Int32.toInt_inj.mp z)
  have ehS1_1 : (st).toInt ≠ 1 := fun z => hS1_1 (Int32.toInt_inj.mp z)
  have ehS1_2 : (st).toInt ≠ 2 := fun z => hS1_2 (Int32.toInt_inj.mp z)
  have ehS1_3 : (st).toInt ≠ 3 := fun z => hS1_3 (Int32.toInt_inj.mp z)
  refine mg_tabOut K 54 md_A_verdictIfOpenIsAsked_1 (by omega) rfl ?_
  refine mg_iconst K (v := 0) md_A_verdictIfOpenIsAsked_54 (by decide) ?_
  exact mg_iret K hret hlk md_A_verdictIfOpenIsAsked_55 (Nat.le_refl _) (Nat.le_refl _) ⟨by unfold ca_vo; rw [if_neg hS1_0, if_neg hS1_2, if_neg hS1_3], rfl, rfl⟩
theorem ct_A_vd (hty : tys.map (·.2) = ma_ty) (g : ca_S) (q : mr_St) {j : Nat} (hj : j < ca_nm g) (hu : ca_ms g j < 16) (hle : (ca_ln g 2).length ≤ 96) : mr_M l my_A_verdict mc_A_verdict 3 (some .int) 2 D mn_cl Z mb_B tys ma_sh [va_rf (some (ad 0 0)), va_rf (some (ad 10 j))] ad (ma_R g q) (some (.int (ca_vd g j))) (ma_R g q) := by
  refine mg_M.of (cc := mc_A_verdict) (maxL := 3) (ret := (some .int)) (by decide) rfl (Nat.le_of_ble_eq_true rfl) (mg_caS rfl (mg_caS rfl mg_ca0)) ?_
  intro p e s m args below meth c K hret hlk hnm hA
  refine mg_aload_n K md_A_verdict_0 rfl ?_
  refine mr_getS (k2 := 7) (i2 := ca_ms g j) K mf_A_191 md_A_verdict_1 hj rfl ?_
  refine mr_getI (v := ca_iv g 7 (ca_ms g j) 0) K mf_A_95 md_A_verdict_4 (by decide) hu rfl ?_
  refine mg_istore_n K md_A_verdict_7 (by decide) ?_
  refine mg_aload_n K md_A_verdict_8 rfl ?_
  refine mr_getI (v := ca_iv g 10 j 1) K mf_A_181 md_A_verdict_9 (by decide) hj rfl ?_
  by_cases hS12_0 : ca_iv g 10 j 1 = 0
  · refine mg_tabIn (off := 36) K 0 48 md_A_verdict_12 hS12_0 (by decide) (by decide) (by decide) rfl ?_
    refine mg_iload_n K md_A_verdict_48 rfl ?_
    refine mg_if_eq K 57 md_A_verdict_49 rfl (fun h49 => ?_) (fun h49 => ?_)
    · refine mg_iconst K (v := 0) md_A_verdict_57 (by decide) ?_
      refine mg_goto K 62 md_A_verdict_58 rfl ?_
      exact mg_iret K hret hlk md_A_verdict_62 (Nat.le_refl _) (Nat.le_refl _) ⟨by unfold ca_vd; simp [hS12_0, h49], rfl, rfl⟩
    · refine mg_iload_n K md_A_verdict_52 rfl ?_
      refine mg_iconst K (v := 3) md_A_verdict_53 (by decide) ?_
      refine mg_icmp_ne K 61 md_A_verdict_54 rfl (fun h54 => ?_) (fun h54 => ?_)
      · refine mg_iconst K (v := 1) md_A_verdict_61 (by decide) ?_
        exact mg_iret K hret hlk md_A_verdict_62 (Nat.le_refl _) (Nat.le_refl _) ⟨by unfold ca_vd; simp [hS12_0, h49, h54], rfl, rfl⟩
      · refine mg_iconst K (v := 0) md_A_verdict_57 (by decide) ?_
        refine mg_goto K 62 md_A_verdict_58 rfl ?_
        exact mg_iret K hret hlk md_A_verdict_62 (Nat.le_refl _) (Nat.le_refl _) ⟨by unfold ca_vd; simp [hS12_0, h49, h54], rfl, rfl⟩
  by_cases hS12_1 : ca_iv g 10 j 1 = 1
  · refine mg_tabIn (off := 84) K 1 96 md_A_verdict_12 hS12_1 (by decide) (by decide) (by decide) rfl ?_
    refine mg_aload_n K md_A_verdict_96 rfl ?_
    refine mg_iload_n K md_A_verdict_97 rfl ?_
    refine mr_cV K hA (ct_A_vo hty g q (ca_iv g 7 (ca_ms g j) 0) hle) ms_A_219 (by decide) md_A_verdict_98 rfl rfl Nat.zero_lt_one rfl (by decide) ⟨Nat.le_refl _, Nat.le_refl _⟩ ?_
    exact mg_iret K hret hlk md_A_verdict_101 (Nat.le_refl _) (Nat.le_refl _) ⟨by unfold ca_vd; simp [hS12_1], rfl, rfl⟩
  by_cases hS12_2 : ca_iv g 10 j 1 = 2
  · refine mg_tabIn (off := 51) K 2 63 md_A_verdict_12 hS12_2 (by decide) (by decide) (by decide) rfl ?_
    refine mg_iload_n K md_A_verdict_63 rfl ?_
    refine mg_iconst K (v := 1) md_A_verdict_64 (by decide) ?_
    refine mg_icmp_ne K 90 md_A_verdict_65 rfl (fun h65 => ?_) (fun h65 => ?_)
    · refine mg_aload_n K md_A_verdict_90 rfl ?_
      refine mg_iload_n K md_A_verdict_91 rfl ?_
      refine mr_cV K hA (ct_A_vo hty g q (ca_iv g 7 (ca_ms g j) 0) hle) ms_A_219 (by decide) md_A_verdict_92 rfl rfl Nat.zero_lt_one rfl (by decide) ⟨Nat.le_refl _, Nat.le_refl _⟩ ?_
      exact mg_iret K hret hlk md_A_verdict_95 (Nat.le_refl _) (Nat.le_refl _) ⟨by unfold ca_vd; simp [hS12_2, h65], rfl, rfl⟩
    · refine mg_aload_n K md_A_verdict_68 rfl ?_
      refine mr_getS (k2 := 7) (i2 := ca_ms g j) K mf_A_191 md_A_verdict_69 hj rfl ?_
      refine mr_getI (v := ca_iv g 7 (ca_ms g j) 1) K mf_A_141 md_A_verdict_72 (by decide) hu rfl ?_
      refine mg_aload_n K md_A_verdict_75 rfl ?_
      refine mr_getI (v := ca_iv g 10 j 3) K mf_A_215 md_A_verdict_76 (by decide) hj rfl ?_
      refine mg_iadd K md_A_verdict_79 ?_
      refine mg_ldc K md_A_verdict_80 mk_A_218 ?_
      refine mr_cP K hA (ct_A_isWithin (ca_iv g 7 (ca_ms g j) 1 + ca_iv g 10 j 3) 1000000) ms_A_173 (by decide) md_A_verdict_82 rfl (by decide) ⟨Nat.le_refl _, Nat.le_refl _⟩ ?_
      refine mg_if_ne K 90 md_A_verdict_85 rfl (fun h85 => ?_) (fun h85 => ?_)
      · refine mg_aload_n K md_A_verdict_90 rfl ?_
        refine mg_iload_n K md_A_verdict_91 rfl ?_
        refine mr_cV K hA (ct_A_vo hty g q (ca_iv g 7 (ca_ms g j) 0) hle) ms_A_219 (by decide) md_A_verdict_92 rfl rfl Nat.zero_lt_one rfl (by decide) ⟨Nat.le_refl _, Nat.le_refl _⟩ ?_
        exact mg_iret K hret hlk md_A_verdict_95 (Nat.le_refl _) (Nat.le_refl _) ⟨by unfold ca_vd; simp [hS12_2, h65, ca_in_w h85], rfl, rfl⟩
      · refine mg_iconst K (v := 4) md_A_verdict_88 (by decide) ?_
        exact mg_iret K hret hlk md_A_verdict_89 (Nat.le_refl _) (Nat.le_refl _) ⟨by unfold ca_vd; simp [hS12_2, h65, ca_in_n h85], rfl, rfl⟩
  by_cases hS12_3 : ca_iv g 10 j 1 = 3
  · refine mg_tabIn (off := 90) K 3 102 md_A_verdict_12 hS12_3 (by decide) (by decide) (by decide) rfl ?_
    refine mg_iconst K (v := 0) md_A_verdict_102 (by decide) ?_
    exact mg_iret K hret hlk md_A_verdict_103 (Nat.le_refl _) (Nat.le_refl _) ⟨by unfold ca_vd; simp [hS12_3], rfl, rfl⟩
  by_cases hS12_4 : ca_iv g 10 j 1 = 4
  · refine mg_tabIn (off := 84) K 4 96 md_A_verdict_12 hS12_4 (by decide) (by decide) (by decide) rfl ?_
    refine mg_aload_n K md_A_verdict_96 rfl ?_
    refine mg_iload_n K md_A_verdict_97 rfl ?_
    refine mr_cV K hA (ct_A_vo hty g q (ca_iv g 7 (ca_ms g j) 0) hle) ms_A_219 (by decide) md_A_verdict_98 rfl rfl Nat.zero_lt_one rfl (by decide) ⟨Nat.le_refl _, Nat.le_refl _⟩ ?_
    exact mg_iret K hret hlk md_A_verdict_101 (Nat.le_refl _) (Nat.le_refl _) ⟨by unfold ca_vd; simp [hS12_4], rfl, rfl⟩
  have ehS12_0 : (ca_iv g 10 j 1).toInt ≠ 0 := fun z => hS12_0 (Int32.toInt_inj.mp z)
  have ehS12_1 : (ca_iv g 10 j 1).toInt ≠ 1 := fun z => hS12_1 (Int32.toInt_inj.mp z)
  have ehS12_2 : (ca_iv g 10 j 1).toInt ≠ 2 := fun z => hS12_2 (Int32.toInt_inj.mp z)
  have ehS12_3 : (ca_iv g 10 j 1).toInt ≠ 3 := fun z => hS12_3 (Int32.toInt_inj.mp z)
  have ehS12_4 : (ca_iv g 10 j 1).toInt ≠ 4 := fun z => hS12_4 (Int32.toInt_inj.mp z)
  refine mg_tabOut K 102 md_A_verdict_12 (by omega) rfl ?_
  refine mg_iconst K (v := 0) md_A_verdict_102 (by decide) ?_
  exact mg_iret K hret hlk md_A_verdict_103 (Nat.le_refl _) (Nat.le_refl _) ⟨by unfold ca_vd; simp [hS12_0, hS12_1, hS12_2, hS12_4], rfl, rfl⟩
end CA1
end
section
/-! the class: a message's turn -/
theorem ca_act_0 {g : ca_S} {j : Nat} (h : ca_iv g 10 j 1 = 0) : ca_act g j = ca_si (ca_si g 7 (ca_ms g j) 0 1) 7 (ca_ms g j) 1 (ca_iv g 10 j 3) := by unfold ca_act; rw [if_pos h]
theorem ca_act_1 {g : ca_S} {j : Nat} (h : ca_iv g 10 j 1 = 1) : ca_act g j = ca_si g 7 (ca_ms g j) 1 (ca_iv g 10 j 3) := by unfold ca_act; rw [if_neg (by rw [h]; decide), if_pos h]
theorem ca_act_2 {g : ca_S} {j : Nat} (h : ca_iv g 10 j 1 = 2) : ca_act g j = ca_si g 7 (ca_ms g j) 1 (ca_iv g 7 (ca_ms g j) 1 + ca_iv g 10 j 3) := by unfold ca_act; rw [if_neg (by rw [h]; decide), if_neg (by rw [h]; decide), if_pos h]
theorem ca_act_4 {g : ca_S} {j : Nat} (h : ca_iv g 10 j 1 = 4) : ca_act g j = ca_si g 7 (ca_ms g j) 0 3 := by unfold ca_act; rw [if_neg (by rw [h]; decide), if_neg (by rw [h]; decide), if_neg (by rw [h]; decide), if_pos h]
theorem ca_act_e {g : ca_S} {j : Nat} (h0 : ¬ ca_iv g 10 j 1 = 0) (h1 : ¬ ca_iv g 10 j 1 = 1) (h2 : ¬ ca_iv g 10 j 1 = 2) (h4 : ¬ ca_iv g 10 j 1 = 4) : ca_act g j = ca_si g 10 j 5 (10 * ca_iv g 7 (ca_ms g j) 1 + ca_iv g 7 (ca_ms g j) 0) := by unfold ca_act; rw [if_neg h0, if_neg h1, if_neg h2, if_neg h4]
theorem ca_set_w {g : ca_S} {j : Nat} {b : Bool} (h : ca_vd g j = -1) : ca_settle g j b = ca_app (ca_si (ca_si g 10 j 4 3) 10 j 7 (ca_iv g 0 0 7)) 2 j := by unfold ca_settle; rw [if_pos h]
theorem ca_set_r {g : ca_S} {j : Nat} {b : Bool} (h : ¬ ca_vd g j = -1) (h0 : ¬ ca_vd g j = 0) : ca_settle g j b = ca_si (ca_si g 10 j 4 2) 10 j 5 (-(ca_vd g j)) := by unfold ca_settle; rw [if_neg h, if_pos h0]
theorem ca_set_f {g : ca_S} {j : Nat} {b : Bool} (h : ¬ ca_vd g j = -1) (h0 : ca_vd g j = 0) (hf : ¬ ca_iv g 3 0 (ca_iv g 10 j 1).toNatClampNeg = 0) : ca_settle g j b = ca_fail (ca_si g 3 0 (ca_iv g 10 j 1).toNatClampNeg 0) j b := by unfold ca_settle; rw [if_neg h, if_neg (fun z => z h0), if_pos hf]
theorem ca_set_p {g : ca_S} {j : Nat} {b : Bool} (h : ¬ ca_vd g j = -1) (h0 : ca_vd g j = 0) (hf : ca_iv g 3 0 (ca_iv g 10 j 1).toNatClampNeg = 0) : ca_settle g j b = ca_perf g j := by unfold ca_settle; rw [if_neg h, if_neg (fun z => z h0), if_neg (fun z => z hf)]
theorem ca_first_none {g : ca_S} {u : Nat} (h : ca_first g u = none) : ∀ i ∈ ca_ln g 2, ¬ ca_ms g i = u := by
  intro i hi hz
  unfold ca_first at h
  have := List.findIdx?_eq_none_iff.mp h i hi
  rw [decide_eq_true hz] at this
  cases this
theorem ca_first_some {g : ca_S} {u i : Nat} (h : ca_first g u = some i) : ∃ w, (ca_ln g 2)[i]? = some w ∧ ca_ms g w = u ∧ (∀ k x, k < i → (ca_ln g 2)[k]? = some x → ¬ ca_ms g x = u) ∧ (ca_ln g 2).getD i 0 = w := by
  unfold ca_first at h
  obtain ⟨hi, h1, h2⟩ := List.findIdx?_eq_some_iff_getElem.mp h
  refine ⟨(ca_ln g 2)[i], List.getElem?_eq_getElem hi, of_decide_eq_true h1, fun k x hk hx hz => ?_, ?_⟩
  · have h3 := h2 k hk
    have hl : k < (ca_ln g 2).length := by omega
    rw [List.getElem?_eq_getElem hl] at hx
    cases hx
    exact h3 (decide_eq_true hz)
  · rw [List.getD_eq_getElem?_getD, List.getElem?_eq_getElem hi]
    rfl
theorem ca_wake_N {g : ca_S} {u n : Nat} (h : ca_first g u = none) : ca_wake u (n + 1) g = g := by
  show (match ca_first g u with | none => g | some i => ca_wake u n (ca_settle (ca_sn g 2 ((ca_ln g 2).eraseIdx i)) ((ca_ln g 2).getD i 0) false)) = g
  rw [h]
theorem ca_wake_S {g : ca_S} {u n i : Nat} (h : ca_first g u = some i) : ca_wake u (n + 1) g = ca_wake u n (ca_settle (ca_sn g 2 ((ca_ln g 2).eraseIdx i)) ((ca_ln g 2).getD i 0) false) := by
  show (match ca_first g u with | none => g | some i => ca_wake u n (ca_settle (ca_sn g 2 ((ca_ln g 2).eraseIdx i)) ((ca_ln g 2).getD i 0) false)) = _
  rw [h]
section CA2
variable {l : Launch} {D : va_G} {Z : Nat × Cell} {tys : List (ClassId × FieldType)} {ad : mg_Ad}
theorem ct_A_fail (hty : tys.map (·.2) = ma_ty) (g : ca_S) (q : mr_St) {j : Nat} (b : Bool) (hok : ca_ok g) (hj : j < ca_nm g) : mr_M l my_A_fail mc_A_fail 4 none 2 D mn_cl Z mb_B tys ma_sh [va_rf (some (ad 0 0)), va_rf (some (ad 10 j)), .int (mi_b b)] ad (ma_R g q) none (ma_R (ca_fail g j b) q) := by
  cases b with
  | false =>
    refine mg_M.of (cc := mc_A_fail) (maxL := 4) (ret := none) (by decide) rfl (Nat.le_of_ble_eq_true rfl) (mg_caS rfl (mg_caS rfl (mg_caS rfl mg_ca0))) ?_
    intro p e s m args below meth c K hret hlk hnm hA
    refine mg_iload_n K md_A_fail_0 rfl ?_
    refine mg_if_eq K 11 md_A_fail_1 rfl (fun h1 => ?_) (fun h1 => ?_)
    · refine mg_aload_n K md_A_fail_11 rfl ?_
      refine mr_getS (k2 := 8) (i2 := 3) K mf_A_38 md_A_fail_12 Nat.zero_lt_one rfl ?_
      refine mg_astore_n K md_A_fail_15 (by decide) ?_
      refine mg_aload_n K md_A_fail_16 rfl ?_
      refine mg_iload_n K md_A_fail_17 rfl ?_
      refine mg_if_eq K 25 md_A_fail_18 rfl (fun h18 => ?_) (fun h18 => ?_)
      · refine mg_iconst K (v := 4) md_A_fail_25 (by decide) ?_
        refine mr_putI K mf_A_86 md_A_fail_26 hj ?_
        refine mr_eqr (ma_sI _ _ _ _ _ _ (by decide) (by decide)) ?_
        refine mg_aload_n K md_A_fail_29 rfl ?_
        refine mg_aload_n K md_A_fail_30 rfl ?_
        refine mr_cV K hA (ct_L_append hty (ca_si g 10 j 4 4) q (x := 3) (by decide) hj (hok.2.2.1 3)) ms_A_205 (by decide) md_A_fail_31 rfl rfl (by decide : 3 < 4) rfl (by decide) ⟨Nat.le_refl _, Nat.le_refl _⟩ ?_
        exact mg_vret K hret hlk md_A_fail_34 (Nat.le_refl _) (Nat.le_refl _) ⟨rfl, rfl, rfl⟩
      · exact absurd rfl h18
    · exact absurd rfl h1
  | true =>
    refine mg_M.of (cc := mc_A_fail) (maxL := 4) (ret := none) (by decide) rfl (Nat.le_of_ble_eq_true rfl) (mg_caS rfl (mg_caS rfl (mg_caS rfl mg_ca0))) ?_
    intro p e s m args below meth c K hret hlk hnm hA
    refine mg_iload_n K md_A_fail_0 rfl ?_
    refine mg_if_eq K 11 md_A_fail_1 rfl (fun h1 => ?_) (fun h1 => ?_)
    · exact absurd h1 (by decide)
    · refine mg_aload_n K md_A_fail_4 rfl ?_
      refine mr_getS (k2 := 8) (i2 := 1) K mf_A_32 md_A_fail_5 Nat.zero_lt_one rfl ?_
      refine mg_goto K 15 md_A_fail_8 rfl ?_
      refine mg_astore_n K md_A_fail_15 (by decide) ?_
      refine mg_aload_n K md_A_fail_16 rfl ?_
      refine mg_iload_n K md_A_fail_17 rfl ?_
      refine mg_if_eq K 25 md_A_fail_18 rfl (fun h18 => ?_) (fun h18 => ?_)
      · exact absurd h18 (by decide)
      · refine mg_iconst K (v := 5) md_A_fail_21 (by decide) ?_
        refine mg_goto K 26 md_A_fail_22 rfl ?_
        refine mr_putI K mf_A_86 md_A_fail_26 hj ?_
        refine mr_eqr (ma_sI _ _ _ _ _ _ (by decide) (by decide)) ?_
        refine mg_aload_n K md_A_fail_29 rfl ?_
        refine mg_aload_n K md_A_fail_30 rfl ?_
        refine mr_cV K hA (ct_L_append hty (ca_si g 10 j 4 5) q (x := 1) (by decide) hj (hok.2.2.1 1)) ms_A_205 (by decide) md_A_fail_31 rfl rfl (by decide : 1 < 4) rfl (by decide) ⟨Nat.le_refl _, Nat.le_refl _⟩ ?_
        exact mg_vret K hret hlk md_A_fail_34 (Nat.le_refl _) (Nat.le_refl _) ⟨rfl, rfl, rfl⟩
theorem ct_A_perform (hty : tys.map (·.2) = ma_ty) (g : ca_S) (q : mr_St) {j : Nat} (hok : ca_ok g) (hj : j < ca_nm g) : mr_M l my_A_perform mc_A_perform 3 none 2 D mn_cl Z mb_B tys ma_sh [va_rf (some (ad 0 0)), va_rf (some (ad 10 j))] ad (ma_R g q) none (ma_R (ca_perf g j) q) := by
  have hu := (hok.2.2.2 j hj).1
  have h1 := ca_to.act hok j
  have hj1 := h1.lt hj
  refine mg_M.of (cc := mc_A_perform) (maxL := 3) (ret := none) (by decide) rfl (Nat.le_of_ble_eq_true rfl) (mg_caS rfl (mg_caS rfl mg_ca0)) ?_
  intro p e s m args below meth c K hret hlk hnm hA
  have tail : mg_G p l e (mg_rm 2 0 0) s m args below meth c D mn_cl Z (mg_A ad (mr_C tys ma_sh ad (ma_R g q)) s.heap.size) s.heap 3 (MQ below (mg_Qc D mn_cl Z ad (mr_C tys ma_sh ad (ma_R g q)) s.heap.size (mg_Po tys ma_sh ad none (ma_R (ca_perf g j) q))) args s 0 0 (mg_A ad (mr_C tys ma_sh ad (ma_R g q)) s.heap.size)) ad (mr_C tys ma_sh ad (ma_R (ca_act g j) q)) [some (va_rf (some (ad 0 0))), some (va_rf (some (ad 10 j))), some (va_rf (some (ad 7 (ca_ms g j))))] 0 0 [] 111 := by
    refine mg_aload_n K md_A_perform_111 rfl ?_
    refine mg_dup K md_A_perform_112 rfl ?_
    refine mr_getI (v := ca_iv (ca_act g j) 7 (ca_ms g j) 2) K mf_A_144 md_A_perform_113 (by decide) hu rfl ?_
    refine mg_iconst K (v := 1) md_A_perform_116 (by decide) ?_
    refine mg_iadd K md_A_perform_117 ?_
    refine mr_putI K mf_A_144 md_A_perform_118 hu ?_
    refine mr_eqr (ma_sI _ _ _ _ _ _ (by decide) (by decide)) ?_
    refine mg_aload_n K md_A_perform_121 rfl ?_
    refine mg_iconst K (v := 1) md_A_perform_122 (by decide) ?_
    refine mr_putI K mf_A_86 md_A_perform_123 hj1 ?_
    refine mr_eqr (ma_sI _ _ _ _ _ _ (by decide) (by decide)) ?_
    refine mg_aload_n K md_A_perform_126 rfl ?_
    refine mr_getS (k2 := 8) (i2 := 0) K mf_A_28 md_A_perform_127 Nat.zero_lt_one rfl ?_
    refine mg_aload_n K md_A_perform_130 rfl ?_
    refine mr_cV K hA (ct_L_append hty (ca_si (ca_si (ca_act g j) 7 (ca_ms g j) 2 (ca_iv (ca_act g j) 7 (ca_ms g j) 2 + 1)) 10 j 4 1) q (x := 0) (by decide) hj1 (h1.ok.2.2.1 0)) ms_A_205 (by decide) md_A_perform_131 rfl rfl (by decide : 0 < 4) rfl (by decide) ⟨Nat.le_refl _, Nat.le_refl _⟩ ?_
    exact mg_vret K hret hlk md_A_perform_134 (Nat.le_refl _) (Nat.le_refl _) ⟨rfl, rfl, rfl⟩
  refine mg_aload_n K md_A_perform_0 rfl ?_
  refine mr_getS (k2 := 7) (i2 := (ca_ms g j)) K mf_A_191 md_A_perform_1 hj rfl ?_
  refine mg_astore_n K md_A_perform_4 (by decide) ?_
  refine mg_aload_n K md_A_perform_5 rfl ?_
  refine mr_getI (v := ca_iv g 10 j 1) K mf_A_181 md_A_perform_6 (by decide) hj rfl ?_
  by_cases hS9_0 : ca_iv g 10 j 1 = 0
  · refine mg_tabIn (off := 35) K 0 44 md_A_perform_9 hS9_0 (by decide) (by decide) (by decide) rfl ?_
    refine mg_aload_n K md_A_perform_44 rfl ?_
    refine mg_iconst K (v := 1) md_A_perform_45 (by decide) ?_
    refine mr_putI K mf_A_95 md_A_perform_46 hu ?_
    refine mr_eqr (ma_sI _ _ _ _ _ _ (by decide) (by decide)) ?_
    refine mg_aload_n K md_A_perform_49 rfl ?_
    refine mg_aload_n K md_A_perform_50 rfl ?_
    refine mr_getI (v := ca_iv g 10 j 3) K mf_A_215 md_A_perform_51 (by decide) hj rfl ?_
    refine mr_putI K mf_A_141 md_A_perform_54 hu ?_
    refine mr_eqr (ma_sI _ _ _ _ _ _ (by decide) (by decide)) ?_
    refine mg_goto K 111 md_A_perform_57 rfl ?_
    refine mr_eqr (congrArg (fun z => ma_R z q) (ca_act_0 hS9_0)).symm ?_
    exact tail
  by_cases hS9_1 : ca_iv g 10 j 1 = 1
  · refine mg_tabIn (off := 51) K 1 60 md_A_perform_9 hS9_1 (by decide) (by decide) (by decide) rfl ?_
    refine mg_aload_n K md_A_perform_60 rfl ?_
    refine mg_aload_n K md_A_perform_61 rfl ?_
    refine mr_getI (v := ca_iv g 10 j 3) K mf_A_215 md_A_perform_62 (by decide) hj rfl ?_
    refine mr_putI K mf_A_141 md_A_perform_65 hu ?_
    refine mr_eqr (ma_sI _ _ _ _ _ _ (by decide) (by decide)) ?_
    refine mg_goto K 111 md_A_perform_68 rfl ?_
    refine mr_eqr (congrArg (fun z => ma_R z q) (ca_act_1 hS9_1)).symm ?_
    exact tail
  by_cases hS9_2 : ca_iv g 10 j 1 = 2
  · refine mg_tabIn (off := 62) K 2 71 md_A_perform_9 hS9_2 (by decide) (by decide) (by decide) rfl ?_
    refine mg_aload_n K md_A_perform_71 rfl ?_
    refine mg_dup K md_A_perform_72 rfl ?_
    refine mr_getI (v := ca_iv g 7 (ca_ms g j) 1) K mf_A_141 md_A_perform_73 (by decide) hu rfl ?_
    refine mg_aload_n K md_A_perform_76 rfl ?_
    refine mr_getI (v := ca_iv g 10 j 3) K mf_A_215 md_A_perform_77 (by decide) hj rfl ?_
    refine mg_iadd K md_A_perform_80 ?_
    refine mr_putI K mf_A_141 md_A_perform_81 hu ?_
    refine mr_eqr (ma_sI _ _ _ _ _ _ (by decide) (by decide)) ?_
    refine mg_goto K 111 md_A_perform_84 rfl ?_
    refine mr_eqr (congrArg (fun z => ma_R z q) (ca_act_2 hS9_2)).symm ?_
    exact tail
  by_cases hS9_3 : ca_iv g 10 j 1 = 3
  · refine mg_tabIn (off := 86) K 3 95 md_A_perform_9 hS9_3 (by decide) (by decide) (by decide) rfl ?_
    refine mg_aload_n K md_A_perform_95 rfl ?_
    refine mg_bipush K (v := 10) md_A_perform_96 (by decide) ?_
    refine mg_aload_n K md_A_perform_98 rfl ?_
    refine mr_getI (v := ca_iv g 7 (ca_ms g j) 1) K mf_A_141 md_A_perform_99 (by decide) hu rfl ?_
    refine mg_imul K md_A_perform_102 ?_
    refine mg_aload_n K md_A_perform_103 rfl ?_
    refine mr_getI (v := ca_iv g 7 (ca_ms g j) 0) K mf_A_95 md_A_perform_104 (by decide) hu rfl ?_
    refine mg_iadd K md_A_perform_107 ?_
    refine mr_putI K mf_A_89 md_A_perform_108 hj ?_
    refine mr_eqr (ma_sI _ _ _ _ _ _ (by decide) (by decide)) ?_
    refine mr_eqr (congrArg (fun z => ma_R z q) (ca_act_e hS9_0 hS9_1 hS9_2 (by rw [hS9_3]; decide))).symm ?_
    exact tail
  by_cases hS9_4 : ca_iv g 10 j 1 = 4
  · refine mg_tabIn (off := 78) K 4 87 md_A_perform_9 hS9_4 (by decide) (by decide) (by decide) rfl ?_
    refine mg_aload_n K md_A_perform_87 rfl ?_
    refine mg_iconst K (v := 3) md_A_perform_88 (by decide) ?_
    refine mr_putI K mf_A_95 md_A_perform_89 hu ?_
    refine mr_eqr (ma_sI _ _ _ _ _ _ (by decide) (by decide)) ?_
    refine mg_goto K 111 md_A_perform_92 rfl ?_
    refine mr_eqr (congrArg (fun z => ma_R z q) (ca_act_4 hS9_4)).symm ?_
    exact tail
  have ehS9_0 : (ca_iv g 10 j 1).toInt ≠ 0 := fun z => hS9_0 (Int32.toInt_inj.mp z)
  have ehS9_1 : (ca_iv g 10 j 1).toInt ≠ 1 := fun z => hS9_1 (Int32.toInt_inj.mp z)
  have ehS9_2 : (ca_iv g 10 j 1).toInt ≠ 2 := fun z => hS9_2 (Int32.toInt_inj.mp z)
  have ehS9_3 : (ca_iv g 10 j 1).toInt ≠ 3 := fun z => hS9_3 (Int32.toInt_inj.mp z)
  have ehS9_4 : (ca_iv g 10 j 1).toInt ≠ 4 := fun z => hS9_4 (Int32.toInt_inj.mp z)
  refine mg_tabOut K 95 md_A_perform_9 (by omega) rfl ?_
  refine mg_aload_n K md_A_perform_95 rfl ?_
  refine mg_bipush K (v := 10) md_A_perform_96 (by decide) ?_
  refine mg_aload_n K md_A_perform_98 rfl ?_
  refine mr_getI (v := ca_iv g 7 (ca_ms g j) 1) K mf_A_141 md_A_perform_99 (by decide) hu rfl ?_
  refine mg_imul K md_A_perform_102 ?_
  refine mg_aload_n K md_A_perform_103 rfl ?_
  refine mr_getI (v := ca_iv g 7 (ca_ms g j) 0) K mf_A_95 md_A_perform_104 (by decide) hu rfl ?_
  refine mg_iadd K md_A_perform_107 ?_
  refine mr_putI K mf_A_89 md_A_perform_108 hj ?_
  refine mr_eqr (ma_sI _ _ _ _ _ _ (by decide) (by decide)) ?_
  refine mr_eqr (congrArg (fun z => ma_R z q) (ca_act_e hS9_0 hS9_1 hS9_2 hS9_4)).symm ?_
  exact tail
theorem ct_A_settle (hty : tys.map (·.2) = ma_ty) (g : ca_S) (q : mr_St) {j : Nat} (b : Bool) (hok : ca_ok g) (hj : j < ca_nm g) : mr_M l my_A_settle mc_A_settle 4 none 3 D mn_cl Z mb_B tys ma_sh [va_rf (some (ad 0 0)), va_rf (some (ad 10 j)), .int (mi_b b)] ad (ma_R g q) none (ma_R (ca_settle g j b) q) := by
  have hu := (hok.2.2.2 j hj).1
  have hfn := (hok.2.2.2 j hj).2
  refine mg_M.of (cc := mc_A_settle) (maxL := 4) (ret := none) (by decide) rfl (Nat.le_of_ble_eq_true rfl) (mg_caS rfl (mg_caS rfl (mg_caS rfl mg_ca0))) ?_
  intro p e s m args below meth c K hret hlk hnm hA
  refine mg_aload_n K md_A_settle_0 rfl ?_
  refine mg_aload_n K md_A_settle_1 rfl ?_
  refine mr_cV K hA (ct_A_vd hty g q hj hu (hok.2.2.1 2)) ms_A_199 (by decide) md_A_settle_2 rfl rfl Nat.zero_lt_one rfl (by decide) ⟨Nat.le_refl _, Nat.le_refl _⟩ ?_
  refine mg_istore_n K md_A_settle_5 (by decide) ?_
  refine mg_iload_n K md_A_settle_6 rfl ?_
  refine mg_iconst K (v := -1) md_A_settle_7 (by decide) ?_
  refine mg_icmp_ne K 35 md_A_settle_8 rfl (fun h8 => ?_) (fun h8 => ?_)
  · refine mg_iload_n K md_A_settle_35 rfl ?_
    refine mg_if_eq K 53 md_A_settle_36 rfl (fun h36 => ?_) (fun h36 => ?_)
    · refine mg_aload_n K md_A_settle_53 rfl ?_
      refine mr_getS (k2 := 3) (i2 := 0) K mf_A_21 md_A_settle_54 Nat.zero_lt_one rfl ?_
      refine mg_aload_n K md_A_settle_57 rfl ?_
      refine mr_getI (v := ca_iv g 10 j 1) K mf_A_181 md_A_settle_58 (by decide) hj rfl ?_
      refine mr_zald (v := ca_iv g 3 0 (ca_iv g 10 j 1).toNatClampNeg) K rfl (ma_t hty 2) md_A_settle_61 Nat.zero_lt_one (mi_vi hfn.1 hfn.2) rfl ?_
      refine mg_if_eq K 84 md_A_settle_62 rfl (fun h62 => ?_) (fun h62 => ?_)
      · refine mg_aload_n K md_A_settle_84 rfl ?_
        refine mg_aload_n K md_A_settle_85 rfl ?_
        refine mr_cV K hA (ct_A_perform hty g q hok hj) ms_A_212 (by decide) md_A_settle_86 rfl rfl Nat.zero_lt_one rfl (by decide) ⟨Nat.le_refl _, Nat.le_refl _⟩ ?_
        exact mg_vret K hret hlk md_A_settle_89 (Nat.le_refl _) (Nat.le_refl _) ⟨rfl, rfl, by rw [ca_set_p h8 h36 h62]⟩
      · refine mg_aload_n K md_A_settle_65 rfl ?_
        refine mr_getS (k2 := 3) (i2 := 0) K mf_A_21 md_A_settle_66 Nat.zero_lt_one rfl ?_
        refine mg_aload_n K md_A_settle_69 rfl ?_
        refine mr_getI (v := ca_iv g 10 j 1) K mf_A_181 md_A_settle_70 (by decide) hj rfl ?_
        refine mg_iconst K (v := 0) md_A_settle_73 (by decide) ?_
        refine mr_zast (v := 0) K rfl (ma_t hty 2) md_A_settle_74 Nat.zero_lt_one (mi_vi hfn.1 hfn.2) (by decide) ?_
        refine mr_eqr (ma_sI _ _ _ _ _ _ (by decide) (by decide)) ?_
        have hf1 := ca_to.si hok 3 0 (ca_iv g 10 j 1).toNatClampNeg 0 (by omega)
        refine mg_aload_n K md_A_settle_75 rfl ?_
        refine mg_aload_n K md_A_settle_76 rfl ?_
        refine mg_iload_n K md_A_settle_77 rfl ?_
        refine mr_cV K hA (ct_A_fail hty (ca_si g 3 0 (ca_iv g 10 j 1).toNatClampNeg 0) q b hf1.ok hj) ms_A_209 (by decide) md_A_settle_78 rfl rfl Nat.zero_lt_one rfl (by decide) ⟨Nat.le_refl _, Nat.le_refl _⟩ ?_
        refine mg_goto K 89 md_A_settle_81 rfl ?_
        exact mg_vret K hret hlk md_A_settle_89 (Nat.le_refl _) (Nat.le_refl _) ⟨rfl, rfl, by rw [ca_set_f h8 h36 h62]⟩
    · refine mg_aload_n K md_A_settle_39 rfl ?_
      refine mg_iconst K (v := 2) md_A_settle_40 (by decide) ?_
      refine mr_putI K mf_A_86 md_A_settle_41 hj ?_
      refine mr_eqr (ma_sI _ _ _ _ _ _ (by decide) (by decide)) ?_
      refine mg_aload_n K md_A_settle_44 rfl ?_
      refine mg_iload_n K md_A_settle_45 rfl ?_
      refine mg_ineg K md_A_settle_46 ?_
      refine mr_putI K mf_A_89 md_A_settle_47 hj ?_
      refine mr_eqr (ma_sI _ _ _ _ _ _ (by decide) (by decide)) ?_
      refine mg_goto K 89 md_A_settle_50 rfl ?_
      exact mg_vret K hret hlk md_A_settle_89 (Nat.le_refl _) (Nat.le_refl _) ⟨rfl, rfl, by rw [ca_set_r h8 h36]⟩
  · refine mg_aload_n K md_A_settle_11 rfl ?_
    refine mg_iconst K (v := 3) md_A_settle_12 (by decide) ?_
    refine mr_putI K mf_A_86 md_A_settle_13 hj ?_
    refine mr_eqr (ma_sI _ _ _ _ _ _ (by decide) (by decide)) ?_
    refine mg_aload_n K md_A_settle_16 rfl ?_
    refine mg_aload_n K md_A_settle_17 rfl ?_
    refine mr_getI (v := ca_iv g 0 0 7) K mf_A_41 md_A_settle_18 (by decide) Nat.zero_lt_one rfl ?_
    refine mr_putI K mf_A_202 md_A_settle_21 hj ?_
    refine mr_eqr (ma_sI _ _ _ _ _ _ (by decide) (by decide)) ?_
    refine mg_aload_n K md_A_settle_24 rfl ?_
    refine mr_getS (k2 := 8) (i2 := 2) K mf_A_35 md_A_settle_25 Nat.zero_lt_one rfl ?_
    refine mg_aload_n K md_A_settle_28 rfl ?_
    refine mr_cV K hA (ct_L_append hty (ca_si (ca_si g 10 j 4 3) 10 j 7 (ca_iv g 0 0 7)) q (x := 2) (by decide) hj (hok.2.2.1 2)) ms_A_205 (by decide) md_A_settle_29 rfl rfl (by decide : 2 < 4) rfl (by decide) ⟨Nat.le_refl _, Nat.le_refl _⟩ ?_
    refine mg_goto K 89 md_A_settle_32 rfl ?_
    exact mg_vret K hret hlk md_A_settle_89 (Nat.le_refl _) (Nat.le_refl _) ⟨rfl, rfl, by rw [ca_set_w h8]⟩
theorem ct_A_turn (hty : tys.map (·.2) = ma_ty) (g : ca_S) (q : mr_St) {j : Nat} (b : Bool) (hok : ca_ok g) (hj : j < ca_nm g) : mr_M l my_A_haveTurn mc_A_haveTurn 5 none 4 D mn_cl Z mb_B tys ma_sh [va_rf (some (ad 0 0)), va_rf (some (ad 10 j)), .int (mi_b b)] ad (ma_R g q) none (ma_R (ca_turn g j b) q) := by
  have hu := (hok.2.2.2 j hj).1
  have t1 := ca_to.settle hok b hj
  have hms : ca_ms (ca_settle g j b) j = ca_ms g j := by rw [t1.2.1]
  have hj1 := t1.lt hj
  refine mg_M.of (cc := mc_A_haveTurn) (maxL := 5) (ret := none) (by decide) rfl (Nat.le_of_ble_eq_true rfl) (mg_caS rfl (mg_caS rfl (mg_caS rfl mg_ca0))) ?_
  intro p e s m args below meth c K hret hlk hnm hA
  have loop : ∀ (n k : Nat) (g' : ca_S), k + n = 12 → ca_to g g' → ca_wake (ca_ms g j) n g' = (ca_turn g j b) → mg_G p l e (mg_rm 4 0 0) s m args below meth c D mn_cl Z (mg_A ad (mr_C tys ma_sh ad (ma_R g q)) s.heap.size) s.heap 5 (MQ below (mg_Qc D mn_cl Z ad (mr_C tys ma_sh ad (ma_R g q)) s.heap.size (mg_Po tys ma_sh ad none (ma_R (ca_turn g j b) q))) args s 0 0 (mg_A ad (mr_C tys ma_sh ad (ma_R g q)) s.heap.size)) ad (mr_C tys ma_sh ad (ma_R g' q)) [some (va_rf (some (ad 0 0))), some (va_rf (some (ad 10 j))), some (.int (mi_b b)), some (.int (Int32.ofNat k))] 0 0 [] 19 := by
    intro n
    induction n with
    | zero =>
      intro k g' hk ht hT
      refine mg_iload_n K md_A_haveTurn_19 rfl ?_
      refine mg_bipush K (v := 12) md_A_haveTurn_20 (by decide) ?_
      refine mg_icmp_ge K 57 md_A_haveTurn_22 rfl (fun h22 => ?_) (fun h22 => ?_)
      · exact mg_vret K hret hlk md_A_haveTurn_57 (Nat.le_refl _) (Nat.le_refl _) ⟨rfl, rfl, by rw [← hT]; rfl⟩
      · exact absurd ((mi_le (a := 12) (b := k) (by omega) (by omega)).mpr (by omega)) h22
    | succ n ih =>
      intro k g' hk ht hT
      have hm2 : ca_ms g' j = ca_ms g j := by rw [ht.2.1]
      have hj2 := ht.lt hj
      have hmm : ∀ i ∈ ca_ln g' 2, i < ca_nm g' ∧ ca_ms g' i < 16 := fun i hi => ⟨ht.ok.2.1 2 i hi, (ht.ok.2.2.2 i (ht.ok.2.1 2 i hi)).1⟩
      cases hx : ca_first g' (ca_ms g j) with
      | none =>
        rw [ca_wake_N hx] at hT
        refine mg_iload_n K md_A_haveTurn_19 rfl ?_
        refine mg_bipush K (v := 12) md_A_haveTurn_20 (by decide) ?_
        refine mg_icmp_ge K 57 md_A_haveTurn_22 rfl (fun h22 => ?_) (fun h22 => ?_)
        · exact absurd ((mi_le (a := 12) (b := k) (by omega) (by omega)).mp h22) (by omega)
        · refine mg_aload_n K md_A_haveTurn_25 rfl ?_
          refine mr_getS (k2 := 8) (i2 := 2) K mf_A_35 md_A_haveTurn_26 Nat.zero_lt_one rfl ?_
          refine mg_aload_n K md_A_haveTurn_29 rfl ?_
          refine mr_getS (k2 := 7) (i2 := ca_ms g j) K mf_A_191 md_A_haveTurn_30 hj2 (by show some (7, ca_ms g' j) = _; rw [hm2]) ?_
          refine mr_cV K hA (ct_L_tffN hty g' q (x := 2) (by decide) hu (ht.ok.2.2.1 2) hmm (ca_first_none hx)) ms_A_195 (by decide) md_A_haveTurn_33 rfl rfl (by decide : 2 < 4) rfl (by decide) ⟨Nat.le_refl _, Nat.le_refl _⟩ ?_
          refine mg_astore K md_A_haveTurn_36 (by decide) ?_
          refine mg_aload K md_A_haveTurn_38 rfl ?_
          refine mg_ifnonnull K 44 md_A_haveTurn_40 rfl (fun h40 => ?_) (fun h40 => ?_)
          · exact absurd rfl h40
          · exact mg_vret K hret hlk md_A_haveTurn_43 (Nat.le_refl _) (Nat.le_refl _) ⟨rfl, rfl, by rw [← hT]⟩
      | some i =>
        obtain ⟨w, hw1, hw2, hw3, hw4⟩ := ca_first_some hx
        rw [ca_wake_S hx, hw4] at hT
        have tk := ca_to.take ht.ok 2 i
        have hwn : w < ca_nm g' := ht.ok.2.1 2 w (List.mem_of_getElem? hw1)
        have ts := ca_to.settle tk.ok false hwn
        refine mg_iload_n K md_A_haveTurn_19 rfl ?_
        refine mg_bipush K (v := 12) md_A_haveTurn_20 (by decide) ?_
        refine mg_icmp_ge K 57 md_A_haveTurn_22 rfl (fun h22 => ?_) (fun h22 => ?_)
        · exact absurd ((mi_le (a := 12) (b := k) (by omega) (by omega)).mp h22) (by omega)
        · refine mg_aload_n K md_A_haveTurn_25 rfl ?_
          refine mr_getS (k2 := 8) (i2 := 2) K mf_A_35 md_A_haveTurn_26 Nat.zero_lt_one rfl ?_
          refine mg_aload_n K md_A_haveTurn_29 rfl ?_
          refine mr_getS (k2 := 7) (i2 := ca_ms g j) K mf_A_191 md_A_haveTurn_30 hj2 (by show some (7, ca_ms g' j) = _; rw [hm2]) ?_
          refine mr_cV K hA (ct_L_tff hty g' q (x := 2) (by decide) hu (ht.ok.2.2.1 2) hmm hw1 hw2 hw3) ms_A_195 (by decide) md_A_haveTurn_33 rfl rfl (by decide : 2 < 4) rfl (by decide) ⟨Nat.le_refl _, Nat.le_refl _⟩ ?_
          refine mg_astore K md_A_haveTurn_36 (by decide) ?_
          refine mg_aload K md_A_haveTurn_38 rfl ?_
          refine mg_ifnonnull K 44 md_A_haveTurn_40 rfl (fun h40 => ?_) (fun h40 => ?_)
          · refine mg_aload_n K md_A_haveTurn_44 rfl ?_
            refine mg_aload K md_A_haveTurn_45 rfl ?_
            refine mg_iconst K (v := 0) md_A_haveTurn_47 (by decide) ?_
            refine mr_cV K hA (ct_A_settle hty (ca_sn g' 2 ((ca_ln g' 2).eraseIdx i)) q false tk.ok hwn) ms_A_188 (by decide) md_A_haveTurn_48 rfl rfl Nat.zero_lt_one rfl (by decide) ⟨Nat.le_refl _, Nat.le_refl _⟩ ?_
            refine mg_iinc K (v := Int32.ofNat (k + 1)) md_A_haveTurn_51 rfl (mi_a1 k) (by decide) ?_
            refine mg_goto K 19 md_A_haveTurn_54 rfl ?_
            refine mg_take 4 ?_
            exact ih (k + 1) _ (by omega) (ht.tr (tk.tr ts)) hT
          · exact absurd h40 (fun z => by cases z)
  refine mg_aload_n K md_A_haveTurn_0 rfl ?_
  refine mg_aload_n K md_A_haveTurn_1 rfl ?_
  refine mg_iload_n K md_A_haveTurn_2 rfl ?_
  refine mr_cV K hA (ct_A_settle hty g q b hok hj) ms_A_188 (by decide) md_A_haveTurn_3 rfl rfl Nat.zero_lt_one rfl (by decide) ⟨Nat.le_refl _, Nat.le_refl _⟩ ?_
  refine mg_aload_n K md_A_haveTurn_6 rfl ?_
  refine mr_getS (k2 := 7) (i2 := ca_ms g j) K mf_A_191 md_A_haveTurn_7 hj1 (by show some (7, ca_ms (ca_settle g j b) j) = _; rw [hms]) ?_
  refine mr_getI (v := ca_iv (ca_settle g j b) 7 (ca_ms g j) 0) K mf_A_95 md_A_haveTurn_10 (by decide) hu rfl ?_
  refine mg_if_ne K 17 md_A_haveTurn_13 rfl (fun h13 => ?_) (fun h13 => ?_)
  · refine mg_iconst K (v := 0) md_A_haveTurn_17 (by decide) ?_
    refine mg_istore_n K md_A_haveTurn_18 (by decide) ?_
    exact loop 12 0 (ca_settle g j b) (by omega) t1 (if_neg h13).symm
  · exact mg_vret K hret hlk md_A_haveTurn_16 (Nat.le_refl _) (Nat.le_refl _) ⟨rfl, rfl, by rw [show ca_turn g j b = ca_settle g j b from if_pos h13]⟩
end CA2
end
section
/-! the class: turns of a line, of those that failed, of those that wait -/
theorem ca_least_b (g : ca_S) (s : Nat) : ∀ (f n : Nat), n ≤ ca_least g s n f ∧ ca_least g s n f ≤ n + f
  | 0, n => ⟨Nat.le_refl _, Nat.le_refl _⟩
  | f + 1, n => by
    show n ≤ (if ca_gap g s n then n else ca_least g s (n + 1) f) ∧ (if ca_gap g s n then n else ca_least g s (n + 1) f) ≤ n + (f + 1)
    have h := ca_least_b g s f (n + 1)
    split
    · omega
    · omega
theorem ca_lg_b (g : ca_S) (s : Nat) : 1 ≤ ca_lg g s ∧ ca_lg g s ≤ 25 := ca_least_b g s 24 1
theorem ca_give_N {g : ca_S} {s n f : Nat} (h : ca_tb g s n = none) : ca_give s n (f + 1) g = ca_give s (n + 1) f g := by
  show ca_give s (n + 1) f (match ca_tb g s n with | none => g | some j => if ca_iv g 10 j 4 = 0 then ca_turn g j false else g) = _
  rw [h]
theorem ca_give_S {g : ca_S} {s n f j : Nat} (h : ca_tb g s n = some j) : ca_give s n (f + 1) g = ca_give s (n + 1) f (if ca_iv g 10 j 4 = 0 then ca_turn g j false else g) := by
  show ca_give s (n + 1) f (match ca_tb g s n with | none => g | some j => if ca_iv g 10 j 4 = 0 then ca_turn g j false else g) = _
  rw [h]
theorem ca_retry_N {g : ca_S} {n : Nat} (h : ca_ln g 3 = []) : ca_retry (n + 1) g = ca_retry n g := by
  show ca_retry n (match ca_ln g 3 with | [] => g | j :: r => ca_turn (ca_sn g 3 r) j true) = _
  rw [h]
theorem ca_retry_S {g : ca_S} {n j : Nat} {r : List Nat} (h : ca_ln g 3 = j :: r) : ca_retry (n + 1) g = ca_retry n (ca_turn (ca_sn g 3 r) j true) := by
  show ca_retry n (match ca_ln g 3 with | [] => g | j :: r => ca_turn (ca_sn g 3 r) j true) = _
  rw [h]
theorem ca_longs_N {g : ca_S} {n : Nat} (h : ca_ln g 2 = []) : ca_longs (n + 1) g = g := by
  show (match ca_ln g 2 with | [] => g | j :: r => if ca_iv g 0 0 7 - ca_iv g 10 j 7 ≤ 50 then g else ca_longs n (ca_app (ca_si (ca_sn g 2 r) 10 j 4 5) 1 j)) = _
  rw [h]
theorem ca_longs_S {g : ca_S} {n j : Nat} {r : List Nat} (h : ca_ln g 2 = j :: r) : ca_longs (n + 1) g = if ca_iv g 0 0 7 - ca_iv g 10 j 7 ≤ 50 then g else ca_longs n (ca_app (ca_si (ca_sn g 2 r) 10 j 4 5) 1 j) := by
  show (match ca_ln g 2 with | [] => g | j :: r => if ca_iv g 0 0 7 - ca_iv g 10 j 7 ≤ 50 then g else ca_longs n (ca_app (ca_si (ca_sn g 2 r) 10 j 4 5) 1 j)) = _
  rw [h]
def ca_nmAt (g : ca_S) (x : Nat) (i : Int32) : Int32 := match ca_at g x i with
  | none => -1
  | some z => ca_iv g 10 z.2 0
theorem ca_at_some {g : ca_S} {x : Nat} {i : Int32} {z : Nat × Nat} (hok : ca_ok g) (h : ca_at g x i = some z) : ∃ j, j < ca_nm g ∧ z = (10, j) := by
  unfold ca_at at h
  split at h
  · cases h
  · cases hq : (ca_ln g x)[i.toNatClampNeg]? with
    | none => rw [hq] at h; cases h
    | some j =>
      rw [hq] at h
      cases h
      exact ⟨j, hok.2.1 x j (List.mem_of_getElem? hq), rfl⟩
section CA3
variable {l : Launch} {D : va_G} {Z : Nat × Cell} {tys : List (ClassId × FieldType)} {ad : mg_Ad}
theorem ct_A_give (hty : tys.map (·.2) = ma_ty) (g : ca_S) (q : mr_St) {s0 : Nat} (hs : s0 < 4) (hok : ca_ok g) : mr_M l my_A_giveTurns mc_A_giveTurns 5 none 5 D mn_cl Z mb_B tys ma_sh [va_rf (some (ad 0 0)), va_rf (some (ad 4 s0))] ad (ma_R g q) none (ma_R (ca_turns g s0) q) := by
  have hlb := ca_lg_b g s0
  refine mg_M.of (cc := mc_A_giveTurns) (maxL := 5) (ret := none) (by decide) rfl (Nat.le_of_ble_eq_true rfl) (mg_caS rfl (mg_caS rfl mg_ca0)) ?_
  intro p e s m args below meth c K hret hlk hnm hA
  have loop : ∀ (f n : Nat) (g' : ca_S), n + f = ca_lg g s0 → 1 ≤ n → ca_to g g' → ca_give s0 n f g' = (ca_turns g s0) → mg_G p l e (mg_rm 5 0 0) s m args below meth c D mn_cl Z (mg_A ad (mr_C tys ma_sh ad (ma_R g q)) s.heap.size) s.heap 5 (MQ below (mg_Qc D mn_cl Z ad (mr_C tys ma_sh ad (ma_R g q)) s.heap.size (mg_Po tys ma_sh ad none (ma_R (ca_turns g s0) q))) args s 0 0 (mg_A ad (mr_C tys ma_sh ad (ma_R g q)) s.heap.size)) ad (mr_C tys ma_sh ad (ma_R g' q)) [some (va_rf (some (ad 0 0))), some (va_rf (some (ad 4 s0))), some (.int (Int32.ofNat (ca_lg g s0))), some (.int (Int32.ofNat n))] 0 0 [] 7 := by
    intro f
    induction f with
    | zero =>
      intro n g' hn h1 ht hT
      refine mg_iload_n K md_A_giveTurns_7 rfl ?_
      refine mg_iload_n K md_A_giveTurns_8 rfl ?_
      refine mg_icmp_ge K 45 md_A_giveTurns_9 rfl (fun h9 => ?_) (fun h9 => ?_)
      · exact mg_vret K hret hlk md_A_giveTurns_45 (Nat.le_refl _) (Nat.le_refl _) ⟨rfl, rfl, by rw [← hT]; rfl⟩
      · exact absurd ((mi_le (by omega) (by omega)).mpr (by omega)) h9
    | succ f ih =>
      intro n g' hn h1 ht hT
      cases hx : ca_tb g' s0 n with
      | none =>
        rw [ca_give_N hx] at hT
        refine mg_iload_n K md_A_giveTurns_7 rfl ?_
        refine mg_iload_n K md_A_giveTurns_8 rfl ?_
        refine mg_icmp_ge K 45 md_A_giveTurns_9 rfl (fun h9 => ?_) (fun h9 => ?_)
        · exact absurd ((mi_le (by omega) (by omega)).mp h9) (by omega)
        · refine mg_aload_n K md_A_giveTurns_12 rfl ?_
          refine mg_iload_n K md_A_giveTurns_13 rfl ?_
          refine mr_cV K hA (ct_S_get hty g' q hs h1 (by omega)) ms_A_82 (by decide) md_A_giveTurns_14 rfl rfl hs rfl (by decide) ⟨Nat.le_refl _, Nat.le_refl _⟩ ?_
          rw [ca_tv_n hx]
          refine mg_astore K md_A_giveTurns_17 (by decide) ?_
          refine mg_aload K md_A_giveTurns_19 rfl ?_
          refine mg_ifnull K 39 md_A_giveTurns_21 rfl (fun h21 => ?_) (fun h21 => ?_)
          · refine mg_iinc K (v := Int32.ofNat (n + 1)) md_A_giveTurns_39 rfl (mi_a1 n) (by decide) ?_
            refine mg_goto K 7 md_A_giveTurns_42 rfl ?_
            refine mg_take 4 ?_
            exact ih (n + 1) g' (by omega) (by omega) ht hT
          · exact absurd rfl h21
      | some j =>
        have hj := ht.ok.1 s0 n j hx
        rw [ca_give_S hx] at hT
        refine mg_iload_n K md_A_giveTurns_7 rfl ?_
        refine mg_iload_n K md_A_giveTurns_8 rfl ?_
        refine mg_icmp_ge K 45 md_A_giveTurns_9 rfl (fun h9 => ?_) (fun h9 => ?_)
        · exact absurd ((mi_le (by omega) (by omega)).mp h9) (by omega)
        · refine mg_aload_n K md_A_giveTurns_12 rfl ?_
          refine mg_iload_n K md_A_giveTurns_13 rfl ?_
          refine mr_cV K hA (ct_S_get hty g' q hs h1 (by omega)) ms_A_82 (by decide) md_A_giveTurns_14 rfl rfl hs rfl (by decide) ⟨Nat.le_refl _, Nat.le_refl _⟩ ?_
          rw [ca_tv_s hx, mr_as]
          refine mg_astore K md_A_giveTurns_17 (by decide) ?_
          refine mg_aload K md_A_giveTurns_19 rfl ?_
          refine mg_ifnull K 39 md_A_giveTurns_21 rfl (fun h21 => ?_) (fun h21 => ?_)
          · exact absurd h21 (fun z => by cases z)
          · refine mg_aload K md_A_giveTurns_24 rfl ?_
            refine mr_getI (v := ca_iv g' 10 j 4) K mf_A_86 md_A_giveTurns_26 (by decide) hj rfl ?_
            refine mg_if_ne K 39 md_A_giveTurns_29 rfl (fun h29 => ?_) (fun h29 => ?_)
            · rw [if_neg h29] at hT
              refine mg_iinc K (v := Int32.ofNat (n + 1)) md_A_giveTurns_39 rfl (mi_a1 n) (by decide) ?_
              refine mg_goto K 7 md_A_giveTurns_42 rfl ?_
              refine mg_take 4 ?_
              exact ih (n + 1) g' (by omega) (by omega) ht hT
            · rw [if_pos h29] at hT
              refine mg_aload_n K md_A_giveTurns_32 rfl ?_
              refine mg_aload K md_A_giveTurns_33 rfl ?_
              refine mg_iconst K (v := 0) md_A_giveTurns_35 (by decide) ?_
              refine mr_cV K hA (ct_A_turn hty g' q false ht.ok hj) ms_A_184 (by decide) md_A_giveTurns_36 rfl rfl Nat.zero_lt_one rfl (by decide) ⟨Nat.le_refl _, Nat.le_refl _⟩ ?_
              refine mg_iinc K (v := Int32.ofNat (n + 1)) md_A_giveTurns_39 rfl (mi_a1 n) (by decide) ?_
              refine mg_goto K 7 md_A_giveTurns_42 rfl ?_
              refine mg_take 4 ?_
              exact ih (n + 1) _ (by omega) (by omega) (ht.tr (ca_to.turn ht.ok false hj)) hT
  refine mg_aload_n K md_A_giveTurns_0 rfl ?_
  refine mr_cV K hA (ct_S_leastGap hty g q hs (hok.1 s0)) ms_A_118 (by decide) md_A_giveTurns_1 rfl rfl hs rfl (by decide) ⟨Nat.le_refl _, Nat.le_refl _⟩ ?_
  refine mg_istore_n K md_A_giveTurns_4 (by decide) ?_
  refine mg_iconst K (v := 1) md_A_giveTurns_5 (by decide) ?_
  refine mg_istore_n K md_A_giveTurns_6 (by decide) ?_
  exact loop (ca_lg g s0 - 1) 1 g (by omega) (by omega) (ca_to.rf hok) rfl
theorem ct_A_come (hty : tys.map (·.2) = ma_ty) (g : ca_S) (q : mr_St) {s0 j : Nat} (hs : s0 < 4) (hok : ca_ok g) (hj : j < ca_nm g) : mr_M l my_A_come mc_A_come 3 none 6 D mn_cl Z mb_B tys ma_sh [va_rf (some (ad 0 0)), va_rf (some (ad 4 s0)), va_rf (some (ad 10 j))] ad (ma_R g q) none (ma_R (ca_come g s0 j) q) := by
  have t1 := ca_to.si hok 10 j 4 0 (by omega)
  have t2 := t1.tr (ca_to.si t1.ok 10 j 6 (ca_iv g 0 0 7) (by omega))
  have t3 := ca_to.turn t2.ok false (j := j) hj
  refine mg_M.of (cc := mc_A_come) (maxL := 3) (ret := none) (by decide) rfl (Nat.le_of_ble_eq_true rfl) (mg_caS rfl (mg_caS rfl (mg_caS rfl mg_ca0))) ?_
  intro p e s m args below meth c K hret hlk hnm hA
  refine mg_aload_n K md_A_come_0 rfl ?_
  refine mg_iconst K (v := 0) md_A_come_1 (by decide) ?_
  refine mr_putI K mf_A_86 md_A_come_2 hj ?_
  refine mr_eqr (ma_sI _ _ _ _ _ _ (by decide) (by decide)) ?_
  refine mg_aload_n K md_A_come_5 rfl ?_
  refine mg_aload_n K md_A_come_6 rfl ?_
  refine mr_getI (v := ca_iv g 0 0 7) K mf_A_41 md_A_come_7 (by decide) Nat.zero_lt_one rfl ?_
  refine mr_putI K mf_A_178 md_A_come_10 hj ?_
  refine mr_eqr (ma_sI _ _ _ _ _ _ (by decide) (by decide)) ?_
  refine mg_aload_n K md_A_come_13 rfl ?_
  refine mr_getI (v := ca_iv g 10 j 1) K mf_A_181 md_A_come_14 (by decide) hj (t2.2.2.2.1 j 1 (Or.inr (Or.inl rfl))) ?_
  refine mg_iconst K (v := 3) md_A_come_17 (by decide) ?_
  refine mg_icmp_ne K 27 md_A_come_18 rfl (fun h18 => ?_) (fun h18 => ?_)
  · refine mg_aload_n K md_A_come_27 rfl ?_
    refine mg_aload_n K md_A_come_28 rfl ?_
    refine mr_cV K hA (ct_A_give hty (ca_si (ca_si g 10 j 4 0) 10 j 6 (ca_iv g 0 0 7)) q hs t2.ok) ms_A_129 (by decide) md_A_come_29 rfl rfl Nat.zero_lt_one rfl (by decide) ⟨Nat.le_refl _, Nat.le_refl _⟩ ?_
    exact mg_vret K hret hlk md_A_come_32 (Nat.le_refl _) (Nat.le_refl _) ⟨rfl, rfl, by unfold ca_come; simp only; rw [if_neg h18]⟩
  · refine mg_aload_n K md_A_come_21 rfl ?_
    refine mg_aload_n K md_A_come_22 rfl ?_
    refine mg_iconst K (v := 0) md_A_come_23 (by decide) ?_
    refine mr_cV K hA (ct_A_turn hty (ca_si (ca_si g 10 j 4 0) 10 j 6 (ca_iv g 0 0 7)) q false t2.ok hj) ms_A_184 (by decide) md_A_come_24 rfl rfl Nat.zero_lt_one rfl (by decide) ⟨Nat.le_refl _, Nat.le_refl _⟩ ?_
    refine mg_aload_n K md_A_come_27 rfl ?_
    refine mg_aload_n K md_A_come_28 rfl ?_
    refine mr_cV K hA (ct_A_give hty (ca_turn (ca_si (ca_si g 10 j 4 0) 10 j 6 (ca_iv g 0 0 7)) j false) q hs t3.ok) ms_A_129 (by decide) md_A_come_29 rfl rfl Nat.zero_lt_one rfl (by decide) ⟨Nat.le_refl _, Nat.le_refl _⟩ ?_
    exact mg_vret K hret hlk md_A_come_32 (Nat.le_refl _) (Nat.le_refl _) ⟨rfl, rfl, by unfold ca_come; simp only; rw [if_pos h18]⟩
theorem ct_A_retry (hty : tys.map (·.2) = ma_ty) (g : ca_S) (q : mr_St) (hok : ca_ok g) : mr_M l my_A_tryFailedAgain mc_A_tryFailedAgain 4 none 5 D mn_cl Z mb_B tys ma_sh [va_rf (some (ad 0 0))] ad (ma_R g q) none (ma_R (ca_retry (ca_ln g 3).length g) q) := by
  have hle := hok.2.2.1 3
  refine mg_M.of (cc := mc_A_tryFailedAgain) (maxL := 4) (ret := none) (by decide) rfl (Nat.le_of_ble_eq_true rfl) (mg_caS rfl mg_ca0) ?_
  intro p e s m args below meth c K hret hlk hnm hA
  have loop : ∀ (f n : Nat) (g' : ca_S), n + f = (ca_ln g 3).length → ca_to g g' → ca_retry f g' = (ca_retry (ca_ln g 3).length g) → mg_G p l e (mg_rm 5 0 0) s m args below meth c D mn_cl Z (mg_A ad (mr_C tys ma_sh ad (ma_R g q)) s.heap.size) s.heap 4 (MQ below (mg_Qc D mn_cl Z ad (mr_C tys ma_sh ad (ma_R g q)) s.heap.size (mg_Po tys ma_sh ad none (ma_R (ca_retry (ca_ln g 3).length g) q))) args s 0 0 (mg_A ad (mr_C tys ma_sh ad (ma_R g q)) s.heap.size)) ad (mr_C tys ma_sh ad (ma_R g' q)) [some (va_rf (some (ad 0 0))), some (.int (Int32.ofNat (ca_ln g 3).length)), some (.int (Int32.ofNat n))] 0 0 [] 10 := by
    intro f
    induction f with
    | zero =>
      intro n g' hn ht hT
      refine mg_iload_n K md_A_tryFailedAgain_10 rfl ?_
      refine mg_iload_n K md_A_tryFailedAgain_11 rfl ?_
      refine mg_icmp_ge K 40 md_A_tryFailedAgain_12 rfl (fun h12 => ?_) (fun h12 => ?_)
      · exact mg_vret K hret hlk md_A_tryFailedAgain_40 (Nat.le_refl _) (Nat.le_refl _) ⟨rfl, rfl, by rw [← hT]; rfl⟩
      · exact absurd ((mi_le (by omega) (by omega)).mpr (by omega)) h12
    | succ f ih =>
      intro n g' hn ht hT
      cases hx : ca_ln g' 3 with
      | nil =>
        rw [ca_retry_N hx] at hT
        refine mg_iload_n K md_A_tryFailedAgain_10 rfl ?_
        refine mg_iload_n K md_A_tryFailedAgain_11 rfl ?_
        refine mg_icmp_ge K 40 md_A_tryFailedAgain_12 rfl (fun h12 => ?_) (fun h12 => ?_)
        · exact absurd ((mi_le (by omega) (by omega)).mp h12) (by omega)
        · refine mg_aload_n K md_A_tryFailedAgain_15 rfl ?_
          refine mr_getS (k2 := 8) (i2 := 3) K mf_A_38 md_A_tryFailedAgain_16 Nat.zero_lt_one rfl ?_
          refine mg_iconst K (v := 0) md_A_tryFailedAgain_19 (by decide) ?_
          refine mr_cV K hA (ct_L_takeN hty g' q (x := 3) (n := 0) (by decide) (ht.ok.2.2.1 3) (by decide) (by rw [hx]; exact Nat.le_refl _)) ms_A_222 (by decide) md_A_tryFailedAgain_20 rfl rfl (by decide : 3 < 4) rfl (by decide) ⟨Nat.le_refl _, Nat.le_refl _⟩ ?_
          refine mg_astore_n K md_A_tryFailedAgain_23 (by decide) ?_
          refine mg_aload_n K md_A_tryFailedAgain_24 rfl ?_
          refine mg_ifnull K 34 md_A_tryFailedAgain_25 rfl (fun h25 => ?_) (fun h25 => ?_)
          · refine mg_iinc K (v := Int32.ofNat (n + 1)) md_A_tryFailedAgain_34 rfl (mi_a1 n) (by decide) ?_
            refine mg_goto K 10 md_A_tryFailedAgain_37 rfl ?_
            refine mg_take 3 ?_
            exact ih (n + 1) g' (by omega) ht hT
          · exact absurd rfl h25
      | cons j r =>
        have hjm : j ∈ ca_ln g' 3 := by rw [hx]; exact List.mem_cons_self
        have hj := ht.ok.2.1 3 j hjm
        have tk := ca_to.take ht.ok 3 0
        have he : (ca_ln g' 3).eraseIdx 0 = r := by rw [hx]; rfl
        rw [he] at tk
        rw [ca_retry_S hx] at hT
        have tt := ca_to.turn tk.ok true (j := j) hj
        refine mg_iload_n K md_A_tryFailedAgain_10 rfl ?_
        refine mg_iload_n K md_A_tryFailedAgain_11 rfl ?_
        refine mg_icmp_ge K 40 md_A_tryFailedAgain_12 rfl (fun h12 => ?_) (fun h12 => ?_)
        · exact absurd ((mi_le (by omega) (by omega)).mp h12) (by omega)
        · refine mg_aload_n K md_A_tryFailedAgain_15 rfl ?_
          refine mr_getS (k2 := 8) (i2 := 3) K mf_A_38 md_A_tryFailedAgain_16 Nat.zero_lt_one rfl ?_
          refine mg_iconst K (v := 0) md_A_tryFailedAgain_19 (by decide) ?_
          refine mr_cV K hA (ct_L_take hty g' q (x := 3) (n := 0) (j := j) (by decide) (ht.ok.2.2.1 3) (fun i hi => ht.ok.2.1 3 i hi) (by rw [hx]; rfl)) ms_A_222 (by decide) md_A_tryFailedAgain_20 rfl rfl (by decide : 3 < 4) rfl (by decide) ⟨Nat.le_refl _, Nat.le_refl _⟩ ?_
          rw [he]
          refine mg_astore_n K md_A_tryFailedAgain_23 (by decide) ?_
          refine mg_aload_n K md_A_tryFailedAgain_24 rfl ?_
          refine mg_ifnull K 34 md_A_tryFailedAgain_25 rfl (fun h25 => ?_) (fun h25 => ?_)
          · exact absurd h25 (fun z => by cases z)
          · refine mg_aload_n K md_A_tryFailedAgain_28 rfl ?_
            refine mg_aload_n K md_A_tryFailedAgain_29 rfl ?_
            refine mg_iconst K (v := 1) md_A_tryFailedAgain_30 (by decide) ?_
            refine mr_cV K hA (ct_A_turn hty (ca_sn g' 3 r) q true tk.ok hj) ms_A_184 (by decide) md_A_tryFailedAgain_31 rfl rfl Nat.zero_lt_one rfl (by decide) ⟨Nat.le_refl _, Nat.le_refl _⟩ ?_
            refine mg_iinc K (v := Int32.ofNat (n + 1)) md_A_tryFailedAgain_34 rfl (mi_a1 n) (by decide) ?_
            refine mg_goto K 10 md_A_tryFailedAgain_37 rfl ?_
            refine mg_take 3 ?_
            exact ih (n + 1) _ (by omega) (ht.tr (tk.tr tt)) hT
  refine mg_aload_n K md_A_tryFailedAgain_0 rfl ?_
  refine mr_getS (k2 := 8) (i2 := 3) K mf_A_38 md_A_tryFailedAgain_1 Nat.zero_lt_one rfl ?_
  refine mr_getI (v := Int32.ofNat (ca_ln g 3).length) K mf_A_109 md_A_tryFailedAgain_4 (by decide) (by decide : 3 < 4) rfl ?_
  refine mg_istore_n K md_A_tryFailedAgain_7 (by decide) ?_
  refine mg_iconst K (v := 0) md_A_tryFailedAgain_8 (by decide) ?_
  refine mg_istore_n K md_A_tryFailedAgain_9 (by decide) ?_
  exact loop (ca_ln g 3).length 0 g (by omega) (ca_to.rf hok) rfl
theorem ct_A_longs (hty : tys.map (·.2) = ma_ty) (g : ca_S) (q : mr_St) (hok : ca_ok g) : mr_M l my_A_endLongWaits mc_A_endLongWaits 3 none 3 D mn_cl Z mb_B tys ma_sh [va_rf (some (ad 0 0))] ad (ma_R g q) none (ma_R (ca_longs (ca_ln g 2).length g) q) := by
  have hle := hok.2.2.1 2
  refine mg_M.of (cc := mc_A_endLongWaits) (maxL := 3) (ret := none) (by decide) rfl (Nat.le_of_ble_eq_true rfl) (mg_caS rfl mg_ca0) ?_
  intro p e s m args below meth c K hret hlk hnm hA
  have loop : ∀ (n : Nat) (g' : ca_S), n ≤ 96 → ca_to g g' → ca_longs n g' = (ca_longs (ca_ln g 2).length g) → mg_G p l e (mg_rm 3 0 0) s m args below meth c D mn_cl Z (mg_A ad (mr_C tys ma_sh ad (ma_R g q)) s.heap.size) s.heap 3 (MQ below (mg_Qc D mn_cl Z ad (mr_C tys ma_sh ad (ma_R g q)) s.heap.size (mg_Po tys ma_sh ad none (ma_R (ca_longs (ca_ln g 2).length g) q))) args s 0 0 (mg_A ad (mr_C tys ma_sh ad (ma_R g q)) s.heap.size)) ad (mr_C tys ma_sh ad (ma_R g' q)) [some (va_rf (some (ad 0 0))), some (.int (Int32.ofNat n))] 0 0 [] 8 := by
    intro n
    induction n with
    | zero =>
      intro g' hn ht hT
      refine mg_iload_n K md_A_endLongWaits_8 rfl ?_
      refine mg_if_le K 68 md_A_endLongWaits_9 rfl (fun h9 => ?_) (fun h9 => ?_)
      · exact mg_vret K hret hlk md_A_endLongWaits_68 (Nat.le_refl _) (Nat.le_refl _) ⟨rfl, rfl, by rw [← hT]; rfl⟩
      · exact absurd ((mi_le (a := 0) (b := 0) (by omega) (by omega)).mpr (by omega)) h9
    | succ n ih =>
      intro g' hn ht hT
      cases hx : ca_ln g' 2 with
      | nil =>
        rw [ca_longs_N hx] at hT
        refine mg_iload_n K md_A_endLongWaits_8 rfl ?_
        refine mg_if_le K 68 md_A_endLongWaits_9 rfl (fun h9 => ?_) (fun h9 => ?_)
        · exact absurd ((mi_le (a := n + 1) (b := 0) (by omega) (by omega)).mp h9) (by omega)
        · refine mg_aload_n K md_A_endLongWaits_12 rfl ?_
          refine mr_getS (k2 := 8) (i2 := 2) K mf_A_35 md_A_endLongWaits_13 Nat.zero_lt_one rfl ?_
          refine mg_iconst K (v := 0) md_A_endLongWaits_16 (by decide) ?_
          refine mr_cV K hA (ct_L_get hty g' q (x := 2) (Int32.ofNat 0) (by decide) (ht.ok.2.2.1 2)) ms_A_225 (by decide) md_A_endLongWaits_17 rfl rfl (by decide : 2 < 4) rfl (by decide) ⟨Nat.le_refl _, Nat.le_refl _⟩ ?_
          rw [ca_at_o (n := 0) (by decide) (by rw [hx]; exact Nat.le_refl _)]
          refine mg_astore_n K md_A_endLongWaits_20 (by decide) ?_
          refine mg_aload_n K md_A_endLongWaits_21 rfl ?_
          refine mg_ifnull K 39 md_A_endLongWaits_22 rfl (fun h22 => ?_) (fun h22 => ?_)
          · exact mg_vret K hret hlk md_A_endLongWaits_39 (Nat.le_refl _) (Nat.le_refl _) ⟨rfl, rfl, by rw [← hT]⟩
          · exact absurd rfl h22
      | cons j r =>
        have hjm : j ∈ ca_ln g' 2 := by rw [hx]; exact List.mem_cons_self
        have hj := ht.ok.2.1 2 j hjm
        have tk := ca_to.take ht.ok 2 0
        have he : (ca_ln g' 2).eraseIdx 0 = r := by rw [hx]; rfl
        have h0 : (ca_ln g' 2)[0]? = some j := by rw [hx]; rfl
        rw [he] at tk
        have t2 := ca_to.si tk.ok 10 j 4 5 (by omega)
        have t3 := ca_to.app t2.ok 1 (j := j) hj
        rw [ca_longs_S hx] at hT
        refine mg_iload_n K md_A_endLongWaits_8 rfl ?_
        refine mg_if_le K 68 md_A_endLongWaits_9 rfl (fun h9 => ?_) (fun h9 => ?_)
        · exact absurd ((mi_le (a := n + 1) (b := 0) (by omega) (by omega)).mp h9) (by omega)
        · refine mg_aload_n K md_A_endLongWaits_12 rfl ?_
          refine mr_getS (k2 := 8) (i2 := 2) K mf_A_35 md_A_endLongWaits_13 Nat.zero_lt_one rfl ?_
          refine mg_iconst K (v := 0) md_A_endLongWaits_16 (by decide) ?_
          refine mr_cV K hA (ct_L_get hty g' q (x := 2) (Int32.ofNat 0) (by decide) (ht.ok.2.2.1 2)) ms_A_225 (by decide) md_A_endLongWaits_17 rfl rfl (by decide : 2 < 4) rfl (by decide) ⟨Nat.le_refl _, Nat.le_refl _⟩ ?_
          rw [ca_at_n (n := 0) (by decide) h0, mr_as]
          refine mg_astore_n K md_A_endLongWaits_20 (by decide) ?_
          refine mg_aload_n K md_A_endLongWaits_21 rfl ?_
          refine mg_ifnull K 39 md_A_endLongWaits_22 rfl (fun h22 => ?_) (fun h22 => ?_)
          · exact absurd h22 (fun z => by cases z)
          · refine mg_aload_n K md_A_endLongWaits_25 rfl ?_
            refine mr_getI (v := ca_iv g' 0 0 7) K mf_A_41 md_A_endLongWaits_26 (by decide) Nat.zero_lt_one rfl ?_
            refine mg_aload_n K md_A_endLongWaits_29 rfl ?_
            refine mr_getI (v := ca_iv g' 10 j 7) K mf_A_202 md_A_endLongWaits_30 (by decide) hj rfl ?_
            refine mg_isub K md_A_endLongWaits_33 ?_
            refine mg_bipush K (v := 50) md_A_endLongWaits_34 (by decide) ?_
            refine mg_icmp_gt K 40 md_A_endLongWaits_36 rfl (fun h36 => ?_) (fun h36 => ?_)
            · rw [if_neg (Int32.not_le.mpr h36)] at hT
              refine mg_aload_n K md_A_endLongWaits_40 rfl ?_
              refine mr_getS (k2 := 8) (i2 := 2) K mf_A_35 md_A_endLongWaits_41 Nat.zero_lt_one rfl ?_
              refine mg_iconst K (v := 0) md_A_endLongWaits_44 (by decide) ?_
              refine mr_cV K hA (ct_L_take hty g' q (x := 2) (n := 0) (j := j) (by decide) (ht.ok.2.2.1 2) (fun i hi => ht.ok.2.1 2 i hi) h0) ms_A_222 (by decide) md_A_endLongWaits_45 rfl rfl (by decide : 2 < 4) rfl (by decide) ⟨Nat.le_refl _, Nat.le_refl _⟩ ?_
              rw [he]
              refine mg_pop K md_A_endLongWaits_48 rfl ?_
              refine mg_aload_n K md_A_endLongWaits_49 rfl ?_
              refine mg_iconst K (v := 5) md_A_endLongWaits_50 (by decide) ?_
              refine mr_putI K mf_A_86 md_A_endLongWaits_51 hj ?_
              refine mr_eqr (ma_sI _ _ _ _ _ _ (by decide) (by decide)) ?_
              refine mg_aload_n K md_A_endLongWaits_54 rfl ?_
              refine mr_getS (k2 := 8) (i2 := 1) K mf_A_32 md_A_endLongWaits_55 Nat.zero_lt_one rfl ?_
              refine mg_aload_n K md_A_endLongWaits_58 rfl ?_
              refine mr_cV K hA (ct_L_append hty (ca_si (ca_sn g' 2 r) 10 j 4 5) q (x := 1) (by decide) hj (t2.ok.2.2.1 1)) ms_A_205 (by decide) md_A_endLongWaits_59 rfl rfl (by decide : 1 < 4) rfl (by decide) ⟨Nat.le_refl _, Nat.le_refl _⟩ ?_
              refine mg_iinc K (v := Int32.ofNat n) md_A_endLongWaits_62 rfl (mi_m1 n) (by decide) ?_
              refine mg_goto K 8 md_A_endLongWaits_65 rfl ?_
              refine mg_take 2 ?_
              exact ih _ (by omega) (ht.tr (tk.tr (t2.tr t3))) hT
            · rw [if_pos (Int32.not_lt.mp h36)] at hT
              exact mg_vret K hret hlk md_A_endLongWaits_39 (Nat.le_refl _) (Nat.le_refl _) ⟨rfl, rfl, by rw [← hT]⟩
  refine mg_aload_n K md_A_endLongWaits_0 rfl ?_
  refine mr_getS (k2 := 8) (i2 := 2) K mf_A_35 md_A_endLongWaits_1 Nat.zero_lt_one rfl ?_
  refine mr_getI (v := Int32.ofNat (ca_ln g 2).length) K mf_A_109 md_A_endLongWaits_4 (by decide) (by decide : 2 < 4) rfl ?_
  refine mg_istore_n K md_A_endLongWaits_7 (by decide) ?_
  exact loop (ca_ln g 2).length g hle (ca_to.rf hok) rfl
theorem ct_A_received (hty : tys.map (·.2) = ma_ty) (g : ca_S) (q : mr_St) {j : Nat} (hj : j < ca_nm g) : mr_M l my_A_received mc_A_received 1 (some .int) 1 D mn_cl Z mb_B tys ma_sh [va_rf (some (ad 10 j))] ad (ma_R g q) (some (.int (ca_recd g j))) (ma_R g q) := by
  refine mg_M.of (cc := mc_A_received) (maxL := 1) (ret := (some .int)) (by decide) rfl (Nat.le_of_ble_eq_true rfl) (mg_caS rfl mg_ca0) ?_
  intro p e s m args below meth c K hret hlk hnm hA
  refine mg_aload_n K md_A_received_0 rfl ?_
  refine mr_getI (v := ca_iv g 10 j 4) K mf_A_86 md_A_received_1 (by decide) hj rfl ?_
  by_cases hS4_1 : ca_iv g 10 j 4 = 1
  · refine mg_tabIn (off := 32) K 1 36 md_A_received_4 hS4_1 (by decide) (by decide) (by decide) rfl ?_
    refine mg_iconst K (v := 1) md_A_received_36 (by decide) ?_
    exact mg_iret K hret hlk md_A_received_37 (Nat.le_refl _) (Nat.le_refl _) ⟨by unfold ca_recd; simp only; rw [if_pos hS4_1], rfl, rfl⟩
  by_cases hS4_2 : ca_iv g 10 j 4 = 2
  · refine mg_tabIn (off := 38) K 2 42 md_A_received_4 hS4_2 (by decide) (by decide) (by decide) rfl ?_
    refine mg_aload_n K md_A_received_42 rfl ?_
    refine mr_getI (v := ca_iv g 10 j 5) K mf_A_89 md_A_received_43 (by decide) hj rfl ?_
    exact mg_iret K hret hlk md_A_received_46 (Nat.le_refl _) (Nat.le_refl _) ⟨by unfold ca_recd; simp only; rw [hS4_2]; rfl, rfl, rfl⟩
  by_cases hS4_3 : ca_iv g 10 j 4 = 3
  · refine mg_tabIn (off := 34) K 3 38 md_A_received_4 hS4_3 (by decide) (by decide) (by decide) rfl ?_
    refine mg_iconst K (v := 4) md_A_received_38 (by decide) ?_
    exact mg_iret K hret hlk md_A_received_39 (Nat.le_refl _) (Nat.le_refl _) ⟨by unfold ca_recd; simp only; rw [hS4_3]; rfl, rfl, rfl⟩
  by_cases hS4_4 : ca_iv g 10 j 4 = 4
  · refine mg_tabIn (off := 36) K 4 40 md_A_received_4 hS4_4 (by decide) (by decide) (by decide) rfl ?_
    refine mg_iconst K (v := 5) md_A_received_40 (by decide) ?_
    exact mg_iret K hret hlk md_A_received_41 (Nat.le_refl _) (Nat.le_refl _) ⟨by unfold ca_recd; simp only; rw [hS4_4]; rfl, rfl, rfl⟩
  have ehS4_1 : (ca_iv g 10 j 4).toInt ≠ 1 := fun z => hS4_1 (Int32.toInt_inj.mp z)
  have ehS4_2 : (ca_iv g 10 j 4).toInt ≠ 2 := fun z => hS4_2 (Int32.toInt_inj.mp z)
  have ehS4_3 : (ca_iv g 10 j 4).toInt ≠ 3 := fun z => hS4_3 (Int32.toInt_inj.mp z)
  have ehS4_4 : (ca_iv g 10 j 4).toInt ≠ 4 := fun z => hS4_4 (Int32.toInt_inj.mp z)
  refine mg_tabOut K 47 md_A_received_4 (by omega) rfl ?_
  refine mg_iconst K (v := 2) md_A_received_47 (by decide) ?_
  exact mg_iret K hret hlk md_A_received_48 (Nat.le_refl _) (Nat.le_refl _) ⟨by unfold ca_recd; simp only; rw [if_neg hS4_1, if_neg hS4_3, if_neg hS4_4, if_neg hS4_2], rfl, rfl⟩
theorem ct_A_nameAt (hty : tys.map (·.2) = ma_ty) (g : ca_S) (q : mr_St) {x : Nat} (i : Int32) (hx : x < 4) (hok : ca_ok g) : mr_M l my_A_nameAt mc_A_nameAt 3 (some .int) 2 D mn_cl Z mb_B tys ma_sh [va_rf (some (ad 8 x)), .int i] ad (ma_R g q) (some (.int (ca_nmAt g x i))) (ma_R g q) := by
  refine mg_M.of (cc := mc_A_nameAt) (maxL := 3) (ret := (some .int)) (by decide) rfl (Nat.le_of_ble_eq_true rfl) (mg_caS rfl (mg_caS rfl mg_ca0)) ?_
  intro p e s m args below meth c K hret hlk hnm hA
  cases hz : ca_at g x i with
  | none =>
    refine mg_aload_n K md_A_nameAt_0 rfl ?_
    refine mg_iload_n K md_A_nameAt_1 rfl ?_
    refine mr_cV K hA (ct_L_get hty g q i hx (hok.2.2.1 x)) ms_A_225 (by decide) md_A_nameAt_2 rfl rfl hx rfl (by decide) ⟨Nat.le_refl _, Nat.le_refl _⟩ ?_
    rw [hz]
    refine mg_astore_n K md_A_nameAt_5 (by decide) ?_
    refine mg_aload_n K md_A_nameAt_6 rfl ?_
    refine mg_ifnonnull K 14 md_A_nameAt_7 rfl (fun h7 => ?_) (fun h7 => ?_)
    · exact absurd rfl h7
    · refine mg_iconst K (v := -1) md_A_nameAt_10 (by decide) ?_
      refine mg_goto K 18 md_A_nameAt_11 rfl ?_
      exact mg_iret K hret hlk md_A_nameAt_18 (Nat.le_refl _) (Nat.le_refl _) ⟨by unfold ca_nmAt; rw [hz], rfl, rfl⟩
  | some z =>
    obtain ⟨j, hj, rfl⟩ := ca_at_some hok hz
    refine mg_aload_n K md_A_nameAt_0 rfl ?_
    refine mg_iload_n K md_A_nameAt_1 rfl ?_
    refine mr_cV K hA (ct_L_get hty g q i hx (hok.2.2.1 x)) ms_A_225 (by decide) md_A_nameAt_2 rfl rfl hx rfl (by decide) ⟨Nat.le_refl _, Nat.le_refl _⟩ ?_
    rw [hz, mr_as]
    refine mg_astore_n K md_A_nameAt_5 (by decide) ?_
    refine mg_aload_n K md_A_nameAt_6 rfl ?_
    refine mg_ifnonnull K 14 md_A_nameAt_7 rfl (fun h7 => ?_) (fun h7 => ?_)
    · refine mg_aload_n K md_A_nameAt_14 rfl ?_
      refine mr_getI (v := ca_iv g 10 j 0) K mf_A_226 md_A_nameAt_15 (by decide) hj rfl ?_
      exact mg_iret K hret hlk md_A_nameAt_18 (Nat.le_refl _) (Nat.le_refl _) ⟨by unfold ca_nmAt; rw [hz], rfl, rfl⟩
    · exact absurd h7 (fun z => by cases z)
end CA3
end
section
/-! the class: checks, and what throws -/
abbrev cv_s (x : Int32) : Prop := ¬ x < 0 ∧ ¬ 4 ≤ x
abbrev cv_n (x : Int32) : Prop := ¬ x < 1 ∧ ¬ 24 < x
abbrev cv_f (x : Int32) : Prop := ¬ x < 0 ∧ ¬ 5 ≤ x
abbrev cv_u (x : Int32) : Prop := ¬ x < 0 ∧ ¬ 16 ≤ x
abbrev cv_v (x : Int32) : Prop := ¬ x < -1000 ∧ ¬ 1000 < x
section CT0
variable {p : Program} {l : Launch} {e : Env} {R : Room} {s : State} {m : MethodId} {args : Array Value} {below : List Frame} {meth : Method} {c : Code} {Q : State → Prop}
variable {D : va_G} {cl : List vw_C} {Z : Nat × Cell} {tys : List (ClassId × FieldType)} {nL : Nat} {cc : ByteArray} {Ts : List Cond} {own : String}
variable {ad : mg_Ad} {sh : Nat → mr_Sh} {r : mr_St} {C : mg_Ct} {L : List (Option Value)} {cells slots pc : Nat} {st rest st0 : List Value}
theorem mr_getIO {B : Nat → Prop} (K : mg_K p m c cc nL s args Ts own D cl Z tys) (hW0 : mg_W D cl Z B ad (mr_C tys sh ad r) s.heap) {k i index f t : Nat} {ty : FieldType} {fin : Nat} {v : Int32} (hF : mr_Fd Ts cl sh own index k f t ty fin) (hd : decode cc pc = .ok (.getfield index, 3)) (ht : t ≠ 1) (hi : i < mr_pn r k) (hv : mr_iv r k i f = v) (kk : mg_G p l e R s m args below meth c D cl Z (mg_fr s.heap.size) s.heap nL Q ad C L cells slots (.int v :: st) (pc + 3)) : mg_G p l e R s m args below meth c D cl Z (mg_fr s.heap.size) s.heap nL Q ad C L cells slots (va_rf (some (ad k i)) :: st) pc := by
  obtain ⟨ci, fl, Cn, T, N, ty0, h1, h2, h3, h4, h5, h6, h7, h8, h9, h10, h11, h12⟩ := hF
  subst hv
  exact mg_getO K hW0 hd (mr_obj h1 hi) h2 h3 h6 h7 rfl ((mr_F_getI fl 0 f t _ _ h8 ht).trans (by rw [Nat.zero_add])) kk
theorem mr_getSO {B : Nat → Prop} (K : mg_K p m c cc nL s args Ts own D cl Z tys) (hW0 : mg_W D cl Z B ad (mr_C tys sh ad r) s.heap) {k i index f k2 i2 : Nat} {ty : FieldType} {fin : Nat} (hF : mr_Fd Ts cl sh own index k f 1 ty fin) (hd : decode cc pc = .ok (.getfield index, 3)) (hi : i < mr_pn r k) (hv : mr_rv r k i f = some (k2, i2)) (kk : mg_G p l e R s m args below meth c D cl Z (mg_fr s.heap.size) s.heap nL Q ad C L cells slots (va_rf (some (ad k2 i2)) :: st) (pc + 3)) : mg_G p l e R s m args below meth c D cl Z (mg_fr s.heap.size) s.heap nL Q ad C L cells slots (va_rf (some (ad k i)) :: st) pc := by
  obtain ⟨ci, fl, Cn, T, N, ty0, h1, h2, h3, h4, h5, h6, h7, h8, h9, h10, h11, h12⟩ := hF
  exact mg_getO K hW0 hd (mr_obj h1 hi) h2 h3 h6 h7 rfl ((mr_F_getR fl 0 f _ _ h8).trans (by rw [Nat.zero_add, hv]; rfl)) kk
theorem mr_aaldSO {B : Nat → Prop} (K : mg_K p m c cc nL s args Ts own D cl Z tys) (hW0 : mg_W D cl Z B ad (mr_C tys sh ad r) s.heap) {k i n t0 k2 i2 : Nat} {Cn : String} {x : Int32} (hk : sh k = .inr (t0, n, 2)) (ht : (tys[t0]?).map (·.2) = some (.object Cn)) (hd : decode cc pc = .ok (.aaload, 1)) (hi : i < mr_pn r k) (hin : vp_in x n) (hv : mr_rv r k i x.toNatClampNeg = some (k2, i2)) (kk : mg_G p l e R s m args below meth c D cl Z (mg_fr s.heap.size) s.heap nL Q ad C L cells slots (va_rf (some (ad k2 i2)) :: st) (pc + 1)) : mg_G p l e R s m args below meth c D cl Z (mg_fr s.heap.size) s.heap nL Q ad C L cells slots (.int x :: va_rf (some (ad k i)) :: st) pc := by
  refine mg_aaldO K hW0 t0 hd (mr_arR hk hi) (mr_tys ht) hin ?_
  rw [hv]
  exact kk
theorem mr_pass (K : mg_K p m c cc nL s args Ts own D cl Z tys) (hlk : meth.locks = false) (hno : c.exceptionTable.isEmpty = true) {y : MethodName} {bytes : ByteArray} {maxL index d' : Nat} {ret : Option FieldType} {As : List Value} {ad0 : mg_Ad} {Xn : String}
    (hM : mg_T l y [Cond.code y bytes maxL ret] (mg_rm d' 1 6) D cl Z Ts tys As ad0 mg_0 Xn) (hs : mr_Ss Ts own index y bytes maxL ret As.length) (hR : d' + 1 ≤ R.frames ∧ 19 + maxL + (30 * d' + 60) ≤ R.locals) (hd : decode cc pc = .ok (.invokestatic index, 3)) (hst : st0 = As.reverse ++ rest) (hrm : (rest.map fun v => v.category).sum ≤ 8) (hf : 1 ≤ R.cells ∧ 6 ≤ R.slots) :
    mg_G p l e R s m args below meth c D cl Z (mg_fr s.heap.size) s.heap nL (mg_MQT below (mg_QT s.heap.size Xn) args s 1 6 (mg_fr s.heap.size)) ad mg_0 L 0 0 st0 pc :=
  mg_passS K hlk hno hM ⟨hs.1.b K hR hs.2.1, K.1.2.2.2.2 _ hs.2.2⟩ hd hst rfl hrm hf
end CT0
section CT1
variable {l : Launch} {D : va_G} {Z : Nat × Cell} {tys : List (ClassId × FieldType)}
theorem ct_A_checkSender (x : Int32) (hx : cv_s x) : mr_MS l my_A_checkSender mc_A_checkSender 1 none 2 D mn_cl Z mb_B tys [.int x] none := by
  intro ad C
  refine mg_M.of (cc := mc_A_checkSender) (maxL := 1) (ret := none) (by decide) rfl (Nat.le_of_ble_eq_true rfl) (mg_caS rfl mg_ca0) ?_
  intro p e s m args below meth c K hret hlk hnm hA
  refine mg_iload_n K md_A_checkSender_0 rfl ?_
  refine mr_cP K hA (ct_A_isSender x) ms_A_156 (by decide) md_A_checkSender_1 rfl (by decide) ⟨Nat.zero_le _, Nat.zero_le _⟩ ?_
  rw [if_pos hx]
  refine mg_if_ne K 17 md_A_checkSender_4 rfl (fun h4 => ?_) (fun h4 => ?_)
  · exact mg_vret K hret hlk md_A_checkSender_17 (Nat.le_refl _) (Nat.le_refl _) ⟨rfl, rfl, rfl⟩
  · exact absurd h4 (by decide)
theorem th_A_checkSender (hfl : l.flags = pinnedFlags ++ [noTraceFlag]) (x : Int32) (hx : ¬ cv_s x) (ad : mg_Ad) (C : mg_Ct) : mg_T l my_A_checkSender [Cond.code my_A_checkSender mc_A_checkSender 1 none] (mg_rm 6 1 6) D mn_cl Z mb_B tys [.int x] ad C "java/lang/IllegalArgumentException" := by
  refine mg_T.of hfl (cc := mc_A_checkSender) (maxL := 1) (ret := none) (by decide) rfl (Nat.le_of_ble_eq_true rfl) (mg_caS rfl mg_ca0) ?_
  intro p e s m args below meth c K hlk hno htr hW0
  refine mg_iload_n K md_A_checkSender_0 rfl ?_
  refine mr_cP K (fun q h => h) (ct_A_isSender x) ms_A_156 (by decide) md_A_checkSender_1 rfl (by decide) ⟨Nat.zero_le _, Nat.zero_le _⟩ ?_
  rw [if_neg hx]
  refine mg_if_ne K 17 md_A_checkSender_4 rfl (fun h4 => ?_) (fun h4 => ?_)
  · exact absurd rfl h4
  · exact mg_throw K hlk hno htr ["java/lang/RuntimeException", "java/lang/Exception"] md_A_checkSender_7 md_A_checkSender_10 md_A_checkSender_11 md_A_checkSender_13 md_A_checkSender_16 mw_A_102.1 mw_A_102.2 (by decide) (by decide) mo_iae mk_A_166 (by decide) (by decide) (by decide) (by decide)
theorem ct_A_checkNumber (x : Int32) (hx : cv_n x) : mr_MS l my_A_checkNumber mc_A_checkNumber 1 none 2 D mn_cl Z mb_B tys [.int x] none := by
  intro ad C
  refine mg_M.of (cc := mc_A_checkNumber) (maxL := 1) (ret := none) (by decide) rfl (Nat.le_of_ble_eq_true rfl) (mg_caS rfl mg_ca0) ?_
  intro p e s m args below meth c K hret hlk hnm hA
  refine mg_iload_n K md_A_checkNumber_0 rfl ?_
  refine mr_cP K hA (ct_A_isNumber x) ms_A_168 (by decide) md_A_checkNumber_1 rfl (by decide) ⟨Nat.zero_le _, Nat.zero_le _⟩ ?_
  rw [if_pos hx]
  refine mg_if_ne K 17 md_A_checkNumber_4 rfl (fun h4 => ?_) (fun h4 => ?_)
  · exact mg_vret K hret hlk md_A_checkNumber_17 (Nat.le_refl _) (Nat.le_refl _) ⟨rfl, rfl, rfl⟩
  · exact absurd h4 (by decide)
theorem th_A_checkNumber (hfl : l.flags = pinnedFlags ++ [noTraceFlag]) (x : Int32) (hx : ¬ cv_n x) (ad : mg_Ad) (C : mg_Ct) : mg_T l my_A_checkNumber [Cond.code my_A_checkNumber mc_A_checkNumber 1 none] (mg_rm 6 1 6) D mn_cl Z mb_B tys [.int x] ad C "java/lang/IllegalArgumentException" := by
  refine mg_T.of hfl (cc := mc_A_checkNumber) (maxL := 1) (ret := none) (by decide) rfl (Nat.le_of_ble_eq_true rfl) (mg_caS rfl mg_ca0) ?_
  intro p e s m args below meth c K hlk hno htr hW0
  refine mg_iload_n K md_A_checkNumber_0 rfl ?_
  refine mr_cP K (fun q h => h) (ct_A_isNumber x) ms_A_168 (by decide) md_A_checkNumber_1 rfl (by decide) ⟨Nat.zero_le _, Nat.zero_le _⟩ ?_
  rw [if_neg hx]
  refine mg_if_ne K 17 md_A_checkNumber_4 rfl (fun h4 => ?_) (fun h4 => ?_)
  · exact absurd rfl h4
  · exact mg_throw K hlk hno htr ["java/lang/RuntimeException", "java/lang/Exception"] md_A_checkNumber_7 md_A_checkNumber_10 md_A_checkNumber_11 md_A_checkNumber_13 md_A_checkNumber_16 mw_A_102.1 mw_A_102.2 (by decide) (by decide) mo_iae mk_A_171 (by decide) (by decide) (by decide) (by decide)
theorem ct_A_checkContent (x y z : Int32) (hx : cv_f x) (hy : cv_u y) (hz : cv_v z) : mr_MS l my_A_checkContent mc_A_checkContent 3 none 2 D mn_cl Z mb_B tys [.int x, .int y, .int z] none := by
  intro ad C
  refine mg_M.of (cc := mc_A_checkContent) (maxL := 3) (ret := none) (by decide) rfl (Nat.le_of_ble_eq_true rfl) (mg_caS rfl (mg_caS rfl (mg_caS rfl mg_ca0))) ?_
  intro p e s m args below meth c K hret hlk hnm hA
  refine mg_iload_n K md_A_checkContent_0 rfl ?_
  refine mr_cP K hA (ct_A_isFunction x) ms_A_98 (by decide) md_A_checkContent_1 rfl (by decide) ⟨Nat.zero_le _, Nat.zero_le _⟩ ?_
  rw [if_pos hx]
  refine mg_if_eq K 24 md_A_checkContent_4 rfl (fun h4 => ?_) (fun h4 => ?_)
  · exact absurd h4 (by decide)
  · refine mg_iload_n K md_A_checkContent_7 rfl ?_
    refine mr_cP K hA (ct_A_isSubject y) ms_A_92 (by decide) md_A_checkContent_8 rfl (by decide) ⟨Nat.zero_le _, Nat.zero_le _⟩ ?_
    rw [if_pos hy]
    refine mg_if_eq K 24 md_A_checkContent_11 rfl (fun h11 => ?_) (fun h11 => ?_)
    · exact absurd h11 (by decide)
    · refine mg_iload_n K md_A_checkContent_14 rfl ?_
      refine mg_sipush K (v := 1000) md_A_checkContent_15 (by decide) ?_
      refine mr_cP K hA (ct_A_isWithin z 1000) ms_A_173 (by decide) md_A_checkContent_18 rfl (by decide) ⟨Nat.zero_le _, Nat.zero_le _⟩ ?_
      rw [if_pos hz]
      refine mg_if_ne K 34 md_A_checkContent_21 rfl (fun h21 => ?_) (fun h21 => ?_)
      · exact mg_vret K hret hlk md_A_checkContent_34 (Nat.le_refl _) (Nat.le_refl _) ⟨rfl, rfl, rfl⟩
      · exact absurd h21 (by decide)
theorem th_A_checkContent (hfl : l.flags = pinnedFlags ++ [noTraceFlag]) (x y z : Int32) (h : ¬ (cv_f x ∧ cv_u y ∧ cv_v z)) (ad : mg_Ad) (C : mg_Ct) : mg_T l my_A_checkContent [Cond.code my_A_checkContent mc_A_checkContent 3 none] (mg_rm 6 1 6) D mn_cl Z mb_B tys [.int x, .int y, .int z] ad C "java/lang/IllegalArgumentException" := by
  refine mg_T.of hfl (cc := mc_A_checkContent) (maxL := 3) (ret := none) (by decide) rfl (Nat.le_of_ble_eq_true rfl) (mg_caS rfl (mg_caS rfl (mg_caS rfl mg_ca0))) ?_
  intro p e s m args below meth c K hlk hno htr hW0
  by_cases hx : cv_f x
  · by_cases hy : cv_u y
    · refine mg_iload_n K md_A_checkContent_0 rfl ?_
      refine mr_cP K (fun q h => h) (ct_A_isFunction x) ms_A_98 (by decide) md_A_checkContent_1 rfl (by decide) ⟨Nat.zero_le _, Nat.zero_le _⟩ ?_
      rw [if_pos hx]
      refine mg_if_eq K 24 md_A_checkContent_4 rfl (fun h4 => ?_) (fun h4 => ?_)
      · exact absurd h4 (by decide)
      · refine mg_iload_n K md_A_checkContent_7 rfl ?_
        refine mr_cP K (fun q h => h) (ct_A_isSubject y) ms_A_92 (by decide) md_A_checkContent_8 rfl (by decide) ⟨Nat.zero_le _, Nat.zero_le _⟩ ?_
        rw [if_pos hy]
        refine mg_if_eq K 24 md_A_checkContent_11 rfl (fun h11 => ?_) (fun h11 => ?_)
        · exact absurd h11 (by decide)
        · refine mg_iload_n K md_A_checkContent_14 rfl ?_
          refine mg_sipush K (v := 1000) md_A_checkContent_15 (by decide) ?_
          refine mr_cP K (fun q h => h) (ct_A_isWithin z 1000) ms_A_173 (by decide) md_A_checkContent_18 rfl (by decide) ⟨Nat.zero_le _, Nat.zero_le _⟩ ?_
          rw [if_neg (fun hz => h ⟨hx, hy, hz⟩)]
          refine mg_if_ne K 34 md_A_checkContent_21 rfl (fun h21 => ?_) (fun h21 => ?_)
          · exact absurd rfl h21
          · exact mg_throw K hlk hno htr ["java/lang/RuntimeException", "java/lang/Exception"] md_A_checkContent_24 md_A_checkContent_27 md_A_checkContent_28 md_A_checkContent_30 md_A_checkContent_33 mw_A_102.1 mw_A_102.2 (by decide) (by decide) mo_iae mk_A_176 (by decide) (by decide) (by decide) (by decide)
    · refine mg_iload_n K md_A_checkContent_0 rfl ?_
      refine mr_cP K (fun q h => h) (ct_A_isFunction x) ms_A_98 (by decide) md_A_checkContent_1 rfl (by decide) ⟨Nat.zero_le _, Nat.zero_le _⟩ ?_
      rw [if_pos hx]
      refine mg_if_eq K 24 md_A_checkContent_4 rfl (fun h4 => ?_) (fun h4 => ?_)
      · exact absurd h4 (by decide)
      · refine mg_iload_n K md_A_checkContent_7 rfl ?_
        refine mr_cP K (fun q h => h) (ct_A_isSubject y) ms_A_92 (by decide) md_A_checkContent_8 rfl (by decide) ⟨Nat.zero_le _, Nat.zero_le _⟩ ?_
        rw [if_neg hy]
        refine mg_if_eq K 24 md_A_checkContent_11 rfl (fun h11 => ?_) (fun h11 => ?_)
        · exact mg_throw K hlk hno htr ["java/lang/RuntimeException", "java/lang/Exception"] md_A_checkContent_24 md_A_checkContent_27 md_A_checkContent_28 md_A_checkContent_30 md_A_checkContent_33 mw_A_102.1 mw_A_102.2 (by decide) (by decide) mo_iae mk_A_176 (by decide) (by decide) (by decide) (by decide)
        · exact absurd rfl h11
  · refine mg_iload_n K md_A_checkContent_0 rfl ?_
    refine mr_cP K (fun q h => h) (ct_A_isFunction x) ms_A_98 (by decide) md_A_checkContent_1 rfl (by decide) ⟨Nat.zero_le _, Nat.zero_le _⟩ ?_
    rw [if_neg hx]
    refine mg_if_eq K 24 md_A_checkContent_4 rfl (fun h4 => ?_) (fun h4 => ?_)
    · exact mg_throw K hlk hno htr ["java/lang/RuntimeException", "java/lang/Exception"] md_A_checkContent_24 md_A_checkContent_27 md_A_checkContent_28 md_A_checkContent_30 md_A_checkContent_33 mw_A_102.1 mw_A_102.2 (by decide) (by decide) mo_iae mk_A_176 (by decide) (by decide) (by decide) (by decide)
    · exact absurd rfl h4
end CT1
section CT2
variable {l : Launch} {D : va_G} {Z : Nat × Cell} {tys : List (ClassId × FieldType)} {ad : mg_Ad}
theorem th_A_receive (hfl : l.flags = pinnedFlags ++ [noTraceFlag]) (C : mg_Ct) (a b c2 d2 v : Int32) (h : ¬ (cv_s a ∧ cv_n b ∧ (cv_f c2 ∧ cv_u d2 ∧ cv_v v))) : mg_T l my_A_receive [Cond.code my_A_receive mc_A_receive 8 (some .int)] (mg_rm 7 1 6) D mn_cl Z mb_B tys [va_rf (some (ad 0 0)), .int a, .int b, .int c2, .int d2, .int v] ad C "java/lang/IllegalArgumentException" := by
  refine mg_T.of hfl (cc := mc_A_receive) (maxL := 8) (ret := (some .int)) (by decide) rfl (Nat.le_of_ble_eq_true rfl) (mg_caS rfl (mg_caS rfl (mg_caS rfl (mg_caS rfl (mg_caS rfl (mg_caS rfl mg_ca0)))))) ?_
  intro p e s m args below meth c K hlk hno htr hW0
  by_cases hc0 : cv_s a
  case neg =>
    refine mg_iload_n K md_A_receive_0 rfl ?_
    exact mr_pass K hlk hno (th_A_checkSender hfl a hc0 ad mg_0) ms_A_50 (by decide) md_A_receive_1 rfl (by decide) ⟨by decide, by decide⟩
  by_cases hc1 : cv_n b
  case neg =>
    refine mg_iload_n K md_A_receive_0 rfl ?_
    refine mr_cP K (fun q h => h) (ct_A_checkSender a hc0) ms_A_50 (by decide) md_A_receive_1 rfl (by decide) ⟨Nat.zero_le _, Nat.zero_le _⟩ ?_
    refine mg_iload_n K md_A_receive_4 rfl ?_
    exact mr_pass K hlk hno (th_A_checkNumber hfl b hc1 ad mg_0) ms_A_54 (by decide) md_A_receive_5 rfl (by decide) ⟨by decide, by decide⟩
  refine mg_iload_n K md_A_receive_0 rfl ?_
  refine mr_cP K (fun q h => h) (ct_A_checkSender a hc0) ms_A_50 (by decide) md_A_receive_1 rfl (by decide) ⟨Nat.zero_le _, Nat.zero_le _⟩ ?_
  refine mg_iload_n K md_A_receive_4 rfl ?_
  refine mr_cP K (fun q h => h) (ct_A_checkNumber b hc1) ms_A_54 (by decide) md_A_receive_5 rfl (by decide) ⟨Nat.zero_le _, Nat.zero_le _⟩ ?_
  refine mg_iload_n K md_A_receive_8 rfl ?_
  refine mg_iload K md_A_receive_9 rfl ?_
  refine mg_iload K md_A_receive_11 rfl ?_
  exact mr_pass K hlk hno (th_A_checkContent hfl c2 d2 v (fun z => h ⟨hc0, hc1, z⟩) ad mg_0) ms_A_57 (by decide) md_A_receive_13 rfl (by decide) ⟨by decide, by decide⟩
theorem th_A_status (hfl : l.flags = pinnedFlags ++ [noTraceFlag]) (C : mg_Ct) (a b : Int32) (h : ¬ (cv_s a ∧ cv_n b)) : mg_T l my_A_status [Cond.code my_A_status mc_A_status 4 (some .int)] (mg_rm 7 1 6) D mn_cl Z mb_B tys [va_rf (some (ad 0 0)), .int a, .int b] ad C "java/lang/IllegalArgumentException" := by
  refine mg_T.of hfl (cc := mc_A_status) (maxL := 4) (ret := (some .int)) (by decide) rfl (Nat.le_of_ble_eq_true rfl) (mg_caS rfl (mg_caS rfl (mg_caS rfl mg_ca0))) ?_
  intro p e s m args below meth c K hlk hno htr hW0
  by_cases hc0 : cv_s a
  case neg =>
    refine mg_iload_n K md_A_status_0 rfl ?_
    exact mr_pass K hlk hno (th_A_checkSender hfl a hc0 ad mg_0) ms_A_50 (by decide) md_A_status_1 rfl (by decide) ⟨by decide, by decide⟩
  refine mg_iload_n K md_A_status_0 rfl ?_
  refine mr_cP K (fun q h => h) (ct_A_checkSender a hc0) ms_A_50 (by decide) md_A_status_1 rfl (by decide) ⟨Nat.zero_le _, Nat.zero_le _⟩ ?_
  refine mg_iload_n K md_A_status_4 rfl ?_
  exact mr_pass K hlk hno (th_A_checkNumber hfl b (fun z => h ⟨hc0, z⟩) ad mg_0) ms_A_54 (by decide) md_A_status_5 rfl (by decide) ⟨by decide, by decide⟩
theorem th_A_answer (hfl : l.flags = pinnedFlags ++ [noTraceFlag]) (C : mg_Ct) (a b : Int32) (h : ¬ (cv_s a ∧ cv_n b)) : mg_T l my_A_answer [Cond.code my_A_answer mc_A_answer 4 (some .int)] (mg_rm 7 1 6) D mn_cl Z mb_B tys [va_rf (some (ad 0 0)), .int a, .int b] ad C "java/lang/IllegalArgumentException" := by
  refine mg_T.of hfl (cc := mc_A_answer) (maxL := 4) (ret := (some .int)) (by decide) rfl (Nat.le_of_ble_eq_true rfl) (mg_caS rfl (mg_caS rfl (mg_caS rfl mg_ca0))) ?_
  intro p e s m args below meth c K hlk hno htr hW0
  by_cases hc0 : cv_s a
  case neg =>
    refine mg_iload_n K md_A_answer_0 rfl ?_
    exact mr_pass K hlk hno (th_A_checkSender hfl a hc0 ad mg_0) ms_A_50 (by decide) md_A_answer_1 rfl (by decide) ⟨by decide, by decide⟩
  refine mg_iload_n K md_A_answer_0 rfl ?_
  refine mr_cP K (fun q h => h) (ct_A_checkSender a hc0) ms_A_50 (by decide) md_A_answer_1 rfl (by decide) ⟨Nat.zero_le _, Nat.zero_le _⟩ ?_
  refine mg_iload_n K md_A_answer_4 rfl ?_
  exact mr_pass K hlk hno (th_A_checkNumber hfl b (fun z => h ⟨hc0, z⟩) ad mg_0) ms_A_54 (by decide) md_A_answer_5 rfl (by decide) ⟨by decide, by decide⟩
theorem th_A_replay (hfl : l.flags = pinnedFlags ++ [noTraceFlag]) (C : mg_Ct) (a b : Int32) (h : ¬ (cv_s a ∧ cv_n b)) : mg_T l my_A_replay [Cond.code my_A_replay mc_A_replay 7 (some .int)] (mg_rm 7 1 6) D mn_cl Z mb_B tys [va_rf (some (ad 0 0)), .int a, .int b] ad C "java/lang/IllegalArgumentException" := by
  refine mg_T.of hfl (cc := mc_A_replay) (maxL := 7) (ret := (some .int)) (by decide) rfl (Nat.le_of_ble_eq_true rfl) (mg_caS rfl (mg_caS rfl (mg_caS rfl mg_ca0))) ?_
  intro p e s m args below meth c K hlk hno htr hW0
  by_cases hc0 : cv_s a
  case neg =>
    refine mg_iload_n K md_A_replay_0 rfl ?_
    exact mr_pass K hlk hno (th_A_checkSender hfl a hc0 ad mg_0) ms_A_50 (by decide) md_A_replay_1 rfl (by decide) ⟨by decide, by decide⟩
  refine mg_iload_n K md_A_replay_0 rfl ?_
  refine mr_cP K (fun q h => h) (ct_A_checkSender a hc0) ms_A_50 (by decide) md_A_replay_1 rfl (by decide) ⟨Nat.zero_le _, Nat.zero_le _⟩ ?_
  refine mg_iload_n K md_A_replay_4 rfl ?_
  exact mr_pass K hlk hno (th_A_checkNumber hfl b (fun z => h ⟨hc0, z⟩) ad mg_0) ms_A_54 (by decide) md_A_replay_5 rfl (by decide) ⟨by decide, by decide⟩
theorem th_A_skip (hfl : l.flags = pinnedFlags ++ [noTraceFlag]) (C : mg_Ct) (a : Int32) (h : ¬ (cv_s a)) : mg_T l my_A_skip [Cond.code my_A_skip mc_A_skip 4 (some .int)] (mg_rm 7 1 6) D mn_cl Z mb_B tys [va_rf (some (ad 0 0)), .int a] ad C "java/lang/IllegalArgumentException" := by
  refine mg_T.of hfl (cc := mc_A_skip) (maxL := 4) (ret := (some .int)) (by decide) rfl (Nat.le_of_ble_eq_true rfl) (mg_caS rfl (mg_caS rfl mg_ca0)) ?_
  intro p e s m args below meth c K hlk hno htr hW0
  refine mg_iload_n K md_A_skip_0 rfl ?_
  exact mr_pass K hlk hno (th_A_checkSender hfl a (fun z => h z) ad mg_0) ms_A_50 (by decide) md_A_skip_1 rfl (by decide) ⟨by decide, by decide⟩
theorem th_A_cut (hfl : l.flags = pinnedFlags ++ [noTraceFlag]) (C : mg_Ct) (a : Int32) (h : ¬ (cv_s a)) : mg_T l my_A_cut [Cond.code my_A_cut mc_A_cut 2 (some .int)] (mg_rm 7 1 6) D mn_cl Z mb_B tys [va_rf (some (ad 0 0)), .int a] ad C "java/lang/IllegalArgumentException" := by
  refine mg_T.of hfl (cc := mc_A_cut) (maxL := 2) (ret := (some .int)) (by decide) rfl (Nat.le_of_ble_eq_true rfl) (mg_caS rfl (mg_caS rfl mg_ca0)) ?_
  intro p e s m args below meth c K hlk hno htr hW0
  refine mg_iload_n K md_A_cut_0 rfl ?_
  exact mr_pass K hlk hno (th_A_checkSender hfl a (fun z => h z) ad mg_0) ms_A_50 (by decide) md_A_cut_1 rfl (by decide) ⟨by decide, by decide⟩
theorem th_A_tick (hfl : l.flags = pinnedFlags ++ [noTraceFlag]) (g : ca_S) (q : mr_St) (t : Int32) (h : ¬ (¬ t < ca_iv g 0 0 7 ∧ ¬ 100000 < t)) : mg_T l my_A_tick [Cond.code my_A_tick mc_A_tick 3 (some .int)] (mg_rm 7 1 6) D mn_cl Z mb_B tys [va_rf (some (ad 0 0)), .int t] ad (mr_C tys ma_sh ad (ma_R g q)) "java/lang/IllegalArgumentException" := by
  refine mg_T.of hfl (cc := mc_A_tick) (maxL := 3) (ret := (some .int)) (by decide) rfl (Nat.le_of_ble_eq_true rfl) (mg_caS rfl (mg_caS rfl mg_ca0)) ?_
  intro p e s m args below meth c K hlk hno htr hW0
  refine mg_iload_n K md_A_tick_0 rfl ?_
  refine mg_aload_n K md_A_tick_1 rfl ?_
  refine mr_getIO (r := ma_R g q) (v := ca_iv g 0 0 7) K hW0 mf_A_41 md_A_tick_2 (by decide) Nat.zero_lt_one rfl ?_
  refine mg_icmp_lt K 14 md_A_tick_5 rfl (fun h5 => ?_) (fun h5 => ?_)
  · exact mg_throw K hlk hno htr ["java/lang/RuntimeException", "java/lang/Exception"] md_A_tick_14 md_A_tick_17 md_A_tick_18 md_A_tick_20 md_A_tick_23 mw_A_102.1 mw_A_102.2 (by decide) (by decide) mo_iae mk_A_104 (by decide) (by decide) (by decide) (by decide)
  · refine mg_iload_n K md_A_tick_8 rfl ?_
    refine mg_ldc K md_A_tick_9 mk_A_101 ?_
    refine mg_icmp_le K 24 md_A_tick_11 rfl (fun h11 => ?_) (fun h11 => ?_)
    · exact absurd ⟨h5, Int32.not_lt.mpr h11⟩ h
    · exact mg_throw K hlk hno htr ["java/lang/RuntimeException", "java/lang/Exception"] md_A_tick_14 md_A_tick_17 md_A_tick_18 md_A_tick_20 md_A_tick_23 mw_A_102.1 mw_A_102.2 (by decide) (by decide) mo_iae mk_A_104 (by decide) (by decide) (by decide) (by decide)
theorem th_A_look (hfl : l.flags = pinnedFlags ++ [noTraceFlag]) (hty : tys.map (·.2) = ma_ty) (g : ca_S) (q : mr_St) (u w : Int32) (h : ¬ (cv_u u ∧ ¬ w < 0 ∧ ¬ 4 ≤ w)) : mg_T l my_A_look [Cond.code my_A_look mc_A_look 4 (some .int)] (mg_rm 7 1 6) D mn_cl Z mb_B tys [va_rf (some (ad 0 0)), .int u, .int w] ad (mr_C tys ma_sh ad (ma_R g q)) "java/lang/IndexOutOfBoundsException" := by
  refine mg_T.of hfl (cc := mc_A_look) (maxL := 4) (ret := (some .int)) (by decide) rfl (Nat.le_of_ble_eq_true rfl) (mg_caS rfl (mg_caS rfl (mg_caS rfl mg_ca0))) ?_
  intro p e s m args below meth c K hlk hno htr hW0
  by_cases hu : cv_u u
  case neg =>
    refine mg_iload_n K md_A_look_0 rfl ?_
    refine mr_cP K (fun q h => h) (ct_A_isSubject u) ms_A_92 (by decide) md_A_look_1 rfl (by decide) ⟨Nat.zero_le _, Nat.zero_le _⟩ ?_
    rw [if_neg hu]
    refine mg_if_ne K 17 md_A_look_4 rfl (fun h4 => ?_) (fun h4 => ?_)
    · exact absurd rfl h4
    · exact mg_throw K hlk hno htr ["java/lang/RuntimeException", "java/lang/Exception"] md_A_look_7 md_A_look_10 md_A_look_11 md_A_look_13 md_A_look_16 mw_A_136.1 mw_A_136.2 (by decide) (by decide) mo_ioob mk_A_138 (by decide) (by decide) (by decide) (by decide)
  obtain ⟨n, hn, rfl⟩ := mi_ex hu.1
  have hn16 : n < 16 := by have := mt (mi_le (a := 16) (b := n) (by omega) hn).mpr hu.2; omega
  refine mg_iload_n K md_A_look_0 rfl ?_
  refine mr_cP K (fun q h => h) (ct_A_isSubject (Int32.ofNat n)) ms_A_92 (by decide) md_A_look_1 rfl (by decide) ⟨Nat.zero_le _, Nat.zero_le _⟩ ?_
  rw [if_pos hu]
  refine mg_if_ne K 17 md_A_look_4 rfl (fun h4 => ?_) (fun h4 => ?_)
  · refine mg_aload_n K md_A_look_17 rfl ?_
    refine mr_getSO (r := ma_R g q) (k2 := 2) (i2 := 0) K hW0 mf_A_17 md_A_look_18 Nat.zero_lt_one rfl ?_
    refine mg_iload_n K md_A_look_21 rfl ?_
    refine mr_aaldSO (r := ma_R g q) (k2 := 7) (i2 := n) K hW0 rfl (ma_t hty 1) md_A_look_22 Nat.zero_lt_one (mi_vn hn hn16) (by rw [mi_tn hn]; exact ma_sub hn16 g q) ?_
    refine mg_astore_n K md_A_look_23 (by decide) ?_
    refine mg_iload_n K md_A_look_24 rfl ?_
    by_cases hS25_0 : w = 0
    · exact absurd ⟨hu, by rw [hS25_0]; decide, by rw [hS25_0]; decide⟩ h
    by_cases hS25_1 : w = 1
    · exact absurd ⟨hu, by rw [hS25_1]; decide, by rw [hS25_1]; decide⟩ h
    by_cases hS25_2 : w = 2
    · exact absurd ⟨hu, by rw [hS25_2]; decide, by rw [hS25_2]; decide⟩ h
    by_cases hS25_3 : w = 3
    · exact absurd ⟨hu, by rw [hS25_3]; decide, by rw [hS25_3]; decide⟩ h
    have ehS25_0 : (w).toInt ≠ 0 := fun z => hS25_0 (Int32.toInt_inj.mp z)
    have ehS25_1 : (w).toInt ≠ 1 := fun z => hS25_1 (Int32.toInt_inj.mp z)
    have ehS25_2 : (w).toInt ≠ 2 := fun z => hS25_2 (Int32.toInt_inj.mp z)
    have ehS25_3 : (w).toInt ≠ 3 := fun z => hS25_3 (Int32.toInt_inj.mp z)
    refine mg_tabOut K 80 md_A_look_25 (by omega) rfl ?_
    exact mg_throw K hlk hno htr ["java/lang/RuntimeException", "java/lang/Exception"] md_A_look_80 md_A_look_83 md_A_look_84 md_A_look_86 md_A_look_89 mw_A_136.1 mw_A_136.2 (by decide) (by decide) mo_ioob mk_A_150 (by decide) (by decide) (by decide) (by decide)
  · exact absurd h4 (by decide)
end CT2
end
section
/-! the class: its public methods, where they return -/
theorem mi_vs {s : Nat} (h : s < 4) : cv_s (Int32.ofNat s) := ⟨mi_nn (by omega), fun z => by have := (mi_le (a := 4) (b := s) (by omega) (by omega)).mp z; omega⟩
theorem mi_vN {n : Nat} (h1 : 1 ≤ n) (h2 : n ≤ 24) : cv_n (Int32.ofNat n) := ⟨fun z => by have := (mi_lt (a := n) (b := 1) (by omega) (by omega)).mp z; omega, fun z => by have := (mi_lt (a := 24) (b := n) (by omega) (by omega)).mp z; omega⟩
theorem mi_vu {u : Nat} (h : u < 16) : cv_u (Int32.ofNat u) := ⟨mi_nn (by omega), fun z => by have := (mi_le (a := 16) (b := u) (by omega) (by omega)).mp z; omega⟩
theorem cv_s_ex {x : Int32} (h : cv_s x) : ∃ s : Nat, s < 4 ∧ x = Int32.ofNat s := by
  obtain ⟨n, hn, rfl⟩ := mi_ex h.1
  exact ⟨n, by have := mt (mi_le (a := 4) (b := n) (by omega) hn).mpr h.2; omega, rfl⟩
theorem cv_u_ex {x : Int32} (h : cv_u x) : ∃ s : Nat, s < 16 ∧ x = Int32.ofNat s := by
  obtain ⟨n, hn, rfl⟩ := mi_ex h.1
  exact ⟨n, by have := mt (mi_le (a := 16) (b := n) (by omega) hn).mpr h.2; omega, rfl⟩
theorem cv_f_ex {x : Int32} (h : cv_f x) : ∃ s : Nat, s < 5 ∧ x = Int32.ofNat s := by
  obtain ⟨n, hn, rfl⟩ := mi_ex h.1
  exact ⟨n, by have := mt (mi_le (a := 5) (b := n) (by omega) hn).mpr h.2; omega, rfl⟩
theorem cv_n_ex {x : Int32} (h : cv_n x) : ∃ s : Nat, 1 ≤ s ∧ s ≤ 24 ∧ x = Int32.ofNat s := by
  have h0 : ¬ x < 0 := fun z => h.1 (Int32.lt_iff_toInt_lt.mpr (by have := Int32.lt_iff_toInt_lt.mp z; have e0 : (0 : Int32).toInt = 0 := rfl; have e1 : (1 : Int32).toInt = 1 := rfl; omega))
  obtain ⟨n, hn, rfl⟩ := mi_ex h0
  exact ⟨n, by have := mt (mi_lt (a := n) (b := 1) hn (by omega)).mpr h.1; omega, by have := mt (mi_lt (a := 24) (b := n) (by omega) hn).mpr h.2; omega, rfl⟩
def ca_stat (g : ca_S) (s n : Nat) : Int32 := match ca_tb g s n with
  | none => -1
  | some j => ca_iv g 10 j 4
def ca_answ (g : ca_S) (s n : Nat) : Int32 := match ca_tb g s n with
  | none => 0
  | some j => ca_iv g 10 j 5
abbrev ca_ptP (g : ca_S) (u : Int32) : Prop := cv_u u ∧ ca_iv g 7 u.toNatClampNeg 0 = 1
abbrev ca_flP (g : ca_S) (f b : Int32) : Prop := cv_f f ∧ ¬ ca_iv g 3 0 f.toNatClampNeg = b
def ca_pt (g : ca_S) (u : Int32) : ca_S := if ca_ptP g u then ca_si g 7 u.toNatClampNeg 0 2 else g
def ca_fl (g : ca_S) (f b : Int32) : ca_S := if ca_flP g f b then ca_si g 3 0 f.toNatClampNeg b else g
def ca_of (g : ca_S) (s w : Int32) : Int32 := if cv_s s then (if w = 0 then Int32.ofNat (ca_lg g s.toNatClampNeg) else if w = 1 then Int32.ofNat (ca_cnt g s.toNatClampNeg 0 1 24 0) else if w = 2 then Int32.ofNat (ca_cnt g s.toNatClampNeg 6 1 24 0) else if w = 3 then Int32.ofNat (ca_great g s.toNatClampNeg 24) else -1) else -1
def ca_count (g : ca_S) (w : Int32) : Int32 := if w = 0 then Int32.ofNat (ca_ln g 0).length else if w = 1 then Int32.ofNat (ca_ln g 1).length else if w = 2 then ca_iv g 0 0 7 else if w = 3 then ca_iv g 0 0 8 else if w = 4 then Int32.ofNat (ca_ln g 2).length else if w = 5 then Int32.ofNat (ca_ln g 3).length else -1
def ca_look (g : ca_S) (u : Nat) (w : Int32) : Int32 := if w = 0 then ca_iv g 7 u 0 else if w = 1 then ca_iv g 7 u 1 else if w = 2 then ca_iv g 7 u 2 else Int32.ofNat (ca_lf g 2 u 0 (ca_ln g 2).length 0)
def ca_skP (g : ca_S) (s : Nat) : Bool := ca_beh g s (ca_iv g 0 0 7 - 100) (ca_lg g s + 1) (24 - ca_lg g s)
def ca_skip (g : ca_S) (s : Nat) : ca_S × Int32 := if ca_skP g s then (ca_turns (ca_si g 6 s (ca_lg g s) 1) s, Int32.ofNat (ca_lg g s)) else (g, -1)
theorem ca_beh_25 (g : ca_S) (s : Nat) (b : Int32) : ca_beh g s b 26 0 = false := rfl
theorem ca_skP_lt {g : ca_S} {s : Nat} (h : ca_skP g s = true) : ca_lg g s ≤ 24 := by
  have hb := ca_lg_b g s
  by_cases h2 : ca_lg g s ≤ 24
  · exact h2
  · have h3 : ca_lg g s = 25 := by omega
    unfold ca_skP at h
    rw [h3] at h
    cases h
theorem mi_4 {w : Int32} (h0 : ¬ w < 0) (h4 : ¬ 4 ≤ w) (e0 : ¬ w = 0) (e1 : ¬ w = 1) (e2 : ¬ w = 2) (e3 : ¬ w = 3) : False := by
  obtain ⟨n, hn, rfl⟩ := mi_ex h0
  have h5 : n < 4 := by have := mt (mi_le (a := 4) (b := n) (by omega) hn).mpr h4; omega
  match n, h5 with
  | 0, _ => exact e0 rfl
  | 1, _ => exact e1 rfl
  | 2, _ => exact e2 rfl
  | 3, _ => exact e3 rfl
section CP1
variable {l : Launch} {D : va_G} {Z : Nat × Cell} {tys : List (ClassId × FieldType)} {ad : mg_Ad}
theorem ct_A_status (hty : tys.map (·.2) = ma_ty) (g : ca_S) (q : mr_St) {s0 : Nat} (hs : s0 < 4) {n : Nat} (h1 : 1 ≤ n) (h24 : n ≤ 24) (hok : ca_ok g) : mr_M l my_A_status mc_A_status 4 (some .int) 3 D mn_cl Z mb_B tys ma_sh [va_rf (some (ad 0 0)), .int (Int32.ofNat s0), .int (Int32.ofNat n)] ad (ma_R g q) (some (.int (ca_stat g s0 n))) (ma_R g q) := by
  refine mg_M.of (cc := mc_A_status) (maxL := 4) (ret := (some .int)) (by decide) rfl (Nat.le_of_ble_eq_true rfl) (mg_caS rfl (mg_caS rfl (mg_caS rfl mg_ca0))) ?_
  intro p e s m args below meth c K hret hlk hnm hA
  cases hx : ca_tb g s0 n with
  | none =>
    refine mg_iload_n K md_A_status_0 rfl ?_
    refine mr_cP K hA (ct_A_checkSender (Int32.ofNat s0) (mi_vs hs)) ms_A_50 (by decide) md_A_status_1 rfl (by decide) ⟨Nat.zero_le _, Nat.zero_le _⟩ ?_
    refine mg_iload_n K md_A_status_4 rfl ?_
    refine mr_cP K hA (ct_A_checkNumber (Int32.ofNat n) (mi_vN h1 h24)) ms_A_54 (by decide) md_A_status_5 rfl (by decide) ⟨Nat.zero_le _, Nat.zero_le _⟩ ?_
    refine mg_aload_n K md_A_status_8 rfl ?_
    refine mr_getS K mf_A_11 md_A_status_9 Nat.zero_lt_one rfl ?_
    refine mg_iload_n K md_A_status_12 rfl ?_
    refine mr_aaldS (k2 := 4) (i2 := s0) K rfl (ma_t hty 0) md_A_status_13 Nat.zero_lt_one (mi_vn (by omega) (by omega)) (by rw [mi_tn (by omega)]; exact ma_lst hs g q) ?_
    refine mg_iload_n K md_A_status_14 rfl ?_
    refine mr_cV K hA (ct_S_get hty g q hs h1 h24) ms_A_82 (by decide) md_A_status_15 rfl rfl hs rfl (by decide) ⟨Nat.le_refl _, Nat.le_refl _⟩ ?_
    rw [ca_tv_n hx]
    refine mg_astore_n K md_A_status_18 (by decide) ?_
    refine mg_aload_n K md_A_status_19 rfl ?_
    refine mg_ifnonnull K 27 md_A_status_20 rfl (fun h20 => ?_) (fun h20 => ?_)
    · exact absurd rfl h20
    · refine mg_iconst K (v := -1) md_A_status_23 (by decide) ?_
      refine mg_goto K 31 md_A_status_24 rfl ?_
      exact mg_iret K hret hlk md_A_status_31 (Nat.le_refl _) (Nat.le_refl _) ⟨by unfold ca_stat; rw [hx], rfl, rfl⟩
  | some j =>
    have hj := hok.1 s0 n j hx
    refine mg_iload_n K md_A_status_0 rfl ?_
    refine mr_cP K hA (ct_A_checkSender (Int32.ofNat s0) (mi_vs hs)) ms_A_50 (by decide) md_A_status_1 rfl (by decide) ⟨Nat.zero_le _, Nat.zero_le _⟩ ?_
    refine mg_iload_n K md_A_status_4 rfl ?_
    refine mr_cP K hA (ct_A_checkNumber (Int32.ofNat n) (mi_vN h1 h24)) ms_A_54 (by decide) md_A_status_5 rfl (by decide) ⟨Nat.zero_le _, Nat.zero_le _⟩ ?_
    refine mg_aload_n K md_A_status_8 rfl ?_
    refine mr_getS K mf_A_11 md_A_status_9 Nat.zero_lt_one rfl ?_
    refine mg_iload_n K md_A_status_12 rfl ?_
    refine mr_aaldS (k2 := 4) (i2 := s0) K rfl (ma_t hty 0) md_A_status_13 Nat.zero_lt_one (mi_vn (by omega) (by omega)) (by rw [mi_tn (by omega)]; exact ma_lst hs g q) ?_
    refine mg_iload_n K md_A_status_14 rfl ?_
    refine mr_cV K hA (ct_S_get hty g q hs h1 h24) ms_A_82 (by decide) md_A_status_15 rfl rfl hs rfl (by decide) ⟨Nat.le_refl _, Nat.le_refl _⟩ ?_
    rw [ca_tv_s hx, mr_as]
    refine mg_astore_n K md_A_status_18 (by decide) ?_
    refine mg_aload_n K md_A_status_19 rfl ?_
    refine mg_ifnonnull K 27 md_A_status_20 rfl (fun h20 => ?_) (fun h20 => ?_)
    · refine mg_aload_n K md_A_status_27 rfl ?_
      refine mr_getI (v := ca_iv g 10 j 4) K mf_A_86 md_A_status_28 (by decide) hj rfl ?_
      exact mg_iret K hret hlk md_A_status_31 (Nat.le_refl _) (Nat.le_refl _) ⟨by unfold ca_stat; rw [hx], rfl, rfl⟩
    · exact absurd h20 (fun z => by cases z)
theorem ct_A_answer (hty : tys.map (·.2) = ma_ty) (g : ca_S) (q : mr_St) {s0 : Nat} (hs : s0 < 4) {n : Nat} (h1 : 1 ≤ n) (h24 : n ≤ 24) (hok : ca_ok g) : mr_M l my_A_answer mc_A_answer 4 (some .int) 3 D mn_cl Z mb_B tys ma_sh [va_rf (some (ad 0 0)), .int (Int32.ofNat s0), .int (Int32.ofNat n)] ad (ma_R g q) (some (.int (ca_answ g s0 n))) (ma_R g q) := by
  refine mg_M.of (cc := mc_A_answer) (maxL := 4) (ret := (some .int)) (by decide) rfl (Nat.le_of_ble_eq_true rfl) (mg_caS rfl (mg_caS rfl (mg_caS rfl mg_ca0))) ?_
  intro p e s m args below meth c K hret hlk hnm hA
  cases hx : ca_tb g s0 n with
  | none =>
    refine mg_iload_n K md_A_answer_0 rfl ?_
    refine mr_cP K hA (ct_A_checkSender (Int32.ofNat s0) (mi_vs hs)) ms_A_50 (by decide) md_A_answer_1 rfl (by decide) ⟨Nat.zero_le _, Nat.zero_le _⟩ ?_
    refine mg_iload_n K md_A_answer_4 rfl ?_
    refine mr_cP K hA (ct_A_checkNumber (Int32.ofNat n) (mi_vN h1 h24)) ms_A_54 (by decide) md_A_answer_5 rfl (by decide) ⟨Nat.zero_le _, Nat.zero_le _⟩ ?_
    refine mg_aload_n K md_A_answer_8 rfl ?_
    refine mr_getS K mf_A_11 md_A_answer_9 Nat.zero_lt_one rfl ?_
    refine mg_iload_n K md_A_answer_12 rfl ?_
    refine mr_aaldS (k2 := 4) (i2 := s0) K rfl (ma_t hty 0) md_A_answer_13 Nat.zero_lt_one (mi_vn (by omega) (by omega)) (by rw [mi_tn (by omega)]; exact ma_lst hs g q) ?_
    refine mg_iload_n K md_A_answer_14 rfl ?_
    refine mr_cV K hA (ct_S_get hty g q hs h1 h24) ms_A_82 (by decide) md_A_answer_15 rfl rfl hs rfl (by decide) ⟨Nat.le_refl _, Nat.le_refl _⟩ ?_
    rw [ca_tv_n hx]
    refine mg_astore_n K md_A_answer_18 (by decide) ?_
    refine mg_aload_n K md_A_answer_19 rfl ?_
    refine mg_ifnonnull K 27 md_A_answer_20 rfl (fun h20 => ?_) (fun h20 => ?_)
    · exact absurd rfl h20
    · refine mg_iconst K (v := 0) md_A_answer_23 (by decide) ?_
      refine mg_goto K 31 md_A_answer_24 rfl ?_
      exact mg_iret K hret hlk md_A_answer_31 (Nat.le_refl _) (Nat.le_refl _) ⟨by unfold ca_answ; rw [hx], rfl, rfl⟩
  | some j =>
    have hj := hok.1 s0 n j hx
    refine mg_iload_n K md_A_answer_0 rfl ?_
    refine mr_cP K hA (ct_A_checkSender (Int32.ofNat s0) (mi_vs hs)) ms_A_50 (by decide) md_A_answer_1 rfl (by decide) ⟨Nat.zero_le _, Nat.zero_le _⟩ ?_
    refine mg_iload_n K md_A_answer_4 rfl ?_
    refine mr_cP K hA (ct_A_checkNumber (Int32.ofNat n) (mi_vN h1 h24)) ms_A_54 (by decide) md_A_answer_5 rfl (by decide) ⟨Nat.zero_le _, Nat.zero_le _⟩ ?_
    refine mg_aload_n K md_A_answer_8 rfl ?_
    refine mr_getS K mf_A_11 md_A_answer_9 Nat.zero_lt_one rfl ?_
    refine mg_iload_n K md_A_answer_12 rfl ?_
    refine mr_aaldS (k2 := 4) (i2 := s0) K rfl (ma_t hty 0) md_A_answer_13 Nat.zero_lt_one (mi_vn (by omega) (by omega)) (by rw [mi_tn (by omega)]; exact ma_lst hs g q) ?_
    refine mg_iload_n K md_A_answer_14 rfl ?_
    refine mr_cV K hA (ct_S_get hty g q hs h1 h24) ms_A_82 (by decide) md_A_answer_15 rfl rfl hs rfl (by decide) ⟨Nat.le_refl _, Nat.le_refl _⟩ ?_
    rw [ca_tv_s hx, mr_as]
    refine mg_astore_n K md_A_answer_18 (by decide) ?_
    refine mg_aload_n K md_A_answer_19 rfl ?_
    refine mg_ifnonnull K 27 md_A_answer_20 rfl (fun h20 => ?_) (fun h20 => ?_)
    · refine mg_aload_n K md_A_answer_27 rfl ?_
      refine mr_getI (v := ca_iv g 10 j 5) K mf_A_89 md_A_answer_28 (by decide) hj rfl ?_
      exact mg_iret K hret hlk md_A_answer_31 (Nat.le_refl _) (Nat.le_refl _) ⟨by unfold ca_answ; rw [hx], rfl, rfl⟩
    · exact absurd h20 (fun z => by cases z)
theorem ct_A_point (hty : tys.map (·.2) = ma_ty) (g : ca_S) (q : mr_St) (x : Int32) : mr_M l my_A_point mc_A_point 2 (some .boolean) 2 D mn_cl Z mb_B tys ma_sh [va_rf (some (ad 0 0)), .int x] ad (ma_R g q) (some (.int (if ca_ptP g x then 1 else 0))) (ma_R (ca_pt g x) q) := by
  refine mg_M.of (cc := mc_A_point) (maxL := 2) (ret := (some .boolean)) (by decide) rfl (Nat.le_of_ble_eq_true rfl) (mg_caS rfl (mg_caS rfl mg_ca0)) ?_
  intro p e s m args below meth c K hret hlk hnm hA
  by_cases hv : cv_u x
  case neg =>
    have hnp : ¬ ca_ptP g x := fun z => hv z.1
    have hst : ca_pt g x = g := if_neg hnp
    rw [if_neg hnp, hst]
    refine mg_iload_n K md_A_point_0 rfl ?_
    refine mr_cP K hA (ct_A_isSubject x) ms_A_92 (by decide) md_A_point_1 rfl (by decide) ⟨Nat.zero_le _, Nat.zero_le _⟩ ?_
    rw [if_neg hv]
    refine mg_if_eq K 20 md_A_point_4 rfl (fun h4 => ?_) (fun h4 => ?_)
    · refine mg_iconst K (v := 0) md_A_point_20 (by decide) ?_
      exact mg_zret K hret hlk md_A_point_21 (by decide) (Nat.le_refl _) (Nat.le_refl _) ⟨rfl, rfl, rfl⟩
    · exact absurd rfl h4
  obtain ⟨u, hu, rfl⟩ := cv_u_ex hv
  refine mg_iload_n K md_A_point_0 rfl ?_
  refine mr_cP K hA (ct_A_isSubject (Int32.ofNat u)) ms_A_92 (by decide) md_A_point_1 rfl (by decide) ⟨Nat.zero_le _, Nat.zero_le _⟩ ?_
  rw [if_pos hv]
  refine mg_if_eq K 20 md_A_point_4 rfl (fun h4 => ?_) (fun h4 => ?_)
  · exact absurd h4 (by decide)
  · refine mg_aload_n K md_A_point_7 rfl ?_
    refine mr_getS K mf_A_17 md_A_point_8 Nat.zero_lt_one rfl ?_
    refine mg_iload_n K md_A_point_11 rfl ?_
    refine mr_aaldS (k2 := 7) (i2 := u) K rfl (ma_t hty 1) md_A_point_12 Nat.zero_lt_one (mi_vn (by omega) (by omega)) (by rw [mi_tn (by omega)]; exact ma_sub hu g q) ?_
    refine mr_getI (v := ca_iv g 7 u 0) K mf_A_95 md_A_point_13 (by decide) hu rfl ?_
    refine mg_iconst K (v := 1) md_A_point_16 (by decide) ?_
    refine mg_icmp_eq K 22 md_A_point_17 rfl (fun h17 => ?_) (fun h17 => ?_)
    · have hp : ca_ptP g (Int32.ofNat u) := ⟨hv, by rw [mi_tn (by omega)]; exact h17⟩
      have hst : ca_pt g (Int32.ofNat u) = ca_si g 7 u 0 2 := by unfold ca_pt; rw [if_pos hp, mi_tn (by omega)]
      rw [if_pos hp, hst]
      refine mg_aload_n K md_A_point_22 rfl ?_
      refine mr_getS K mf_A_17 md_A_point_23 Nat.zero_lt_one rfl ?_
      refine mg_iload_n K md_A_point_26 rfl ?_
      refine mr_aaldS (k2 := 7) (i2 := u) K rfl (ma_t hty 1) md_A_point_27 Nat.zero_lt_one (mi_vn (by omega) (by omega)) (by rw [mi_tn (by omega)]; exact ma_sub hu g q) ?_
      refine mg_iconst K (v := 2) md_A_point_28 (by decide) ?_
      refine mr_putI K mf_A_95 md_A_point_29 hu ?_
      refine mr_eqr (ma_sI _ _ _ _ _ _ (by decide) (by decide)) ?_
      refine mg_iconst K (v := 1) md_A_point_32 (by decide) ?_
      exact mg_zret K hret hlk md_A_point_33 (by decide) (Nat.le_refl _) (Nat.le_refl _) ⟨rfl, rfl, rfl⟩
    · have hp : ¬ ca_ptP g (Int32.ofNat u) := fun z => h17 (by have := z.2; rw [mi_tn (by omega)] at this; exact this)
      have hst : ca_pt g (Int32.ofNat u) = g := if_neg hp
      rw [if_neg hp, hst]
      refine mg_iconst K (v := 0) md_A_point_20 (by decide) ?_
      exact mg_zret K hret hlk md_A_point_21 (by decide) (Nat.le_refl _) (Nat.le_refl _) ⟨rfl, rfl, rfl⟩
theorem ct_A_fails (hty : tys.map (·.2) = ma_ty) (g : ca_S) (q : mr_St) (x b : Int32) (hb : b = 0 ∨ b = 1) : mr_M l my_A_fails mc_A_fails 3 (some .boolean) 2 D mn_cl Z mb_B tys ma_sh [va_rf (some (ad 0 0)), .int x, .int b] ad (ma_R g q) (some (.int (if ca_flP g x b then 1 else 0))) (ma_R (ca_fl g x b) q) := by
  have hnb : vp_nar .boolean b = b := by rcases hb with rfl | rfl <;> decide
  refine mg_M.of (cc := mc_A_fails) (maxL := 3) (ret := (some .boolean)) (by decide) rfl (Nat.le_of_ble_eq_true rfl) (mg_caS rfl (mg_caS rfl (mg_caS rfl mg_ca0))) ?_
  intro p e s m args below meth c K hret hlk hnm hA
  by_cases hv : cv_f x
  case neg =>
    have hnp : ¬ ca_flP g x b := fun z => hv z.1
    have hst : ca_fl g x b = g := if_neg hnp
    rw [if_neg hnp, hst]
    refine mg_iload_n K md_A_fails_0 rfl ?_
    refine mr_cP K hA (ct_A_isFunction x) ms_A_98 (by decide) md_A_fails_1 rfl (by decide) ⟨Nat.zero_le _, Nat.zero_le _⟩ ?_
    rw [if_neg hv]
    refine mg_if_eq K 17 md_A_fails_4 rfl (fun h4 => ?_) (fun h4 => ?_)
    · refine mg_iconst K (v := 0) md_A_fails_17 (by decide) ?_
      exact mg_zret K hret hlk md_A_fails_18 (by decide) (Nat.le_refl _) (Nat.le_refl _) ⟨rfl, rfl, rfl⟩
    · exact absurd rfl h4
  obtain ⟨u, hu, rfl⟩ := cv_f_ex hv
  refine mg_iload_n K md_A_fails_0 rfl ?_
  refine mr_cP K hA (ct_A_isFunction (Int32.ofNat u)) ms_A_98 (by decide) md_A_fails_1 rfl (by decide) ⟨Nat.zero_le _, Nat.zero_le _⟩ ?_
  rw [if_pos hv]
  refine mg_if_eq K 17 md_A_fails_4 rfl (fun h4 => ?_) (fun h4 => ?_)
  · exact absurd h4 (by decide)
  · refine mg_aload_n K md_A_fails_7 rfl ?_
    refine mr_getS (k2 := 3) (i2 := 0) K mf_A_21 md_A_fails_8 Nat.zero_lt_one rfl ?_
    refine mg_iload_n K md_A_fails_11 rfl ?_
    refine mr_zald (v := ca_iv g 3 0 u) K rfl (ma_t hty 2) md_A_fails_12 Nat.zero_lt_one (mi_vn (by omega) (by omega)) (by rw [mi_tn (by omega)]; rfl) ?_
    refine mg_iload_n K md_A_fails_13 rfl ?_
    refine mg_icmp_ne K 19 md_A_fails_14 rfl (fun h14 => ?_) (fun h14 => ?_)
    · have hp : ca_flP g (Int32.ofNat u) b := ⟨hv, by rw [mi_tn (by omega)]; exact h14⟩
      have hst : ca_fl g (Int32.ofNat u) b = ca_si g 3 0 u b := by unfold ca_fl; rw [if_pos hp, mi_tn (by omega)]
      rw [if_pos hp, hst]
      refine mg_aload_n K md_A_fails_19 rfl ?_
      refine mr_getS (k2 := 3) (i2 := 0) K mf_A_21 md_A_fails_20 Nat.zero_lt_one rfl ?_
      refine mg_iload_n K md_A_fails_23 rfl ?_
      refine mg_iload_n K md_A_fails_24 rfl ?_
      refine mr_zast (v := b) K rfl (ma_t hty 2) md_A_fails_25 Nat.zero_lt_one (mi_vn (by omega) (by omega)) hnb ?_
      rw [mi_tn (by omega)]
      refine mr_eqr (ma_sI _ _ _ _ _ _ (by decide) (by decide)) ?_
      refine mg_iconst K (v := 1) md_A_fails_26 (by decide) ?_
      exact mg_zret K hret hlk md_A_fails_27 (by decide) (Nat.le_refl _) (Nat.le_refl _) ⟨rfl, rfl, rfl⟩
    · have hp : ¬ ca_flP g (Int32.ofNat u) b := fun z => z.2 (by rw [mi_tn (by omega)]; exact h14)
      have hst : ca_fl g (Int32.ofNat u) b = g := if_neg hp
      rw [if_neg hp, hst]
      refine mg_iconst K (v := 0) md_A_fails_17 (by decide) ?_
      exact mg_zret K hret hlk md_A_fails_18 (by decide) (Nat.le_refl _) (Nat.le_refl _) ⟨rfl, rfl, rfl⟩
theorem ct_A_tick (hty : tys.map (·.2) = ma_ty) (g : ca_S) (q : mr_St) (t : Int32) (hok : ca_ok g) (ht1 : ¬ t < ca_iv g 0 0 7) (ht2 : ¬ 100000 < t) : mr_M l my_A_tick mc_A_tick 3 (some .int) 6 D mn_cl Z mb_B tys ma_sh [va_rf (some (ad 0 0)), .int t] ad (ma_R g q) (some (.int (Int32.ofNat (ca_ln (ca_tick g t) 1).length - Int32.ofNat (ca_ln g 1).length))) (ma_R (ca_tick g t) q) := by
  have t1 := ca_to.si hok 0 0 7 t (by omega)
  have t2 := ca_to.retry (ca_ln (ca_si g 0 0 7 t) 3).length t1.ok
  refine mg_M.of (cc := mc_A_tick) (maxL := 3) (ret := (some .int)) (by decide) rfl (Nat.le_of_ble_eq_true rfl) (mg_caS rfl (mg_caS rfl mg_ca0)) ?_
  intro p e s m args below meth c K hret hlk hnm hA
  refine mg_iload_n K md_A_tick_0 rfl ?_
  refine mg_aload_n K md_A_tick_1 rfl ?_
  refine mr_getI (v := ca_iv g 0 0 7) K mf_A_41 md_A_tick_2 (by decide) Nat.zero_lt_one rfl ?_
  refine mg_icmp_lt K 14 md_A_tick_5 rfl (fun h5 => ?_) (fun h5 => ?_)
  · exact absurd h5 ht1
  · refine mg_iload_n K md_A_tick_8 rfl ?_
    refine mg_ldc K md_A_tick_9 mk_A_101 ?_
    refine mg_icmp_le K 24 md_A_tick_11 rfl (fun h11 => ?_) (fun h11 => ?_)
    · refine mg_aload_n K md_A_tick_24 rfl ?_
      refine mr_getS (k2 := 8) (i2 := 1) K mf_A_32 md_A_tick_25 Nat.zero_lt_one rfl ?_
      refine mr_getI (v := Int32.ofNat (ca_ln g 1).length) K mf_A_109 md_A_tick_28 (by decide) (by decide : 1 < 4) rfl ?_
      refine mg_istore_n K md_A_tick_31 (by decide) ?_
      refine mg_aload_n K md_A_tick_32 rfl ?_
      refine mg_iload_n K md_A_tick_33 rfl ?_
      refine mr_putI K mf_A_41 md_A_tick_34 Nat.zero_lt_one ?_
      refine mr_eqr (ma_sI _ _ _ _ _ _ (by decide) (by decide)) ?_
      refine mg_aload_n K md_A_tick_37 rfl ?_
      refine mr_cV K hA (ct_A_retry hty (ca_si g 0 0 7 t) q t1.ok) ms_A_112 (by decide) md_A_tick_38 rfl rfl Nat.zero_lt_one rfl (by decide) ⟨Nat.le_refl _, Nat.le_refl _⟩ ?_
      refine mg_aload_n K md_A_tick_41 rfl ?_
      refine mr_cV K hA (ct_A_longs hty _ q t2.ok) ms_A_115 (by decide) md_A_tick_42 rfl rfl Nat.zero_lt_one rfl (by decide) ⟨Nat.le_refl _, Nat.le_refl _⟩ ?_
      refine mg_aload_n K md_A_tick_45 rfl ?_
      refine mr_getS (k2 := 8) (i2 := 1) K mf_A_32 md_A_tick_46 Nat.zero_lt_one rfl ?_
      refine mr_getI (v := Int32.ofNat (ca_ln (ca_tick g t) 1).length) K mf_A_109 md_A_tick_49 (by decide) (by decide : 1 < 4) rfl ?_
      refine mg_iload_n K md_A_tick_52 rfl ?_
      refine mg_isub K md_A_tick_53 ?_
      exact mg_iret K hret hlk md_A_tick_54 (Nat.le_refl _) (Nat.le_refl _) ⟨rfl, rfl, rfl⟩
    · exact absurd (Int32.not_lt.mp ht2) h11
theorem ct_A_skip (hty : tys.map (·.2) = ma_ty) (g : ca_S) (q : mr_St) {s0 : Nat} (hs : s0 < 4) (hok : ca_ok g) : mr_M l my_A_skip mc_A_skip 4 (some .int) 6 D mn_cl Z mb_B tys ma_sh [va_rf (some (ad 0 0)), .int (Int32.ofNat s0)] ad (ma_R g q) (some (.int (ca_skip g s0).2)) (ma_R (ca_skip g s0).1 q) := by
  have hlb := ca_lg_b g s0
  have t1 := ca_to.si hok 6 s0 (ca_lg g s0) 1 (by omega)
  refine mg_M.of (cc := mc_A_skip) (maxL := 4) (ret := (some .int)) (by decide) rfl (Nat.le_of_ble_eq_true rfl) (mg_caS rfl (mg_caS rfl mg_ca0)) ?_
  intro p e s m args below meth c K hret hlk hnm hA
  refine mg_iload_n K md_A_skip_0 rfl ?_
  refine mr_cP K hA (ct_A_checkSender (Int32.ofNat s0) (mi_vs hs)) ms_A_50 (by decide) md_A_skip_1 rfl (by decide) ⟨Nat.zero_le _, Nat.zero_le _⟩ ?_
  refine mg_aload_n K md_A_skip_4 rfl ?_
  refine mr_getS K mf_A_11 md_A_skip_5 Nat.zero_lt_one rfl ?_
  refine mg_iload_n K md_A_skip_8 rfl ?_
  refine mr_aaldS (k2 := 4) (i2 := s0) K rfl (ma_t hty 0) md_A_skip_9 Nat.zero_lt_one (mi_vn (by omega) (by omega)) (by rw [mi_tn (by omega)]; exact ma_lst hs g q) ?_
  refine mg_astore_n K md_A_skip_10 (by decide) ?_
  refine mg_aload_n K md_A_skip_11 rfl ?_
  refine mr_cV K hA (ct_S_leastGap hty g q hs (hok.1 s0)) ms_A_118 (by decide) md_A_skip_12 rfl rfl hs rfl (by decide) ⟨Nat.le_refl _, Nat.le_refl _⟩ ?_
  refine mg_istore_n K md_A_skip_15 (by decide) ?_
  refine mg_aload_n K md_A_skip_16 rfl ?_
  refine mg_iload_n K md_A_skip_17 rfl ?_
  refine mg_aload_n K md_A_skip_18 rfl ?_
  refine mr_getI (v := ca_iv g 0 0 7) K mf_A_41 md_A_skip_19 (by decide) Nat.zero_lt_one rfl ?_
  refine mg_bipush K (v := 100) md_A_skip_22 (by decide) ?_
  refine mg_isub K md_A_skip_24 ?_
  refine mr_cV K hA (ct_S_cameBehind hty g q (n0 := ca_lg g s0) (b := ca_iv g 0 0 7 - 100) hs hlb.2 (hok.1 s0)) ms_A_122 (by decide) md_A_skip_25 rfl rfl hs rfl (by decide) ⟨Nat.le_refl _, Nat.le_refl _⟩ ?_
  refine mg_if_ne K 33 md_A_skip_28 rfl (fun h28 => ?_) (fun h28 => ?_)
  · have hk : ca_skP g s0 = true := by cases hh : ca_skP g s0 with | true => rfl | false => (unfold ca_skP at hh; rw [hh] at h28; exact absurd rfl h28)
    have hst : ca_skip g s0 = (ca_turns (ca_si g 6 s0 (ca_lg g s0) 1) s0, Int32.ofNat (ca_lg g s0)) := if_pos hk
    rw [hst]
    refine mg_aload_n K md_A_skip_33 rfl ?_
    refine mg_iload_n K md_A_skip_34 rfl ?_
    refine mr_cV K hA (ct_S_close hty g q hs hlb.1 (ca_skP_lt hk)) ms_A_126 (by decide) md_A_skip_35 rfl rfl hs rfl (by decide) ⟨Nat.le_refl _, Nat.le_refl _⟩ ?_
    refine mg_aload_n K md_A_skip_38 rfl ?_
    refine mg_aload_n K md_A_skip_39 rfl ?_
    refine mr_cV K hA (ct_A_give hty (ca_si g 6 s0 (ca_lg g s0) 1) q hs t1.ok) ms_A_129 (by decide) md_A_skip_40 rfl rfl Nat.zero_lt_one rfl (by decide) ⟨Nat.le_refl _, Nat.le_refl _⟩ ?_
    refine mg_iload_n K md_A_skip_43 rfl ?_
    exact mg_iret K hret hlk md_A_skip_44 (Nat.le_refl _) (Nat.le_refl _) ⟨rfl, rfl, rfl⟩
  · have hk : ¬ ca_skP g s0 = true := fun hh => by unfold ca_skP at hh; rw [hh] at h28; exact absurd h28 (by decide)
    have hst : ca_skip g s0 = (g, -1) := if_neg hk
    rw [hst]
    refine mg_iconst K (v := -1) md_A_skip_31 (by decide) ?_
    exact mg_iret K hret hlk md_A_skip_32 (Nat.le_refl _) (Nat.le_refl _) ⟨rfl, rfl, rfl⟩
theorem ct_A_cut (hty : tys.map (·.2) = ma_ty) (g : ca_S) (q : mr_St) {s0 : Nat} (hs : s0 < 4) (hok : ca_ok g) : mr_M l my_A_cut mc_A_cut 2 (some .int) 5 D mn_cl Z mb_B tys ma_sh [va_rf (some (ad 0 0)), .int (Int32.ofNat s0)] ad (ma_R g q) (some (.int (Int32.ofNat (ca_lose s0 1 24 g 0).2))) (ma_R (ca_lose s0 1 24 g 0).1 q) := by
  refine mg_M.of (cc := mc_A_cut) (maxL := 2) (ret := (some .int)) (by decide) rfl (Nat.le_of_ble_eq_true rfl) (mg_caS rfl (mg_caS rfl mg_ca0)) ?_
  intro p e s m args below meth c K hret hlk hnm hA
  refine mg_iload_n K md_A_cut_0 rfl ?_
  refine mr_cP K hA (ct_A_checkSender (Int32.ofNat s0) (mi_vs hs)) ms_A_50 (by decide) md_A_cut_1 rfl (by decide) ⟨Nat.zero_le _, Nat.zero_le _⟩ ?_
  refine mg_aload_n K md_A_cut_4 rfl ?_
  refine mr_getS K mf_A_11 md_A_cut_5 Nat.zero_lt_one rfl ?_
  refine mg_iload_n K md_A_cut_8 rfl ?_
  refine mr_aaldS (k2 := 4) (i2 := s0) K rfl (ma_t hty 0) md_A_cut_9 Nat.zero_lt_one (mi_vn (by omega) (by omega)) (by rw [mi_tn (by omega)]; exact ma_lst hs g q) ?_
  refine mr_cV K hA (ct_S_loseHeld hty g q hs (hok.1 s0)) ms_A_133 (by decide) md_A_cut_10 rfl rfl hs rfl (by decide) ⟨Nat.le_refl _, Nat.le_refl _⟩ ?_
  exact mg_iret K hret hlk md_A_cut_13 (Nat.le_refl _) (Nat.le_refl _) ⟨rfl, rfl, rfl⟩
theorem ca_rep_N {g : ca_S} {s n f a : Nat} (h : ca_tb g s n = none) : ca_rep s n (f + 1) g a = ca_rep s (n + 1) f g a := by
  show (match ca_tb g s n with | none => ca_rep s (n + 1) f g a | some j => if ca_iv g 10 j 4 = 6 ∧ ca_gap g s n = true then ca_rep s (n + 1) f (ca_come g s j) (a + 1) else ca_rep s (n + 1) f g a) = _
  rw [h]
theorem ca_rep_S {g : ca_S} {s n f a j : Nat} (h : ca_tb g s n = some j) : ca_rep s n (f + 1) g a = if ca_iv g 10 j 4 = 6 ∧ ca_gap g s n = true then ca_rep s (n + 1) f (ca_come g s j) (a + 1) else ca_rep s (n + 1) f g a := by
  show (match ca_tb g s n with | none => ca_rep s (n + 1) f g a | some j => if ca_iv g 10 j 4 = 6 ∧ ca_gap g s n = true then ca_rep s (n + 1) f (ca_come g s j) (a + 1) else ca_rep s (n + 1) f g a) = _
  rw [h]
theorem ct_A_replay (hty : tys.map (·.2) = ma_ty) (g : ca_S) (q : mr_St) {s0 : Nat} (hs : s0 < 4) {n : Nat} (h1 : 1 ≤ n) (h24 : n ≤ 24) (hok : ca_ok g) : mr_M l my_A_replay mc_A_replay 7 (some .int) 7 D mn_cl Z mb_B tys ma_sh [va_rf (some (ad 0 0)), .int (Int32.ofNat s0), .int (Int32.ofNat n)] ad (ma_R g q) (some (.int (Int32.ofNat (ca_rep s0 n (25 - n) g 0).2))) (ma_R (ca_rep s0 n (25 - n) g 0).1 q) := by
  refine mg_M.of (cc := mc_A_replay) (maxL := 7) (ret := (some .int)) (by decide) rfl (Nat.le_of_ble_eq_true rfl) (mg_caS rfl (mg_caS rfl (mg_caS rfl mg_ca0))) ?_
  intro p e s m args below meth c K hret hlk hnm hA
  have loop : ∀ (f k : Nat) (g' : ca_S) (a : Nat), k + f = 25 → 1 ≤ k → ca_to g g' → ca_rep s0 k f g' a = (ca_rep s0 n (25 - n) g 0) → mg_G p l e (mg_rm 7 0 0) s m args below meth c D mn_cl Z (mg_A ad (mr_C tys ma_sh ad (ma_R g q)) s.heap.size) s.heap 7 (MQ below (mg_Qc D mn_cl Z ad (mr_C tys ma_sh ad (ma_R g q)) s.heap.size (mg_Po tys ma_sh ad (some (.int (Int32.ofNat (ca_rep s0 n (25 - n) g 0).2))) (ma_R (ca_rep s0 n (25 - n) g 0).1 q))) args s 0 0 (mg_A ad (mr_C tys ma_sh ad (ma_R g q)) s.heap.size)) ad (mr_C tys ma_sh ad (ma_R g' q)) [some (va_rf (some (ad 0 0))), some (.int (Int32.ofNat s0)), some (.int (Int32.ofNat n)), some (va_rf (some (ad 4 s0))), some (.int (Int32.ofNat a)), some (.int (Int32.ofNat k))] 0 0 [] 21 := by
    intro f
    induction f with
    | zero =>
      intro k g' a hk hk1 ht hT
      refine mg_iload K md_A_replay_21 rfl ?_
      refine mg_bipush K (v := 24) md_A_replay_23 (by decide) ?_
      refine mg_icmp_gt K 76 md_A_replay_25 rfl (fun h25 => ?_) (fun h25 => ?_)
      · refine mg_iload K md_A_replay_76 rfl ?_
        exact mg_iret K hret hlk md_A_replay_78 (Nat.le_refl _) (Nat.le_refl _) ⟨by rw [← hT]; rfl, rfl, by rw [← hT]; rfl⟩
      · exact absurd ((mi_lt (a := 24) (b := k) (by omega) (by omega)).mpr (by omega)) h25
    | succ f ih =>
      intro k g' a hk hk1 ht hT
      cases hx : ca_tb g' s0 k with
      | none =>
        rw [ca_rep_N hx] at hT
        refine mg_iload K md_A_replay_21 rfl ?_
        refine mg_bipush K (v := 24) md_A_replay_23 (by decide) ?_
        refine mg_icmp_gt K 76 md_A_replay_25 rfl (fun h25 => ?_) (fun h25 => ?_)
        · exact absurd ((mi_lt (a := 24) (b := k) (by omega) (by omega)).mp h25) (by omega)
        · refine mg_aload_n K md_A_replay_28 rfl ?_
          refine mg_iload K md_A_replay_29 rfl ?_
          refine mr_cV K hA (ct_S_get hty g' q hs hk1 (by omega)) ms_A_82 (by decide) md_A_replay_31 rfl rfl hs rfl (by decide) ⟨Nat.le_refl _, Nat.le_refl _⟩ ?_
          rw [ca_tv_n hx]
          refine mg_astore K md_A_replay_34 (by decide) ?_
          refine mg_aload K md_A_replay_36 rfl ?_
          refine mg_ifnull K 70 md_A_replay_38 rfl (fun h38 => ?_) (fun h38 => ?_)
          · refine mg_iinc K (v := Int32.ofNat (k + 1)) md_A_replay_70 rfl (mi_a1 k) (by decide) ?_
            refine mg_goto K 21 md_A_replay_73 rfl ?_
            refine mg_take 6 ?_
            exact ih (k + 1) g' a (by omega) (by omega) ht hT
          · exact absurd rfl h38
      | some j =>
        have hj := ht.ok.1 s0 k j hx
        have tc := ca_to.come ht.ok s0 hj
        rw [ca_rep_S hx] at hT
        refine mg_iload K md_A_replay_21 rfl ?_
        refine mg_bipush K (v := 24) md_A_replay_23 (by decide) ?_
        refine mg_icmp_gt K 76 md_A_replay_25 rfl (fun h25 => ?_) (fun h25 => ?_)
        · exact absurd ((mi_lt (a := 24) (b := k) (by omega) (by omega)).mp h25) (by omega)
        · refine mg_aload_n K md_A_replay_28 rfl ?_
          refine mg_iload K md_A_replay_29 rfl ?_
          refine mr_cV K hA (ct_S_get hty g' q hs hk1 (by omega)) ms_A_82 (by decide) md_A_replay_31 rfl rfl hs rfl (by decide) ⟨Nat.le_refl _, Nat.le_refl _⟩ ?_
          rw [ca_tv_s hx, mr_as]
          refine mg_astore K md_A_replay_34 (by decide) ?_
          refine mg_aload K md_A_replay_36 rfl ?_
          refine mg_ifnull K 70 md_A_replay_38 rfl (fun h38 => ?_) (fun h38 => ?_)
          · exact absurd h38 (fun z => by cases z)
          · refine mg_aload K md_A_replay_41 rfl ?_
            refine mr_getI (v := ca_iv g' 10 j 4) K mf_A_86 md_A_replay_43 (by decide) hj rfl ?_
            refine mg_bipush K (v := 6) md_A_replay_46 (by decide) ?_
            refine mg_icmp_ne K 70 md_A_replay_48 rfl (fun h48 => ?_) (fun h48 => ?_)
            · rw [if_neg (fun z => h48 z.1)] at hT
              refine mg_iinc K (v := Int32.ofNat (k + 1)) md_A_replay_70 rfl (mi_a1 k) (by decide) ?_
              refine mg_goto K 21 md_A_replay_73 rfl ?_
              refine mg_take 6 ?_
              exact ih (k + 1) g' a (by omega) (by omega) ht hT
            · refine mg_aload_n K md_A_replay_51 rfl ?_
              refine mg_iload K md_A_replay_52 rfl ?_
              refine mr_cV K hA (ct_S_isGap hty g' q hs hk1 (by omega) (fun i hi => ht.ok.1 s0 k i hi)) ms_A_61 (by decide) md_A_replay_54 rfl rfl hs rfl (by decide) ⟨Nat.le_refl _, Nat.le_refl _⟩ ?_
              refine mg_if_eq K 70 md_A_replay_57 rfl (fun h57 => ?_) (fun h57 => ?_)
              · have hg : ca_gap g' s0 k = false := by cases hh : ca_gap g' s0 k with | true => (rw [hh] at h57; exact absurd h57 (by decide)) | false => rfl
                rw [if_neg (fun z => by rw [hg] at z; cases z.2)] at hT
                refine mg_iinc K (v := Int32.ofNat (k + 1)) md_A_replay_70 rfl (mi_a1 k) (by decide) ?_
                refine mg_goto K 21 md_A_replay_73 rfl ?_
                refine mg_take 6 ?_
                exact ih (k + 1) g' a (by omega) (by omega) ht hT
              · have hg : ca_gap g' s0 k = true := by cases hh : ca_gap g' s0 k with | true => rfl | false => (rw [hh] at h57; exact absurd rfl h57)
                rw [if_pos ⟨h48, hg⟩] at hT
                refine mg_aload_n K md_A_replay_60 rfl ?_
                refine mg_aload_n K md_A_replay_61 rfl ?_
                refine mg_aload K md_A_replay_62 rfl ?_
                refine mr_cV K hA (ct_A_come hty g' q hs ht.ok hj) ms_A_74 (by decide) md_A_replay_64 rfl rfl Nat.zero_lt_one rfl (by decide) ⟨Nat.le_refl _, Nat.le_refl _⟩ ?_
                refine mg_iinc K (v := Int32.ofNat (a + 1)) md_A_replay_67 rfl (mi_a1 a) (by decide) ?_
                refine mg_iinc K (v := Int32.ofNat (k + 1)) md_A_replay_70 rfl (mi_a1 k) (by decide) ?_
                refine mg_goto K 21 md_A_replay_73 rfl ?_
                refine mg_take 6 ?_
                exact ih (k + 1) _ (a + 1) (by omega) (by omega) (ht.tr tc) hT
  refine mg_iload_n K md_A_replay_0 rfl ?_
  refine mr_cP K hA (ct_A_checkSender (Int32.ofNat s0) (mi_vs hs)) ms_A_50 (by decide) md_A_replay_1 rfl (by decide) ⟨Nat.zero_le _, Nat.zero_le _⟩ ?_
  refine mg_iload_n K md_A_replay_4 rfl ?_
  refine mr_cP K hA (ct_A_checkNumber (Int32.ofNat n) (mi_vN h1 h24)) ms_A_54 (by decide) md_A_replay_5 rfl (by decide) ⟨Nat.zero_le _, Nat.zero_le _⟩ ?_
  refine mg_aload_n K md_A_replay_8 rfl ?_
  refine mr_getS K mf_A_11 md_A_replay_9 Nat.zero_lt_one rfl ?_
  refine mg_iload_n K md_A_replay_12 rfl ?_
  refine mr_aaldS (k2 := 4) (i2 := s0) K rfl (ma_t hty 0) md_A_replay_13 Nat.zero_lt_one (mi_vn (by omega) (by omega)) (by rw [mi_tn (by omega)]; exact ma_lst hs g q) ?_
  refine mg_astore_n K md_A_replay_14 (by decide) ?_
  refine mg_iconst K (v := 0) md_A_replay_15 (by decide) ?_
  refine mg_istore K md_A_replay_16 (by decide) ?_
  refine mg_iload_n K md_A_replay_18 rfl ?_
  refine mg_istore K md_A_replay_19 (by decide) ?_
  exact loop (25 - n) n g 0 (by omega) h1 (ca_to.rf hok) rfl
theorem ct_A_look (hty : tys.map (·.2) = ma_ty) (g : ca_S) (q : mr_St) {u : Nat} (w : Int32) (hu : u < 16) (hw0 : ¬ w < 0) (hw4 : ¬ 4 ≤ w) (hok : ca_ok g) : mr_M l my_A_look mc_A_look 4 (some .int) 3 D mn_cl Z mb_B tys ma_sh [va_rf (some (ad 0 0)), .int (Int32.ofNat u), .int w] ad (ma_R g q) (some (.int (ca_look g u w))) (ma_R g q) := by
  refine mg_M.of (cc := mc_A_look) (maxL := 4) (ret := (some .int)) (by decide) rfl (Nat.le_of_ble_eq_true rfl) (mg_caS rfl (mg_caS rfl (mg_caS rfl mg_ca0))) ?_
  intro p e s m args below meth c K hret hlk hnm hA
  refine mg_iload_n K md_A_look_0 rfl ?_
  refine mr_cP K hA (ct_A_isSubject (Int32.ofNat u)) ms_A_92 (by decide) md_A_look_1 rfl (by decide) ⟨Nat.zero_le _, Nat.zero_le _⟩ ?_
  rw [if_pos (mi_vu hu)]
  refine mg_if_ne K 17 md_A_look_4 rfl (fun h4 => ?_) (fun h4 => ?_)
  · refine mg_aload_n K md_A_look_17 rfl ?_
    refine mr_getS K mf_A_17 md_A_look_18 Nat.zero_lt_one rfl ?_
    refine mg_iload_n K md_A_look_21 rfl ?_
    refine mr_aaldS (k2 := 7) (i2 := u) K rfl (ma_t hty 1) md_A_look_22 Nat.zero_lt_one (mi_vn (by omega) (by omega)) (by rw [mi_tn (by omega)]; exact ma_sub hu g q) ?_
    refine mg_astore_n K md_A_look_23 (by decide) ?_
    refine mg_iload_n K md_A_look_24 rfl ?_
    by_cases hS25_0 : w = 0
    · refine mg_tabIn (off := 31) K 0 56 md_A_look_25 hS25_0 (by decide) (by decide) (by decide) rfl ?_
      refine mg_aload_n K md_A_look_56 rfl ?_
      refine mr_getI (v := ca_iv g 7 u 0) K mf_A_95 md_A_look_57 (by decide) hu rfl ?_
      exact mg_iret K hret hlk md_A_look_60 (Nat.le_refl _) (Nat.le_refl _) ⟨by unfold ca_look; rw [if_pos hS25_0], rfl, rfl⟩
    by_cases hS25_1 : w = 1
    · refine mg_tabIn (off := 36) K 1 61 md_A_look_25 hS25_1 (by decide) (by decide) (by decide) rfl ?_
      refine mg_aload_n K md_A_look_61 rfl ?_
      refine mr_getI (v := ca_iv g 7 u 1) K mf_A_141 md_A_look_62 (by decide) hu rfl ?_
      exact mg_iret K hret hlk md_A_look_65 (Nat.le_refl _) (Nat.le_refl _) ⟨by unfold ca_look; rw [if_neg hS25_0, if_pos hS25_1], rfl, rfl⟩
    by_cases hS25_2 : w = 2
    · refine mg_tabIn (off := 41) K 2 66 md_A_look_25 hS25_2 (by decide) (by decide) (by decide) rfl ?_
      refine mg_aload_n K md_A_look_66 rfl ?_
      refine mr_getI (v := ca_iv g 7 u 2) K mf_A_144 md_A_look_67 (by decide) hu rfl ?_
      exact mg_iret K hret hlk md_A_look_70 (Nat.le_refl _) (Nat.le_refl _) ⟨by unfold ca_look; rw [if_neg hS25_0, if_neg hS25_1, if_pos hS25_2], rfl, rfl⟩
    by_cases hS25_3 : w = 3
    · refine mg_tabIn (off := 46) K 3 71 md_A_look_25 hS25_3 (by decide) (by decide) (by decide) rfl ?_
      refine mg_aload_n K md_A_look_71 rfl ?_
      refine mr_getS (k2 := 8) (i2 := 2) K mf_A_35 md_A_look_72 Nat.zero_lt_one rfl ?_
      refine mg_aload_n K md_A_look_75 rfl ?_
      refine mr_cV K hA (ct_L_lengthFor hty g q (x := 2) (by decide) hu (hok.2.2.1 2) (fun i hi => ⟨hok.2.1 2 i hi, (hok.2.2.2 i (hok.2.1 2 i hi)).1⟩)) ms_A_146 (by decide) md_A_look_76 rfl rfl (by decide : 2 < 4) rfl (by decide) ⟨Nat.le_refl _, Nat.le_refl _⟩ ?_
      exact mg_iret K hret hlk md_A_look_79 (Nat.le_refl _) (Nat.le_refl _) ⟨by unfold ca_look; rw [if_neg hS25_0, if_neg hS25_1, if_neg hS25_2], rfl, rfl⟩
    exact absurd (mi_4 hw0 hw4 hS25_0 hS25_1 hS25_2 hS25_3) id
  · exact absurd h4 (by decide)
theorem ct_A_act (hty : tys.map (·.2) = ma_ty) (g : ca_S) (q : mr_St) (i : Int32) (hok : ca_ok g) : mr_M l my_A_act mc_A_act 2 (some .int) 3 D mn_cl Z mb_B tys ma_sh [va_rf (some (ad 0 0)), .int i] ad (ma_R g q) (some (.int (ca_nmAt g 0 i))) (ma_R g q) := by
  refine mg_M.of (cc := mc_A_act) (maxL := 2) (ret := (some .int)) (by decide) rfl (Nat.le_of_ble_eq_true rfl) (mg_caS rfl (mg_caS rfl mg_ca0)) ?_
  intro p e s m args below meth c K hret hlk hnm hA
  refine mg_aload_n K md_A_act_0 rfl ?_
  refine mr_getS (k2 := 8) (i2 := 0) K mf_A_28 md_A_act_1 Nat.zero_lt_one rfl ?_
  refine mg_iload_n K md_A_act_4 rfl ?_
  refine mr_cS K hA (ct_A_nameAt hty g q (x := 0) i (by decide) hok) ms_A_152 (by decide) md_A_act_5 rfl (by decide) ⟨Nat.le_refl _, Nat.le_refl _⟩ ?_
  exact mg_iret K hret hlk md_A_act_8 (Nat.le_refl _) (Nat.le_refl _) ⟨rfl, rfl, rfl⟩
theorem ct_A_dead (hty : tys.map (·.2) = ma_ty) (g : ca_S) (q : mr_St) (i : Int32) (hok : ca_ok g) : mr_M l my_A_dead mc_A_dead 2 (some .int) 3 D mn_cl Z mb_B tys ma_sh [va_rf (some (ad 0 0)), .int i] ad (ma_R g q) (some (.int (ca_nmAt g 1 i))) (ma_R g q) := by
  refine mg_M.of (cc := mc_A_dead) (maxL := 2) (ret := (some .int)) (by decide) rfl (Nat.le_of_ble_eq_true rfl) (mg_caS rfl (mg_caS rfl mg_ca0)) ?_
  intro p e s m args below meth c K hret hlk hnm hA
  refine mg_aload_n K md_A_dead_0 rfl ?_
  refine mr_getS (k2 := 8) (i2 := 1) K mf_A_32 md_A_dead_1 Nat.zero_lt_one rfl ?_
  refine mg_iload_n K md_A_dead_4 rfl ?_
  refine mr_cS K hA (ct_A_nameAt hty g q (x := 1) i (by decide) hok) ms_A_152 (by decide) md_A_dead_5 rfl (by decide) ⟨Nat.le_refl _, Nat.le_refl _⟩ ?_
  exact mg_iret K hret hlk md_A_dead_8 (Nat.le_refl _) (Nat.le_refl _) ⟨rfl, rfl, rfl⟩
theorem ct_A_of (hty : tys.map (·.2) = ma_ty) (g : ca_S) (q : mr_St) (x w : Int32) (hok : ca_ok g) : mr_M l my_A_of mc_A_of 4 (some .int) 4 D mn_cl Z mb_B tys ma_sh [va_rf (some (ad 0 0)), .int x, .int w] ad (ma_R g q) (some (.int (ca_of g x w))) (ma_R g q) := by
  refine mg_M.of (cc := mc_A_of) (maxL := 4) (ret := (some .int)) (by decide) rfl (Nat.le_of_ble_eq_true rfl) (mg_caS rfl (mg_caS rfl (mg_caS rfl mg_ca0))) ?_
  intro p e s m args below meth c K hret hlk hnm hA
  by_cases hv : cv_s x
  case neg =>
    refine mg_iload_n K md_A_of_0 rfl ?_
    refine mr_cP K hA (ct_A_isSender x) ms_A_156 (by decide) md_A_of_1 rfl (by decide) ⟨Nat.zero_le _, Nat.zero_le _⟩ ?_
    rw [if_neg hv]
    refine mg_if_ne K 9 md_A_of_4 rfl (fun h4 => ?_) (fun h4 => ?_)
    · exact absurd rfl h4
    · refine mg_iconst K (v := -1) md_A_of_7 (by decide) ?_
      exact mg_iret K hret hlk md_A_of_8 (Nat.le_refl _) (Nat.le_refl _) ⟨by unfold ca_of; rw [if_neg hv], rfl, rfl⟩
  obtain ⟨s0, hs, rfl⟩ := cv_s_ex hv
  have htn : (Int32.ofNat s0).toNatClampNeg = s0 := mi_tn (by omega)
  refine mg_iload_n K md_A_of_0 rfl ?_
  refine mr_cP K hA (ct_A_isSender (Int32.ofNat s0)) ms_A_156 (by decide) md_A_of_1 rfl (by decide) ⟨Nat.zero_le _, Nat.zero_le _⟩ ?_
  rw [if_pos hv]
  refine mg_if_ne K 9 md_A_of_4 rfl (fun h4 => ?_) (fun h4 => ?_)
  · refine mg_aload_n K md_A_of_9 rfl ?_
    refine mr_getS K mf_A_11 md_A_of_10 Nat.zero_lt_one rfl ?_
    refine mg_iload_n K md_A_of_13 rfl ?_
    refine mr_aaldS (k2 := 4) (i2 := s0) K rfl (ma_t hty 0) md_A_of_14 Nat.zero_lt_one (mi_vn (by omega) (by omega)) (by rw [mi_tn (by omega)]; exact ma_lst hs g q) ?_
    refine mg_astore_n K md_A_of_15 (by decide) ?_
    refine mg_iload_n K md_A_of_16 rfl ?_
    by_cases hS17_0 : w = 0
    · refine mg_tabIn (off := 31) K 0 48 md_A_of_17 hS17_0 (by decide) (by decide) (by decide) rfl ?_
      refine mg_aload_n K md_A_of_48 rfl ?_
      refine mr_cV K hA (ct_S_leastGap hty g q hs (hok.1 s0)) ms_A_118 (by decide) md_A_of_49 rfl rfl hs rfl (by decide) ⟨Nat.le_refl _, Nat.le_refl _⟩ ?_
      exact mg_iret K hret hlk md_A_of_52 (Nat.le_refl _) (Nat.le_refl _) ⟨by unfold ca_of; rw [if_pos hv, htn, if_pos hS17_0], rfl, rfl⟩
    by_cases hS17_1 : w = 1
    · refine mg_tabIn (off := 36) K 1 53 md_A_of_17 hS17_1 (by decide) (by decide) (by decide) rfl ?_
      refine mg_aload_n K md_A_of_53 rfl ?_
      refine mg_iconst K (v := 0) md_A_of_54 (by decide) ?_
      refine mr_cV K hA (ct_S_withStatus hty g q (b := 0) hs (hok.1 s0)) ms_A_159 (by decide) md_A_of_55 rfl rfl hs rfl (by decide) ⟨Nat.le_refl _, Nat.le_refl _⟩ ?_
      exact mg_iret K hret hlk md_A_of_58 (Nat.le_refl _) (Nat.le_refl _) ⟨by unfold ca_of; rw [if_pos hv, htn, if_neg hS17_0, if_pos hS17_1], rfl, rfl⟩
    by_cases hS17_2 : w = 2
    · refine mg_tabIn (off := 42) K 2 59 md_A_of_17 hS17_2 (by decide) (by decide) (by decide) rfl ?_
      refine mg_aload_n K md_A_of_59 rfl ?_
      refine mg_bipush K (v := 6) md_A_of_60 (by decide) ?_
      refine mr_cV K hA (ct_S_withStatus hty g q (b := 6) hs (hok.1 s0)) ms_A_159 (by decide) md_A_of_62 rfl rfl hs rfl (by decide) ⟨Nat.le_refl _, Nat.le_refl _⟩ ?_
      exact mg_iret K hret hlk md_A_of_65 (Nat.le_refl _) (Nat.le_refl _) ⟨by unfold ca_of; rw [if_pos hv, htn, if_neg hS17_0, if_neg hS17_1, if_pos hS17_2], rfl, rfl⟩
    by_cases hS17_3 : w = 3
    · refine mg_tabIn (off := 49) K 3 66 md_A_of_17 hS17_3 (by decide) (by decide) (by decide) rfl ?_
      refine mg_aload_n K md_A_of_66 rfl ?_
      refine mr_cV K hA (ct_S_greatest hty g q hs (hok.1 s0)) ms_A_163 (by decide) md_A_of_67 rfl rfl hs rfl (by decide) ⟨Nat.le_refl _, Nat.le_refl _⟩ ?_
      exact mg_iret K hret hlk md_A_of_70 (Nat.le_refl _) (Nat.le_refl _) ⟨by unfold ca_of; rw [if_pos hv, htn, if_neg hS17_0, if_neg hS17_1, if_neg hS17_2, if_pos hS17_3], rfl, rfl⟩
    have ehS17_0 : (w).toInt ≠ 0 := fun z => hS17_0 (Int32.toInt_inj.mp z)
    have ehS17_1 : (w).toInt ≠ 1 := fun z => hS17_1 (Int32.toInt_inj.mp z)
    have ehS17_2 : (w).toInt ≠ 2 := fun z => hS17_2 (Int32.toInt_inj.mp z)
    have ehS17_3 : (w).toInt ≠ 3 := fun z => hS17_3 (Int32.toInt_inj.mp z)
    refine mg_tabOut K 71 md_A_of_17 (by omega) rfl ?_
    refine mg_iconst K (v := -1) md_A_of_71 (by decide) ?_
    exact mg_iret K hret hlk md_A_of_72 (Nat.le_refl _) (Nat.le_refl _) ⟨by unfold ca_of; rw [if_pos hv, htn, if_neg hS17_0, if_neg hS17_1, if_neg hS17_2, if_neg hS17_3], rfl, rfl⟩
  · exact absurd h4 (by decide)
theorem ct_A_count (hty : tys.map (·.2) = ma_ty) (g : ca_S) (q : mr_St) (w : Int32) : mr_M l my_A_count mc_A_count 2 (some .int) 1 D mn_cl Z mb_B tys ma_sh [va_rf (some (ad 0 0)), .int w] ad (ma_R g q) (some (.int (ca_count g w))) (ma_R g q) := by
  refine mg_M.of (cc := mc_A_count) (maxL := 2) (ret := (some .int)) (by decide) rfl (Nat.le_of_ble_eq_true rfl) (mg_caS rfl (mg_caS rfl mg_ca0)) ?_
  intro p e s m args below meth c K hret hlk hnm hA
  refine mg_iload_n K md_A_count_0 rfl ?_
  by_cases hS1_0 : w = 0
  · refine mg_tabIn (off := 39) K 0 40 md_A_count_1 hS1_0 (by decide) (by decide) (by decide) rfl ?_
    refine mg_aload_n K md_A_count_40 rfl ?_
    refine mr_getS (k2 := 8) (i2 := 0) K mf_A_28 md_A_count_41 Nat.zero_lt_one rfl ?_
    refine mr_getI (v := Int32.ofNat (ca_ln g 0).length) K mf_A_109 md_A_count_44 (by decide) (by decide : 0 < 4) rfl ?_
    exact mg_iret K hret hlk md_A_count_47 (Nat.le_refl _) (Nat.le_refl _) ⟨by unfold ca_count; rw [if_pos hS1_0], rfl, rfl⟩
  by_cases hS1_1 : w = 1
  · refine mg_tabIn (off := 47) K 1 48 md_A_count_1 hS1_1 (by decide) (by decide) (by decide) rfl ?_
    refine mg_aload_n K md_A_count_48 rfl ?_
    refine mr_getS (k2 := 8) (i2 := 1) K mf_A_32 md_A_count_49 Nat.zero_lt_one rfl ?_
    refine mr_getI (v := Int32.ofNat (ca_ln g 1).length) K mf_A_109 md_A_count_52 (by decide) (by decide : 1 < 4) rfl ?_
    exact mg_iret K hret hlk md_A_count_55 (Nat.le_refl _) (Nat.le_refl _) ⟨by unfold ca_count; rw [if_neg hS1_0, if_pos hS1_1], rfl, rfl⟩
  by_cases hS1_2 : w = 2
  · refine mg_tabIn (off := 55) K 2 56 md_A_count_1 hS1_2 (by decide) (by decide) (by decide) rfl ?_
    refine mg_aload_n K md_A_count_56 rfl ?_
    refine mr_getI (v := ca_iv g 0 0 7) K mf_A_41 md_A_count_57 (by decide) Nat.zero_lt_one rfl ?_
    exact mg_iret K hret hlk md_A_count_60 (Nat.le_refl _) (Nat.le_refl _) ⟨by unfold ca_count; rw [if_neg hS1_0, if_neg hS1_1, if_pos hS1_2], rfl, rfl⟩
  by_cases hS1_3 : w = 3
  · refine mg_tabIn (off := 60) K 3 61 md_A_count_1 hS1_3 (by decide) (by decide) (by decide) rfl ?_
    refine mg_aload_n K md_A_count_61 rfl ?_
    refine mr_getI (v := ca_iv g 0 0 8) K mf_A_45 md_A_count_62 (by decide) Nat.zero_lt_one rfl ?_
    exact mg_iret K hret hlk md_A_count_65 (Nat.le_refl _) (Nat.le_refl _) ⟨by unfold ca_count; rw [if_neg hS1_0, if_neg hS1_1, if_neg hS1_2, if_pos hS1_3], rfl, rfl⟩
  by_cases hS1_4 : w = 4
  · refine mg_tabIn (off := 65) K 4 66 md_A_count_1 hS1_4 (by decide) (by decide) (by decide) rfl ?_
    refine mg_aload_n K md_A_count_66 rfl ?_
    refine mr_getS (k2 := 8) (i2 := 2) K mf_A_35 md_A_count_67 Nat.zero_lt_one rfl ?_
    refine mr_getI (v := Int32.ofNat (ca_ln g 2).length) K mf_A_109 md_A_count_70 (by decide) (by decide : 2 < 4) rfl ?_
    exact mg_iret K hret hlk md_A_count_73 (Nat.le_refl _) (Nat.le_refl _) ⟨by unfold ca_count; rw [if_neg hS1_0, if_neg hS1_1, if_neg hS1_2, if_neg hS1_3, if_pos hS1_4], rfl, rfl⟩
  by_cases hS1_5 : w = 5
  · refine mg_tabIn (off := 73) K 5 74 md_A_count_1 hS1_5 (by decide) (by decide) (by decide) rfl ?_
    refine mg_aload_n K md_A_count_74 rfl ?_
    refine mr_getS (k2 := 8) (i2 := 3) K mf_A_38 md_A_count_75 Nat.zero_lt_one rfl ?_
    refine mr_getI (v := Int32.ofNat (ca_ln g 3).length) K mf_A_109 md_A_count_78 (by decide) (by decide : 3 < 4) rfl ?_
    exact mg_iret K hret hlk md_A_count_81 (Nat.le_refl _) (Nat.le_refl _) ⟨by unfold ca_count; rw [if_neg hS1_0, if_neg hS1_1, if_neg hS1_2, if_neg hS1_3, if_neg hS1_4, if_pos hS1_5], rfl, rfl⟩
  have ehS1_0 : (w).toInt ≠ 0 := fun z => hS1_0 (Int32.toInt_inj.mp z)
  have ehS1_1 : (w).toInt ≠ 1 := fun z => hS1_1 (Int32.toInt_inj.mp z)
  have ehS1_2 : (w).toInt ≠ 2 := fun z => hS1_2 (Int32.toInt_inj.mp z)
  have ehS1_3 : (w).toInt ≠ 3 := fun z => hS1_3 (Int32.toInt_inj.mp z)
  have ehS1_4 : (w).toInt ≠ 4 := fun z => hS1_4 (Int32.toInt_inj.mp z)
  have ehS1_5 : (w).toInt ≠ 5 := fun z => hS1_5 (Int32.toInt_inj.mp z)
  refine mg_tabOut K 82 md_A_count_1 (by omega) rfl ?_
  refine mg_iconst K (v := -1) md_A_count_82 (by decide) ?_
  exact mg_iret K hret hlk md_A_count_83 (Nat.le_refl _) (Nat.le_refl _) ⟨by unfold ca_count; rw [if_neg hS1_0, if_neg hS1_1, if_neg hS1_2, if_neg hS1_3, if_neg hS1_4, if_neg hS1_5], rfl, rfl⟩
end CP1
end
section
/-! a new message; receive -/
theorem mr_nfo (n : String) : ∀ x, narrow (.object n) (va_rf x) = va_rf x ∧ fits (.object n) (va_rf x) = true := fun x => by cases x <;> exact ⟨rfl, rfl⟩
theorem mr_nfa (t : FieldType) : ∀ x, narrow (.array t) (va_rf x) = va_rf x ∧ fits (.array t) (va_rf x) = true := fun x => by cases x <;> exact ⟨rfl, rfl⟩
def ca_new (g : ca_S) (nm fn : Int32) (u : Nat) (v : Int32) : ca_S :=
  (fun a b c => if a = 10 ∧ b = ca_nm g then (if c = 0 then nm else if c = 1 then fn else if c = 3 then v else 0) else g.1 a b c, g.2.1, fun b => if b = ca_nm g then u else g.2.2.1 b, g.2.2.2.1, ca_nm g + 1)
theorem ca_mk_eq (g : ca_S) (s n : Nat) (nm fn : Int32) (u : Nat) (v : Int32) : ca_mk g s n nm fn u v = ca_stb (ca_new g nm fn u v) s n (some (ca_nm g)) := rfl
/-- two raw states that say the same of what is there -/
theorem mr_Ceq {tys : List (ClassId × FieldType)} {sh : Nat → mr_Sh} {ad : mg_Ad} {r r' : mr_St} (hp : ∀ k, mr_pn r k = mr_pn r' k) (hi : ∀ k i f, i < mr_pn r' k → mr_iv r k i f = mr_iv r' k i f) (hl : ∀ k i f, i < mr_pn r' k → mr_lv r k i f = mr_lv r' k i f) (hr : ∀ k i f, i < mr_pn r' k → mr_rv r k i f = mr_rv r' k i f) : mr_C tys sh ad r = mr_C tys sh ad r' := by
  funext k i
  unfold mr_C
  rw [hp k]
  by_cases h : i < mr_pn r' k
  · rw [if_pos h, if_pos h]
    congr 2
    · funext f; exact hi k i f h
    · funext f; exact hl k i f h
    · funext f; rw [hr k i f h]
  · rw [if_neg h, if_neg h]
theorem ma_new {tys : List (ClassId × FieldType)} {ad : mg_Ad} (g : ca_S) (q : mr_St) (nm fn : Int32) (u : Nat) (v : Int32) : mr_C tys ma_sh ad (mr_sI (mr_sR (mr_sI (mr_sI (mr_sI (mr_sI (mr_sI (mr_sI (mr_nw (ma_R g q) 10) 10 (ca_nm g) 4 0) 10 (ca_nm g) 5 0) 10 (ca_nm g) 6 0) 10 (ca_nm g) 7 0) 10 (ca_nm g) 0 nm) 10 (ca_nm g) 1 fn) 10 (ca_nm g) 2 (some (7, u))) 10 (ca_nm g) 3 v) = mr_C tys ma_sh ad (ma_R (ca_new g nm fn u v) q) := by
  refine mr_Ceq (fun k => ?_) (fun k i f h => ?_) (fun k i f h => ?_) (fun k i f h => ?_)
  · show (if k = 10 then ca_nm g + 1 else ma_pn g q k) = ma_pn (ca_new g nm fn u v) q k
    by_cases hk : k = 10
    · subst hk
      rfl
    · rw [if_neg hk]
      unfold ma_pn
      simp only [hk, if_false]
  · show mr_u3 (mr_u3 (mr_u3 (mr_u3 (mr_u3 (mr_u3 (mr_u3 (fun a b c => if a = 10 ∧ b = ca_nm g then 0 else ma_iv g q a b c) 10 (ca_nm g) 4 0) 10 (ca_nm g) 5 0) 10 (ca_nm g) 6 0) 10 (ca_nm g) 7 0) 10 (ca_nm g) 0 nm) 10 (ca_nm g) 1 fn) 10 (ca_nm g) 3 v k i f = ma_iv (ca_new g nm fn u v) q k i f
    by_cases hk : k = 10 ∧ i = ca_nm g
    · obtain ⟨rfl, rfl⟩ := hk
      have e : ma_iv (ca_new g nm fn u v) q 10 (ca_nm g) f = if f = 0 then nm else if f = 1 then fn else if f = 3 then v else 0 := by
        show (if (10 : Nat) = 10 ∧ ca_nm g = ca_nm g then _ else _) = _
        exact if_pos ⟨rfl, rfl⟩
      rw [e]
      by_cases f3 : f = 3
      · subst f3; rw [mr_u3_s]; rfl
      rw [mr_u3_n _ _ _ _ _ (fun z => f3 z.2.2)]
      by_cases f1 : f = 1
      · subst f1; rw [mr_u3_s]; rfl
      rw [mr_u3_n _ _ _ _ _ (fun z => f1 z.2.2)]
      by_cases f0 : f = 0
      · subst f0; rw [mr_u3_s]; rfl
      rw [mr_u3_n _ _ _ _ _ (fun z => f0 z.2.2), if_neg f0, if_neg f1, if_neg f3]
      by_cases f7 : f = 7
      · subst f7; rw [mr_u3_s]
      rw [mr_u3_n _ _ _ _ _ (fun z => f7 z.2.2)]
      by_cases f6 : f = 6
      · subst f6; rw [mr_u3_s]
      rw [mr_u3_n _ _ _ _ _ (fun z => f6 z.2.2)]
      by_cases f5 : f = 5
      · subst f5; rw [mr_u3_s]
      rw [mr_u3_n _ _ _ _ _ (fun z => f5 z.2.2)]
      by_cases f4 : f = 4
      · subst f4; rw [mr_u3_s]
      rw [mr_u3_n _ _ _ _ _ (fun z => f4 z.2.2)]
      exact if_pos ⟨rfl, rfl⟩
    · have hn : ∀ c, ¬ (k = 10 ∧ i = ca_nm g ∧ f = c) := fun c z => hk ⟨z.1, z.2.1⟩
      rw [mr_u3_n _ _ _ _ _ (hn _), mr_u3_n _ _ _ _ _ (hn _), mr_u3_n _ _ _ _ _ (hn _), mr_u3_n _ _ _ _ _ (hn _), mr_u3_n _ _ _ _ _ (hn _), mr_u3_n _ _ _ _ _ (hn _), mr_u3_n _ _ _ _ _ (hn _), if_neg hk]
      unfold ma_iv
      have e : ca_iv (ca_new g nm fn u v) k i f = ca_iv g k i f := if_neg hk
      rw [e]
      rfl
  · show (if k = 10 ∧ i = ca_nm g then 0 else ma_lv q k i f) = ma_lv q k i f
    by_cases hk : k = 10 ∧ i = ca_nm g
    · rw [if_pos hk, hk.1]
      rfl
    · exact if_neg hk
  · show mr_u3 (fun a b c => if a = 10 ∧ b = ca_nm g then none else ma_rv g q a b c) 10 (ca_nm g) 2 (some (7, u)) k i f = ma_rv (ca_new g nm fn u v) q k i f
    by_cases hk : k = 10
    · subst hk
      have e : ma_rv (ca_new g nm fn u v) q 10 i f = if f = 2 then some (7, ca_ms (ca_new g nm fn u v) i) else none := rfl
      rw [e]
      by_cases hj : i = ca_nm g
      · subst hj
        have e2 : ca_ms (ca_new g nm fn u v) (ca_nm g) = u := if_pos rfl
        rw [e2]
        by_cases f2 : f = 2
        · subst f2; rw [mr_u3_s]; rfl
        · rw [mr_u3_n _ _ _ _ _ (fun z => f2 z.2.2), if_neg f2]
          exact if_pos ⟨rfl, rfl⟩
      · have e2 : ca_ms (ca_new g nm fn u v) i = ca_ms g i := if_neg hj
        rw [mr_u3_n _ _ _ _ _ (fun z => hj z.2.1), if_neg (fun z => hj z.2), e2]
        rfl
    · rw [mr_u3_n _ _ _ _ _ (fun z => hk z.1), if_neg (fun z => hk z.1)]
      unfold ma_rv
      simp only [hk, if_false]
      rfl
section CN1
variable {l : Launch} {D : va_G} {Z : Nat × Cell} {tys : List (ClassId × FieldType)} {ad : mg_Ad}
theorem ct_G_init (g : ca_S) (q : mr_St) (nm fn : Int32) {u : Nat} (v : Int32) (hu : u < 16) : mg_M l my_G_init [Cond.code my_G_init mc_G_init 5 none] (mg_rm 1 0 0) D mn_cl Z mb_B tys [va_rf (some (ad 10 (ca_nm g))), .int nm, .int fn, va_rf (some (ad 7 u)), .int v] ad (mr_C tys ma_sh ad (mr_nw (ma_R g q) 10)) 0 0 (mg_Po tys ma_sh ad none (ma_R (ca_new g nm fn u v) q)) := by
  refine mg_M.of (cc := mc_G_init) (maxL := 5) (ret := none) (by decide) rfl (Nat.le_of_ble_eq_true rfl) (mg_caS rfl (mg_caS rfl (mg_caS rfl (mg_caS rfl (mg_caS rfl mg_ca0))))) ?_
  intro p e s m args below meth c K hret hlk hnm hA
  refine mg_aload_n K md_G_init_0 rfl ?_
  refine mg_objInit K md_G_init_1 ms_G_3 mb_oi.1 mb_oi.2 (by decide) (by decide) ?_
  refine mg_aload_n K md_G_init_4 rfl ?_
  refine mg_iconst K (v := 0) md_G_init_5 (by decide) ?_
  refine mr_putI K mf_G_9 md_G_init_6 (Nat.lt_succ_self (ca_nm g)) ?_
  refine mg_aload_n K md_G_init_9 rfl ?_
  refine mg_iconst K (v := 0) md_G_init_10 (by decide) ?_
  refine mr_putI K mf_G_15 md_G_init_11 (Nat.lt_succ_self (ca_nm g)) ?_
  refine mg_aload_n K md_G_init_14 rfl ?_
  refine mg_iconst K (v := 0) md_G_init_15 (by decide) ?_
  refine mr_putI K mf_G_18 md_G_init_16 (Nat.lt_succ_self (ca_nm g)) ?_
  refine mg_aload_n K md_G_init_19 rfl ?_
  refine mg_iconst K (v := 0) md_G_init_20 (by decide) ?_
  refine mr_putI K mf_G_21 md_G_init_21 (Nat.lt_succ_self (ca_nm g)) ?_
  refine mg_aload_n K md_G_init_24 rfl ?_
  refine mg_iload_n K md_G_init_25 rfl ?_
  refine mr_putFI K hnm mf_G_24 md_G_init_26 (Nat.lt_succ_self (ca_nm g)) ?_
  refine mg_aload_n K md_G_init_29 rfl ?_
  refine mg_iload_n K md_G_init_30 rfl ?_
  refine mr_putFI K hnm mf_G_27 md_G_init_31 (Nat.lt_succ_self (ca_nm g)) ?_
  refine mg_aload_n K md_G_init_34 rfl ?_
  refine mg_aload_n K md_G_init_35 rfl ?_
  refine mr_putFS (k2 := 7) (i2 := u) K hnm mf_G_30 md_G_init_36 (Nat.lt_succ_self (ca_nm g)) (mr_nfo _) ?_
  refine mg_aload_n K md_G_init_39 rfl ?_
  refine mg_iload K md_G_init_40 rfl ?_
  refine mr_putFI K hnm mf_G_34 md_G_init_42 (Nat.lt_succ_self (ca_nm g)) ?_
  exact mg_vret K hret hlk md_G_init_45 (Nat.le_refl _) (Nat.le_refl _) ⟨rfl, rfl, ma_new g q nm fn u v⟩
theorem mi_vf {fn : Int32} (h1 : ¬ fn < 0) (h2 : fn.toNatClampNeg < 5) : cv_f fn := by
  obtain ⟨n, hn, rfl⟩ := mi_ex h1
  rw [mi_tn hn] at h2
  exact ⟨h1, fun z => by have := (mi_le (a := 5) (b := n) (by omega) hn).mp z; omega⟩
def ca_recv (g : ca_S) (s0 n : Nat) (fn : Int32) (u : Nat) (v : Int32) : ca_S × Int32 := if ca_gap g s0 n then (ca_come (ca_mk g s0 n (1000 * Int32.ofNat s0 + Int32.ofNat n) fn u v) s0 (ca_nm g), ca_recd (ca_come (ca_mk g s0 n (1000 * Int32.ofNat s0 + Int32.ofNat n) fn u v) s0 (ca_nm g)) (ca_nm g)) else (ca_si g 0 0 8 (ca_iv g 0 0 8 + 1), 3)
theorem ct_A_receive (hty : tys.map (·.2) = ma_ty) (g : ca_S) (q : mr_St) {s0 n u : Nat} (fn v : Int32) (hs : s0 < 4) (h1 : 1 ≤ n) (h24 : n ≤ 24) (hf : cv_f fn) (hu : u < 16) (hv : cv_v v) (hok : ca_ok g) (hq : ∀ k i f x, 20 ≤ k → i < mr_pn q k → mr_rv q k i f = some x → x.2 < mr_pn q x.1 ∧ 20 ≤ x.1) : mr_MA l my_A_receive mc_A_receive 8 (some .int) 7 1 8 D mn_cl Z mb_B tys ma_sh [va_rf (some (ad 0 0)), .int (Int32.ofNat s0), .int (Int32.ofNat n), .int fn, .int (Int32.ofNat u), .int v] ad (ma_R g q) (some (.int (ca_recv g s0 n fn u v).2)) (ma_R (ca_recv g s0 n fn u v).1 q) := by
  have hwf := ma_wf hok hq
  have hmk : ca_ok (ca_mk g s0 n (1000 * Int32.ofNat s0 + Int32.ofNat n) fn u v) := ca_ok.mk hok s0 n _ fn u v hu hf.1 (by obtain ⟨w, hw, rfl⟩ := cv_f_ex hf; rw [mi_tn (by omega)]; exact hw)
  have hnn : ca_nm g < ca_nm (ca_mk g s0 n (1000 * Int32.ofNat s0 + Int32.ofNat n) fn u v) := Nat.lt_succ_self _
  have tc := ca_to.come hmk s0 hnn
  refine mg_M.of (cc := mc_A_receive) (maxL := 8) (ret := (some .int)) (by decide) rfl (Nat.le_of_ble_eq_true rfl) (mg_caS rfl (mg_caS rfl (mg_caS rfl (mg_caS rfl (mg_caS rfl (mg_caS rfl mg_ca0)))))) ?_
  intro p e s m args below meth c K hret hlk hnm hA
  refine mg_iload_n K md_A_receive_0 rfl ?_
  refine mr_cP K hA (ct_A_checkSender (Int32.ofNat s0) (mi_vs hs)) ms_A_50 (by decide) md_A_receive_1 rfl (by decide) ⟨Nat.zero_le _, Nat.zero_le _⟩ ?_
  refine mg_iload_n K md_A_receive_4 rfl ?_
  refine mr_cP K hA (ct_A_checkNumber (Int32.ofNat n) (mi_vN h1 h24)) ms_A_54 (by decide) md_A_receive_5 rfl (by decide) ⟨Nat.zero_le _, Nat.zero_le _⟩ ?_
  refine mg_iload_n K md_A_receive_8 rfl ?_
  refine mg_iload K md_A_receive_9 rfl ?_
  refine mg_iload K md_A_receive_11 rfl ?_
  refine mr_cP K hA (ct_A_checkContent fn (Int32.ofNat u) v hf (mi_vu hu) hv) ms_A_57 (by decide) md_A_receive_13 rfl (by decide) ⟨Nat.zero_le _, Nat.zero_le _⟩ ?_
  refine mg_aload_n K md_A_receive_16 rfl ?_
  refine mr_getS K mf_A_11 md_A_receive_17 Nat.zero_lt_one rfl ?_
  refine mg_iload_n K md_A_receive_20 rfl ?_
  refine mr_aaldS (k2 := 4) (i2 := s0) K rfl (ma_t hty 0) md_A_receive_21 Nat.zero_lt_one (mi_vn (by omega) (by omega)) (by rw [mi_tn (by omega)]; exact ma_lst hs g q) ?_
  refine mg_astore K md_A_receive_22 (by decide) ?_
  refine mg_aload K md_A_receive_24 rfl ?_
  refine mg_iload_n K md_A_receive_26 rfl ?_
  refine mr_cV K hA (ct_S_isGap hty g q hs h1 h24 (hok.1 s0 n)) ms_A_61 (by decide) md_A_receive_27 rfl rfl hs rfl (by decide) ⟨Nat.zero_le _, Nat.zero_le _⟩ ?_
  refine mg_if_ne K 45 md_A_receive_30 rfl (fun h30 => ?_) (fun h30 => ?_)
  · have hg : ca_gap g s0 n = true := by cases hh : ca_gap g s0 n with | true => rfl | false => (rw [hh] at h30; exact absurd rfl h30)
    have hrc : ca_recv g s0 n fn u v = (ca_come (ca_mk g s0 n (1000 * Int32.ofNat s0 + Int32.ofNat n) fn u v) s0 (ca_nm g), ca_recd (ca_come (ca_mk g s0 n (1000 * Int32.ofNat s0 + Int32.ofNat n) fn u v) s0 (ca_nm g)) (ca_nm g)) := if_pos hg
    rw [hrc]
    refine mr_new K 10 hA hwf mw_A_65 md_A_receive_45 (by decide) (by decide) (fun ad' had => ?_)
    rw [← had 0 0 Nat.zero_lt_one, ← had 4 s0 hs]
    refine mg_dup K md_A_receive_48 rfl ?_
    refine mg_sipush K (v := 1000) md_A_receive_49 (by decide) ?_
    refine mg_iload_n K md_A_receive_52 rfl ?_
    refine mg_imul K md_A_receive_53 ?_
    refine mg_iload_n K md_A_receive_54 rfl ?_
    refine mg_iadd K md_A_receive_55 ?_
    refine mg_iload_n K md_A_receive_56 rfl ?_
    refine mg_aload_n K md_A_receive_57 rfl ?_
    refine mr_getS K mf_A_17 md_A_receive_58 Nat.zero_lt_one rfl ?_
    refine mg_iload K md_A_receive_61 rfl ?_
    refine mr_aaldS (k2 := 7) (i2 := u) K rfl (ma_t hty 1) md_A_receive_63 Nat.zero_lt_one (mi_vn (by omega) (by omega)) (by rw [mi_tn (by omega)]; exact ma_sub hu g q) ?_
    refine mg_iload K md_A_receive_64 rfl ?_
    refine mr_cI K hA (ct_G_init g q (1000 * Int32.ofNat s0 + Int32.ofNat n) fn v hu) ms_A_67 (by decide) md_A_receive_66 rfl (Nat.le_of_ble_eq_true rfl) ⟨by decide, by decide⟩ ?_
    refine mg_astore K md_A_receive_69 (by decide) ?_
    refine mg_aload K md_A_receive_71 rfl ?_
    refine mg_iload_n K md_A_receive_73 rfl ?_
    refine mg_aload K md_A_receive_74 rfl ?_
    refine mr_cV K hA (ct_S_put hty (ca_new g (1000 * Int32.ofNat s0 + Int32.ofNat n) fn u v) q (j := ca_nm g) hs h1 h24 (Nat.lt_succ_self _)) ms_A_70 (by decide) md_A_receive_76 rfl rfl hs rfl (by decide) ⟨by decide, by decide⟩ ?_
    refine mg_aload_n K md_A_receive_79 rfl ?_
    refine mg_aload K md_A_receive_80 rfl ?_
    refine mg_aload K md_A_receive_82 rfl ?_
    refine mr_cV K hA (ct_A_come hty (ca_mk g s0 n (1000 * Int32.ofNat s0 + Int32.ofNat n) fn u v) q hs hmk hnn) ms_A_74 (by decide) md_A_receive_84 rfl rfl Nat.zero_lt_one rfl (by decide) ⟨by decide, by decide⟩ ?_
    refine mg_aload K md_A_receive_87 rfl ?_
    refine mr_cS K hA (ct_A_received hty (ca_come (ca_mk g s0 n (1000 * Int32.ofNat s0 + Int32.ofNat n) fn u v) s0 (ca_nm g)) q (tc.lt hnn)) ms_A_78 (by decide) md_A_receive_89 rfl (by decide) ⟨by decide, by decide⟩ ?_
    exact mg_iret K hret hlk md_A_receive_92 (by decide) (by decide) ⟨rfl, had, rfl⟩
  · have hg : ¬ ca_gap g s0 n = true := fun hh => by rw [hh] at h30; exact absurd h30 (by decide)
    have hrc : ca_recv g s0 n fn u v = (ca_si g 0 0 8 (ca_iv g 0 0 8 + 1), 3) := if_neg hg
    rw [hrc]
    refine mg_aload_n K md_A_receive_33 rfl ?_
    refine mg_dup K md_A_receive_34 rfl ?_
    refine mr_getI (v := ca_iv g 0 0 8) K mf_A_45 md_A_receive_35 (by decide) Nat.zero_lt_one rfl ?_
    refine mg_iconst K (v := 1) md_A_receive_38 (by decide) ?_
    refine mg_iadd K md_A_receive_39 ?_
    refine mr_putI K mf_A_45 md_A_receive_40 Nat.zero_lt_one ?_
    refine mr_eqr (ma_sI _ _ _ _ _ _ (by decide) (by decide)) ?_
    refine mg_iconst K (v := 3) md_A_receive_43 (by decide) ?_
    exact mg_iret K hret hlk md_A_receive_44 (by decide) (by decide) ⟨rfl, fun _ _ _ => rfl, rfl⟩
end CN1
end
section
/-! the class's constructors -/
theorem mr_sI_id {r : mr_St} {k i f : Nat} {v : Int32} (h : mr_iv r k i f = v) : mr_sI r k i f v = r := by
  refine Prod.ext ?_ rfl
  funext a b c
  show mr_u3 r.1 k i f v a b c = r.1 a b c
  by_cases hz : a = k ∧ b = i ∧ c = f
  · obtain ⟨rfl, rfl, rfl⟩ := hz
    rw [mr_u3_s]
    exact h.symm
  · exact mr_u3_n _ _ _ _ _ hz
theorem mr_nw_le (r : mr_St) (k a : Nat) : mr_pn r a ≤ mr_pn (mr_nw r k) a := by
  rw [mr_nw_pn]
  split
  · next h => rw [h]; omega
  · exact Nat.le_refl _
def ci_rv (n1 n2 n3 nl ns nu : Nat) (q : mr_St) (k i f : Nat) : Option (Nat × Nat) :=
  if k = 0 then (if f = 0 then (if n1 = 1 then some (1, 0) else none) else if f = 1 then (if n2 = 1 then some (2, 0) else none) else if f = 2 then (if n3 = 1 then some (3, 0) else none) else if f < 3 + nl then some (8, f - 3) else none)
  else if k = 1 then (if f < ns then some (4, f) else none)
  else if k = 2 then (if f < nu then some (7, f) else none)
  else if k = 4 then (if f = 0 then some (5, i) else if f = 1 then some (6, i) else none)
  else if k = 8 then (if f = 0 then some (9, i) else none)
  else if k < 20 then none else mr_rv q k i f
def ci_pn (n1 n2 n3 nl ns nu : Nat) (q : mr_St) (k : Nat) : Nat :=
  if k = 0 then 1 else if k = 1 then n1 else if k = 2 then n2 else if k = 3 then n3 else if k = 4 then ns else if k = 5 then ns else if k = 6 then ns else if k = 7 then nu else if k = 8 then nl else if k = 9 then nl else if k < 20 then 0 else mr_pn q k
def ci (n1 n2 n3 nl ns nu : Nat) (q : mr_St) : mr_St := (fun k i f => if k < 20 then 0 else mr_iv q k i f, ma_lv q, ci_rv n1 n2 n3 nl ns nu q, ci_pn n1 n2 n3 nl ns nu q)
theorem ci_iv0 {n1 n2 n3 nl ns nu : Nat} {q : mr_St} {k i f : Nat} (h : k < 20) : mr_iv (ci n1 n2 n3 nl ns nu q) k i f = 0 := if_pos h
theorem ci_wf {n1 n2 n3 nl ns nu : Nat} {q : mr_St} (h4 : nl ≤ 4) (h1 : n1 ≤ 1) (hq : ∀ k i f x, 20 ≤ k → i < mr_pn q k → mr_rv q k i f = some x → x.2 < mr_pn q x.1 ∧ 20 ≤ x.1) : mr_wf (ci n1 n2 n3 nl ns nu q) := by
  intro k i f x hi hx
  change i < ci_pn n1 n2 n3 nl ns nu q k at hi
  change ci_rv n1 n2 n3 nl ns nu q k i f = some x at hx
  show x.2 < ci_pn n1 n2 n3 nl ns nu q x.1
  unfold ci_rv at hx
  by_cases k0 : k = 0
  · subst k0
    rw [if_pos rfl] at hx
    split at hx
    · split at hx
      · next h => cases hx; show 0 < n1; omega
      · cases hx
    · split at hx
      · split at hx
        · next h => cases hx; show 0 < n2; omega
        · cases hx
      · split at hx
        · split at hx
          · next h => cases hx; show 0 < n3; omega
          · cases hx
        · split at hx
          · next hf => cases hx; show f - 3 < nl; omega
          · cases hx
  rw [if_neg k0] at hx
  by_cases k1 : k = 1
  · rw [if_pos k1] at hx
    split at hx
    · cases hx; assumption
    · cases hx
  rw [if_neg k1] at hx
  by_cases k2 : k = 2
  · rw [if_pos k2] at hx
    split at hx
    · cases hx; assumption
    · cases hx
  rw [if_neg k2] at hx
  by_cases k4 : k = 4
  · subst k4
    rw [if_pos rfl] at hx
    split at hx
    · cases hx; exact hi
    · split at hx
      · cases hx; exact hi
      · cases hx
  rw [if_neg k4] at hx
  by_cases k8 : k = 8
  · subst k8
    rw [if_pos rfl] at hx
    split at hx
    · cases hx; exact hi
    · cases hx
  rw [if_neg k8] at hx
  by_cases k20 : k < 20
  · rw [if_pos k20] at hx; cases hx
  rw [if_neg k20] at hx
  have hp : ∀ z, 20 ≤ z → ci_pn n1 n2 n3 nl ns nu q z = mr_pn q z := fun z hz => by
    unfold ci_pn
    rw [if_neg (by omega), if_neg (by omega), if_neg (by omega), if_neg (by omega), if_neg (by omega), if_neg (by omega), if_neg (by omega), if_neg (by omega), if_neg (by omega), if_neg (by omega), if_neg (by omega)]
  rw [hp k (by omega)] at hi
  obtain ⟨g1, g2⟩ := hq k i f x (by omega) hi hx
  rw [hp _ g2]
  exact g1
def ca_init : ca_S := (fun _ _ _ => 0, fun _ _ => none, fun _ => 0, fun _ => [], 0)
theorem ca_init_ok : ca_ok ca_init := ⟨fun _ _ _ h => (by cases h), fun _ _ h => (by cases h), fun _ => Nat.zero_le _, fun _ h => absurd h (Nat.not_lt_zero _)⟩
theorem ci_end {tys : List (ClassId × FieldType)} {ad : mg_Ad} (q : mr_St) : mr_C tys ma_sh ad (ci 1 1 1 4 4 16 q) = mr_C tys ma_sh ad (ma_R ca_init q) := by
  have hpn : ∀ k, ci_pn 1 1 1 4 4 16 q k = ma_pn ca_init q k := by
    intro k
    unfold ci_pn ma_pn
    by_cases h20 : k < 20
    · match k, h20 with
      | 0, _ | 1, _ | 2, _ | 3, _ | 4, _ | 5, _ | 6, _ | 7, _ | 8, _ | 9, _ | 10, _ | 11, _ | 12, _ | 13, _ | 14, _ | 15, _ | 16, _ | 17, _ | 18, _ | 19, _ => rfl
      | _ + 20, h => exact absurd h (by omega)
    · rw [if_neg (by omega), if_neg (by omega), if_neg (by omega), if_neg (by omega), if_neg (by omega), if_neg (by omega), if_neg (by omega), if_neg (by omega), if_neg (by omega), if_neg (by omega), if_neg h20, if_neg (by omega), if_neg (by omega), if_neg (by omega), if_neg (by omega)]
  refine mr_Ceq hpn (fun k i f h => ?_) (fun k i f h => rfl) (fun k i f h => ?_)
  · show (if k < 20 then 0 else mr_iv q k i f) = ma_iv ca_init q k i f
    unfold ma_iv
    by_cases h8 : k = 8
    · subst h8
      have e : (if f = 1 then Int32.ofNat (ca_ln ca_init i).length else (0 : Int32)) = 0 := by split <;> rfl
      rw [if_pos rfl, e]
      rfl
    · rw [if_neg h8]
      rfl
  · show ci_rv 1 1 1 4 4 16 q k i f = ma_rv ca_init q k i f
    unfold ci_rv ma_rv
    by_cases k0 : k = 0
    · rw [if_pos k0, if_pos k0]; rfl
    rw [if_neg k0, if_neg k0]
    by_cases k1 : k = 1
    · rw [if_pos k1, if_pos k1]
    rw [if_neg k1, if_neg k1]
    by_cases k2 : k = 2
    · rw [if_pos k2, if_pos k2]
    rw [if_neg k2, if_neg k2]
    by_cases k4 : k = 4
    · rw [if_pos k4, if_pos k4]
    rw [if_neg k4, if_neg k4]
    by_cases k5 : k = 5
    · subst k5; rfl
    rw [if_neg k5]
    by_cases k8 : k = 8
    · rw [if_pos k8, if_pos k8]
    rw [if_neg k8, if_neg k8]
    by_cases k9 : k = 9
    · subst k9; rfl
    rw [if_neg k9]
    by_cases k10 : k = 10
    · subst k10
      exact absurd h (Nat.not_lt_zero _)
    rw [if_neg k10]
/-- a reference is put where nothing was; a new one is there: what of it matters -/
theorem ci_step {tys : List (ClassId × FieldType)} {ad : mg_Ad} {r r' : mr_St} (hp : ∀ k, mr_pn r k = mr_pn r' k) (hi : mr_iv r = mr_iv r') (hl : mr_lv r = mr_lv r') (hr : ∀ k i f, i < mr_pn r' k → mr_rv r k i f = mr_rv r' k i f) : mr_C tys ma_sh ad r = mr_C tys ma_sh ad r' :=
  mr_Ceq hp (fun _ _ _ _ => by rw [hi]) (fun _ _ _ _ => by rw [hl]) hr
section CC1
variable {l : Launch} {D : va_G} {Z : Nat × Cell} {tys : List (ClassId × FieldType)} {ad : mg_Ad}
theorem ct_U_init (r : mr_St) {i : Nat} (hi : i < mr_pn r 7) (h0 : ∀ f, mr_iv r 7 i f = 0) : mr_M l my_U_init mc_U_init 1 none 1 D mn_cl Z mb_B tys ma_sh [va_rf (some (ad 7 i))] ad r none r := by
  refine mg_M.of (cc := mc_U_init) (maxL := 1) (ret := none) (by decide) rfl (Nat.le_of_ble_eq_true rfl) (mg_caS rfl mg_ca0) ?_
  intro p e s m args below meth c K hret hlk hnm hA
  refine mg_aload_n K md_U_init_0 rfl ?_
  refine mg_objInit K md_U_init_1 ms_U_3 mb_oi.1 mb_oi.2 (by decide) (by decide) ?_
  refine mg_aload_n K md_U_init_4 rfl ?_
  refine mg_iconst K (v := 0) md_U_init_5 (by decide) ?_
  refine mr_putI K mf_U_9 md_U_init_6 hi ?_
  refine mr_eqr (mr_sI_id (h0 _)) ?_
  refine mg_aload_n K md_U_init_9 rfl ?_
  refine mg_iconst K (v := 0) md_U_init_10 (by decide) ?_
  refine mr_putI K mf_U_15 md_U_init_11 hi ?_
  refine mr_eqr (mr_sI_id (h0 _)) ?_
  refine mg_aload_n K md_U_init_14 rfl ?_
  refine mg_iconst K (v := 0) md_U_init_15 (by decide) ?_
  refine mr_putI K mf_U_18 md_U_init_16 hi ?_
  refine mr_eqr (mr_sI_id (h0 _)) ?_
  exact mg_vret K hret hlk md_U_init_19 (Nat.le_refl _) (Nat.le_refl _) ⟨rfl, rfl, rfl⟩
theorem ct_L_init (hty : tys.map (·.2) = ma_ty) (r : mr_St) {i : Nat} (hi : i < mr_pn r 8) (h0 : mr_iv r 8 i 1 = 0) (hwf : mr_wf r) : mr_MA l my_L_init mc_L_init 1 none 1 1 96 D mn_cl Z mb_B tys ma_sh [va_rf (some (ad 8 i))] ad r none (mr_sR (mr_nw r 9) 8 i 0 (some (9, mr_pn r 9))) := by
  refine mg_M.of (cc := mc_L_init) (maxL := 1) (ret := none) (by decide) rfl (Nat.le_of_ble_eq_true rfl) (mg_caS rfl mg_ca0) ?_
  intro p e s m args below meth c K hret hlk hnm hA
  refine mg_aload_n K md_L_init_0 rfl ?_
  refine mg_objInit K md_L_init_1 ms_L_3 mb_oi.1 mb_oi.2 (by decide) (by decide) ?_
  refine mg_aload_n K md_L_init_4 rfl ?_
  refine mg_bipush K (v := 96) md_L_init_5 (by decide) ?_
  refine mr_newR (N' := 96) K 9 hA hwf rfl (ma_t hty 3) md_L_init_7 mq_L_9.1 mq_L_9.2 (by decide) (by decide) (by decide) (by decide) (by decide) (fun ad' had => ?_)
  rw [← had 8 i hi]
  refine mr_putFS (k2 := 9) (i2 := mr_pn r 9) K hnm mf_L_11 md_L_init_10 hi (mr_nfa _) ?_
  refine mg_aload_n K md_L_init_13 rfl ?_
  refine mg_iconst K (v := 0) md_L_init_14 (by decide) ?_
  refine mr_putI K mf_L_17 md_L_init_15 hi ?_
  refine mr_eqr (mr_sI_id h0) ?_
  exact mg_vret K hret hlk md_L_init_18 (by decide) (by decide) ⟨rfl, had, rfl⟩
theorem ct_S_init (hty : tys.map (·.2) = ma_ty) (r : mr_St) {i : Nat} (hi : i < mr_pn r 4) (hwf : mr_wf r) : mr_MA l my_S_init mc_S_init 1 none 1 2 50 D mn_cl Z mb_B tys ma_sh [va_rf (some (ad 4 i))] ad r none (mr_sR (mr_nw (mr_sR (mr_nw r 5) 4 i 0 (some (5, mr_pn r 5))) 6) 4 i 1 (some (6, mr_pn r 6))) := by
  have hwf2 : mr_wf (mr_sR (mr_nw r 5) 4 i 0 (some (5, mr_pn r 5))) := (hwf.nw 5).sR 4 i 0 _ (fun q h => by cases h; show mr_pn r 5 < mr_pn (mr_nw r 5) 5; rw [mr_nw_pn, if_pos rfl]; omega)
  refine mg_M.of (cc := mc_S_init) (maxL := 1) (ret := none) (by decide) rfl (Nat.le_of_ble_eq_true rfl) (mg_caS rfl mg_ca0) ?_
  intro p e s m args below meth c K hret hlk hnm hA
  refine mg_aload_n K md_S_init_0 rfl ?_
  refine mg_objInit K md_S_init_1 ms_S_3 mb_oi.1 mb_oi.2 (by decide) (by decide) ?_
  refine mg_aload_n K md_S_init_4 rfl ?_
  refine mg_bipush K (v := 25) md_S_init_5 (by decide) ?_
  refine mr_newR (N' := 25) K 5 hA hwf rfl (ma_t hty 3) md_S_init_7 mq_S_9.1 mq_S_9.2 (by decide) (by decide) (by decide) (by decide) (by decide) (fun ad' had => ?_)
  rw [← had 4 i hi]
  refine mr_putFS (k2 := 5) (i2 := mr_pn r 5) K hnm mf_S_11 md_S_init_10 hi (mr_nfa _) ?_
  refine mg_aload_n K md_S_init_13 rfl ?_
  refine mg_bipush K (v := 25) md_S_init_14 (by decide) ?_
  refine mr_newI (N' := 25) K 6 hA hwf2 rfl (ma_t hty 2) md_S_init_16 mb_ar_boolean rfl rfl (by decide) (by decide) (by decide) (by decide) (by decide) (fun ad2 had2 => ?_)
  rw [← had2 4 i hi]
  refine mr_putFS (k2 := 6) (i2 := mr_pn r 6) K hnm mf_S_17 md_S_init_18 hi (mr_nfa _) ?_
  exact mg_vret K hret hlk md_S_init_21 (by decide) (by decide) ⟨rfl, fun a b hb => (had2 a b (Nat.lt_of_lt_of_le hb (mr_nw_le r 5 a))).trans (had a b hb), rfl⟩
theorem ci_mono {n1 n2 n3 nl ns nu : Nat} {q : mr_St} {a b : Nat} (h : b < mr_pn (ci 0 0 0 0 0 0 q) a) : b < mr_pn (ci n1 n2 n3 nl ns nu q) a := by
  change b < ci_pn 0 0 0 0 0 0 q a at h
  show b < ci_pn n1 n2 n3 nl ns nu q a
  unfold ci_pn at h ⊢
  by_cases h0 : a = 0
  · rw [if_pos h0] at h ⊢; exact h
  rw [if_neg h0] at h ⊢
  by_cases h1 : a = 1
  · rw [if_pos h1] at h; omega
  by_cases h2 : a = 2
  · rw [if_neg h1, if_pos h2] at h; omega
  by_cases h3 : a = 3
  · rw [if_neg h1, if_neg h2, if_pos h3] at h; omega
  by_cases h4 : a = 4
  · rw [if_neg h1, if_neg h2, if_neg h3, if_pos h4] at h; omega
  by_cases h5 : a = 5
  · rw [if_neg h1, if_neg h2, if_neg h3, if_neg h4, if_pos h5] at h; omega
  by_cases h6 : a = 6
  · rw [if_neg h1, if_neg h2, if_neg h3, if_neg h4, if_neg h5, if_pos h6] at h; omega
  by_cases h7 : a = 7
  · rw [if_neg h1, if_neg h2, if_neg h3, if_neg h4, if_neg h5, if_neg h6, if_pos h7] at h; omega
  by_cases h8 : a = 8
  · rw [if_neg h1, if_neg h2, if_neg h3, if_neg h4, if_neg h5, if_neg h6, if_neg h7, if_pos h8] at h; omega
  by_cases h9 : a = 9
  · rw [if_neg h1, if_neg h2, if_neg h3, if_neg h4, if_neg h5, if_neg h6, if_neg h7, if_neg h8, if_pos h9] at h; omega
  rw [if_neg h1, if_neg h2, if_neg h3, if_neg h4, if_neg h5, if_neg h6, if_neg h7, if_neg h8, if_neg h9] at h ⊢
  exact h
theorem ci_P0 {r q : mr_St} (k0 : Nat) (h0 : k0 < 20) (h : ∀ k i f, mr_iv r k i f = if k < 20 then 0 else mr_iv q k i f) : ∀ k i f, mr_iv (mr_nw r k0) k i f = if k < 20 then 0 else mr_iv q k i f := by
  intro k i f
  show (if k = k0 ∧ i = mr_pn r k0 then 0 else mr_iv r k i f) = _
  by_cases hz : k = k0 ∧ i = mr_pn r k0
  · rw [if_pos hz, hz.1, if_pos h0]
  · rw [if_neg hz]; exact h k i f
theorem ci_L0 {r q : mr_St} (k0 : Nat) (h0 : k0 < 20) (h : ∀ k i f, mr_lv r k i f = ma_lv q k i f) : ∀ k i f, mr_lv (mr_nw r k0) k i f = ma_lv q k i f := by
  intro k i f
  show (if k = k0 ∧ i = mr_pn r k0 then 0 else mr_lv r k i f) = _
  by_cases hz : k = k0 ∧ i = mr_pn r k0
  · rw [if_pos hz, hz.1]
    exact (if_pos h0).symm
  · rw [if_neg hz]; exact h k i f
theorem ci_x {q r : mr_St} {n1 n2 n3 nl ns nu : Nat} (hi : ∀ k i f, mr_iv r k i f = if k < 20 then 0 else mr_iv q k i f) (hl : ∀ k i f, mr_lv r k i f = ma_lv q k i f) (hp : ∀ k, mr_pn r k = ci_pn n1 n2 n3 nl ns nu q k) (hr : ∀ k i f, i < ci_pn n1 n2 n3 nl ns nu q k → mr_rv r k i f = ci_rv n1 n2 n3 nl ns nu q k i f) : mr_C tys ma_sh ad r = mr_C tys ma_sh ad (ci n1 n2 n3 nl ns nu q) :=
  mr_Ceq hp (fun k i f _ => hi k i f) (fun k i f _ => hl k i f) hr
theorem ci_I {n1 n2 n3 nl ns nu : Nat} {q : mr_St} : ∀ k i f, mr_iv (ci n1 n2 n3 nl ns nu q) k i f = if k < 20 then 0 else mr_iv q k i f := fun _ _ _ => rfl
theorem ci_J {n1 n2 n3 nl ns nu : Nat} {q : mr_St} : ∀ k i f, mr_lv (ci n1 n2 n3 nl ns nu q) k i f = ma_lv q k i f := fun _ _ _ => rfl
theorem ci_a1 {q : mr_St} : mr_C tys ma_sh ad (mr_sR (mr_nw (ci 0 0 0 0 0 0 q) 1) 0 0 0 (some (1, 0))) = mr_C tys ma_sh ad (ci 1 0 0 0 0 0 q) := by
  refine ci_x (ci_P0 1 (by decide) ci_I) (ci_L0 1 (by decide) ci_J) (fun k => ?_) (fun k i f h => ?_)
  · show (if k = 1 then ci_pn 0 0 0 0 0 0 q 1 + 1 else ci_pn 0 0 0 0 0 0 q k) = _
    by_cases hk : k = 1
    · subst hk; rfl
    · rw [if_neg hk]; unfold ci_pn; simp only [hk, if_false]
  · show mr_u3 (fun a b c => if a = 1 ∧ b = ci_pn 0 0 0 0 0 0 q 1 then none else ci_rv 0 0 0 0 0 0 q a b c) 0 0 0 (some (1, 0)) k i f = ci_rv 1 0 0 0 0 0 q k i f
    by_cases k0 : k = 0
    · subst k0
      have hi : i = 0 := by have h2 : i < 1 := h; omega
      subst hi
      by_cases hf : f = 0
      · subst hf; rw [mr_u3_s]; rfl
      · rw [mr_u3_n _ _ _ _ _ (fun z => hf z.2.2), if_neg (fun z => by cases z.1)]
        unfold ci_rv
        simp only [hf, if_false]
    · rw [mr_u3_n _ _ _ _ _ (fun z => k0 z.1)]
      by_cases hk : k = 1
      · subst hk
        have h2 : i < 1 := h
        rw [if_pos ⟨rfl, by show i = 0; omega⟩]
        rfl
      · rw [if_neg (fun z => hk z.1)]
        unfold ci_rv
        simp only [k0, if_false]
theorem ci_a2 {q : mr_St} : mr_C tys ma_sh ad (mr_sR (mr_nw (ci 1 0 0 0 0 0 q) 2) 0 0 1 (some (2, 0))) = mr_C tys ma_sh ad (ci 1 1 0 0 0 0 q) := by
  refine ci_x (ci_P0 2 (by decide) ci_I) (ci_L0 2 (by decide) ci_J) (fun k => ?_) (fun k i f h => ?_)
  · show (if k = 2 then ci_pn 1 0 0 0 0 0 q 2 + 1 else ci_pn 1 0 0 0 0 0 q k) = _
    by_cases hk : k = 2
    · subst hk; rfl
    · rw [if_neg hk]; unfold ci_pn; simp only [hk, if_false]
  · show mr_u3 (fun a b c => if a = 2 ∧ b = ci_pn 1 0 0 0 0 0 q 2 then none else ci_rv 1 0 0 0 0 0 q a b c) 0 0 1 (some (2, 0)) k i f = ci_rv 1 1 0 0 0 0 q k i f
    by_cases k0 : k = 0
    · subst k0
      have hi : i = 0 := by have h2 : i < 1 := h; omega
      subst hi
      by_cases hf : f = 1
      · subst hf; rw [mr_u3_s]; rfl
      · rw [mr_u3_n _ _ _ _ _ (fun z => hf z.2.2), if_neg (fun z => by cases z.1)]
        unfold ci_rv
        simp only [hf, if_false]
    · rw [mr_u3_n _ _ _ _ _ (fun z => k0 z.1)]
      by_cases hk : k = 2
      · subst hk
        have h2 : i < 1 := h
        rw [if_pos ⟨rfl, by show i = 0; omega⟩]
        rfl
      · rw [if_neg (fun z => hk z.1)]
        unfold ci_rv
        simp only [k0, if_false]
theorem ci_a3 {q : mr_St} : mr_C tys ma_sh ad (mr_sR (mr_nw (ci 1 1 0 0 0 0 q) 3) 0 0 2 (some (3, 0))) = mr_C tys ma_sh ad (ci 1 1 1 0 0 0 q) := by
  refine ci_x (ci_P0 3 (by decide) ci_I) (ci_L0 3 (by decide) ci_J) (fun k => ?_) (fun k i f h => ?_)
  · show (if k = 3 then ci_pn 1 1 0 0 0 0 q 3 + 1 else ci_pn 1 1 0 0 0 0 q k) = _
    by_cases hk : k = 3
    · subst hk; rfl
    · rw [if_neg hk]; unfold ci_pn; simp only [hk, if_false]
  · show mr_u3 (fun a b c => if a = 3 ∧ b = ci_pn 1 1 0 0 0 0 q 3 then none else ci_rv 1 1 0 0 0 0 q a b c) 0 0 2 (some (3, 0)) k i f = ci_rv 1 1 1 0 0 0 q k i f
    by_cases k0 : k = 0
    · subst k0
      have hi : i = 0 := by have h2 : i < 1 := h; omega
      subst hi
      by_cases hf : f = 2
      · subst hf; rw [mr_u3_s]; rfl
      · rw [mr_u3_n _ _ _ _ _ (fun z => hf z.2.2), if_neg (fun z => by cases z.1)]
        unfold ci_rv
        simp only [hf, if_false]
    · rw [mr_u3_n _ _ _ _ _ (fun z => k0 z.1)]
      by_cases hk : k = 3
      · subst hk
        have h2 : i < 1 := h
        rw [if_pos ⟨rfl, by show i = 0; omega⟩]
        rfl
      · rw [if_neg (fun z => hk z.1)]
        unfold ci_rv
        simp only [k0, if_false]
theorem ci_ln {q : mr_St} {n : Nat} (hn : n < 4) : mr_C tys ma_sh ad (mr_sR (mr_sR (mr_nw (mr_nw (ci 1 1 1 n 0 0 q) 8) 9) 8 n 0 (some (9, n))) 0 0 (3 + n) (some (8, n))) = mr_C tys ma_sh ad (ci 1 1 1 (n + 1) 0 0 q) := by
  refine ci_x (ci_P0 9 (by decide) (ci_P0 8 (by decide) ci_I)) (ci_L0 9 (by decide) (ci_L0 8 (by decide) ci_J)) (fun k => ?_) (fun k i f h => ?_)
  · show (if k = 9 then n + 1 else if k = 8 then n + 1 else ci_pn 1 1 1 n 0 0 q k) = _
    by_cases h9 : k = 9
    · subst h9; rfl
    by_cases h8 : k = 8
    · subst h8; rfl
    rw [if_neg h9, if_neg h8]; unfold ci_pn; simp only [h9, h8, if_false]
  · show mr_u3 (mr_u3 (fun a b c => if a = 9 ∧ b = n then none else if a = 8 ∧ b = n then none else ci_rv 1 1 1 n 0 0 q a b c) 8 n 0 (some (9, n))) 0 0 (3 + n) (some (8, n)) k i f = ci_rv 1 1 1 (n + 1) 0 0 q k i f
    by_cases k0 : k = 0
    · subst k0
      have hi : i = 0 := by have h2 : i < 1 := h; omega
      subst hi
      by_cases hf : f = 3 + n
      · subst hf
        rw [mr_u3_s]
        unfold ci_rv
        rw [if_pos rfl, if_neg (by omega), if_neg (by omega), if_neg (by omega), if_pos (by omega)]
        congr 2
        omega
      · rw [mr_u3_n _ _ _ _ _ (fun z => hf z.2.2), mr_u3_n _ _ _ _ _ (fun z => by cases z.1), if_neg (fun z => by cases z.1), if_neg (fun z => by cases z.1)]
        have hiff : (f < 3 + (n + 1)) = (f < 3 + n) := propext ⟨fun _ => by omega, fun _ => by omega⟩
        unfold ci_rv
        simp only [hiff]
    · rw [mr_u3_n _ _ _ _ _ (fun z => k0 z.1)]
      by_cases h8 : k = 8
      · subst h8
        have e : ∀ x, ci_rv 1 1 1 x 0 0 q 8 i f = if f = 0 then some (9, i) else none := fun _ => rfl
        by_cases hin : i = n
        · subst hin
          by_cases hf : f = 0
          · subst hf; rw [mr_u3_s]; rfl
          · rw [mr_u3_n _ _ _ _ _ (fun z => hf z.2.2), if_neg (fun z => by cases z.1), if_pos ⟨rfl, rfl⟩, e, if_neg hf]
        · rw [mr_u3_n _ _ _ _ _ (fun z => hin z.2.1), if_neg (fun z => by cases z.1), if_neg (fun z => hin z.2), e, e]
      · rw [mr_u3_n _ _ _ _ _ (fun z => h8 z.1)]
        by_cases h9 : k = 9
        · subst h9
          have e : ∀ x, ci_rv 1 1 1 x 0 0 q 9 i f = none := fun _ => rfl
          rw [e, e]
          split
          · rfl
          · split <;> rfl
        · rw [if_neg (fun z => h9 z.1), if_neg (fun z => h8 z.1)]
          unfold ci_rv
          simp only [k0, if_false]
theorem ci_sn {q : mr_St} {n : Nat} (hn : n < 4) : mr_C tys ma_sh ad (mr_sR (mr_sR (mr_nw (mr_sR (mr_nw (mr_nw (ci 1 1 1 4 n 0 q) 4) 5) 4 n 0 (some (5, n))) 6) 4 n 1 (some (6, n))) 1 0 n (some (4, n))) = mr_C tys ma_sh ad (ci 1 1 1 4 (n + 1) 0 q) := by
  refine ci_x (fun k i f => ci_P0 (r := mr_sR (mr_nw (mr_nw (ci 1 1 1 4 n 0 q) 4) 5) 4 n 0 (some (5, n))) 6 (by decide) (fun k i f => ci_P0 (r := mr_nw (ci 1 1 1 4 n 0 q) 4) 5 (by decide) (ci_P0 4 (by decide) ci_I) k i f) k i f) (fun k i f => ci_L0 (r := mr_sR (mr_nw (mr_nw (ci 1 1 1 4 n 0 q) 4) 5) 4 n 0 (some (5, n))) 6 (by decide) (fun k i f => ci_L0 (r := mr_nw (ci 1 1 1 4 n 0 q) 4) 5 (by decide) (ci_L0 4 (by decide) ci_J) k i f) k i f) (fun k => ?_) (fun k i f h => ?_)
  · show (if k = 6 then n + 1 else if k = 5 then n + 1 else if k = 4 then n + 1 else ci_pn 1 1 1 4 n 0 q k) = _
    by_cases h6 : k = 6
    · subst h6; rfl
    by_cases h5 : k = 5
    · subst h5; rfl
    by_cases h4 : k = 4
    · subst h4; rfl
    rw [if_neg h6, if_neg h5, if_neg h4]; unfold ci_pn; simp only [h6, h5, h4, if_false]
  · show mr_u3 (mr_u3 (fun a b c => if a = 6 ∧ b = n then none else mr_u3 (fun a b c => if a = 5 ∧ b = n then none else if a = 4 ∧ b = n then none else ci_rv 1 1 1 4 n 0 q a b c) 4 n 0 (some (5, n)) a b c) 4 n 1 (some (6, n))) 1 0 n (some (4, n)) k i f = ci_rv 1 1 1 4 (n + 1) 0 q k i f
    by_cases k1 : k = 1
    · subst k1
      have hi : i = 0 := by have h2 : i < 1 := h; omega
      subst hi
      have e : ∀ x, ci_rv 1 1 1 4 x 0 q 1 0 f = if f < x then some (4, f) else none := fun _ => rfl
      rw [e]
      by_cases hf : f = n
      · subst hf
        rw [mr_u3_s, if_pos (by omega)]
      · rw [mr_u3_n _ _ _ _ _ (fun z => hf z.2.2), mr_u3_n _ _ _ _ _ (fun z => by cases z.1), if_neg (fun z => by cases z.1), mr_u3_n _ _ _ _ _ (fun z => by cases z.1), if_neg (fun z => by cases z.1), if_neg (fun z => by cases z.1), e]
        by_cases hl : f < n
        · rw [if_pos hl, if_pos (by omega)]
        · rw [if_neg hl, if_neg (by omega)]
    · rw [mr_u3_n _ _ _ _ _ (fun z => k1 z.1)]
      by_cases k4 : k = 4
      · subst k4
        have e : ∀ x, ci_rv 1 1 1 4 x 0 q 4 i f = if f = 0 then some (5, i) else if f = 1 then some (6, i) else none := fun _ => rfl
        rw [e]
        by_cases hin : i = n
        · subst hin
          by_cases f1 : f = 1
          · subst f1; rw [mr_u3_s]; rfl
          · rw [mr_u3_n _ _ _ _ _ (fun z => f1 z.2.2), if_neg (fun z => by cases z.1)]
            by_cases f0 : f = 0
            · subst f0; rw [mr_u3_s]; rfl
            · rw [mr_u3_n _ _ _ _ _ (fun z => f0 z.2.2), if_neg (fun z => by cases z.1), if_pos ⟨rfl, rfl⟩, if_neg f0, if_neg f1]
        · rw [mr_u3_n _ _ _ _ _ (fun z => hin z.2.1), if_neg (fun z => by cases z.1), mr_u3_n _ _ _ _ _ (fun z => hin z.2.1), if_neg (fun z => by cases z.1), if_neg (fun z => hin z.2), e]
      · rw [mr_u3_n _ _ _ _ _ (fun z => k4 z.1)]
        by_cases k6 : k = 6
        · subst k6
          have e : ∀ x, ci_rv 1 1 1 4 x 0 q 6 i f = none := fun _ => rfl
          rw [e]
          split
          · rfl
          · rw [mr_u3_n _ _ _ _ _ (fun z => by cases z.1), if_neg (fun z => by cases z.1), if_neg (fun z => by cases z.1), e]
        · rw [if_neg (fun z => k6 z.1), mr_u3_n _ _ _ _ _ (fun z => k4 z.1)]
          by_cases k5 : k = 5
          · subst k5
            have e : ∀ x, ci_rv 1 1 1 4 x 0 q 5 i f = none := fun _ => rfl
            rw [e]
            split
            · rfl
            · rw [if_neg (fun z => by cases z.1), e]
          · rw [if_neg (fun z => k5 z.1), if_neg (fun z => k4 z.1)]
            unfold ci_rv
            simp only [k1, if_false]
theorem ci_un {q : mr_St} {n : Nat} (hn : n < 16) : mr_C tys ma_sh ad (mr_sR (mr_nw (ci 1 1 1 4 4 n q) 7) 2 0 n (some (7, n))) = mr_C tys ma_sh ad (ci 1 1 1 4 4 (n + 1) q) := by
  refine ci_x (fun k i f => ci_P0 (r := ci 1 1 1 4 4 n q) 7 (by decide) ci_I k i f) (fun k i f => ci_L0 (r := ci 1 1 1 4 4 n q) 7 (by decide) ci_J k i f) (fun k => ?_) (fun k i f h => ?_)
  · show (if k = 7 then n + 1 else ci_pn 1 1 1 4 4 n q k) = _
    by_cases h7 : k = 7
    · subst h7; rfl
    rw [if_neg h7]; unfold ci_pn; simp only [h7, if_false]
  · show mr_u3 (fun a b c => if a = 7 ∧ b = n then none else ci_rv 1 1 1 4 4 n q a b c) 2 0 n (some (7, n)) k i f = ci_rv 1 1 1 4 4 (n + 1) q k i f
    by_cases k2 : k = 2
    · subst k2
      have hi : i = 0 := by have h2 : i < 1 := h; omega
      subst hi
      have e : ∀ x, ci_rv 1 1 1 4 4 x q 2 0 f = if f < x then some (7, f) else none := fun _ => rfl
      rw [e]
      by_cases hf : f = n
      · subst hf
        rw [mr_u3_s, if_pos (by omega)]
      · rw [mr_u3_n _ _ _ _ _ (fun z => hf z.2.2), if_neg (fun z => by cases z.1), e]
        by_cases hl : f < n
        · rw [if_pos hl, if_pos (by omega)]
        · rw [if_neg hl, if_neg (by omega)]
    · rw [mr_u3_n _ _ _ _ _ (fun z => k2 z.1)]
      by_cases k7 : k = 7
      · subst k7
        have e : ∀ x, ci_rv 1 1 1 4 4 x q 7 i f = none := fun _ => rfl
        rw [e]
        split
        · rfl
        · rw [e]
      · rw [if_neg (fun z => k7 z.1)]
        unfold ci_rv
        simp only [k2, if_false]
theorem mg_eqC2 {p : Program} {e : Env} {R : Room} {s : State} {m : MethodId} {args : Array Value} {below : List Frame} {meth : Method} {c : Code} {Q : State → Prop} {cl : List vw_C} {A : Nat → Prop} {H0 : Heap} {nL : Nat} {C C' : mg_Ct} {L : List (Option Value)} {cells slots pc : Nat} {st : List Value} (hc : C = C') (k : mg_G p l e R s m args below meth c D cl Z A H0 nL Q ad C' L cells slots st pc) : mg_G p l e R s m args below meth c D cl Z A H0 nL Q ad C L cells slots st pc := hc ▸ k
theorem ct_A_init (hty : tys.map (·.2) = ma_ty) (q : mr_St) (hq : ∀ k i f x, 20 ≤ k → i < mr_pn q k → mr_rv q k i f = some x → x.2 < mr_pn q x.1 ∧ 20 ≤ x.1) : mr_MA l my_A_init mc_A_init 2 none 2 39 673 D mn_cl Z mb_B tys ma_sh [va_rf (some (ad 0 0))] ad (ci 0 0 0 0 0 0 q) none (ma_R ca_init q) := by
  refine mg_M.of (cc := mc_A_init) (maxL := 2) (ret := none) (by decide) rfl (Nat.le_of_ble_eq_true rfl) (mg_caS rfl mg_ca0) ?_
  intro p e s m args below meth c K hret hlk hnm hA
  have loop2 : ∀ (f n : Nat) (ad9 : mg_Ad), n + f = 16 → (∀ a b, b < mr_pn (ci 0 0 0 0 0 0 q) a → ad9 a b = ad a b) → mg_G p l e (mg_rm 2 39 673) s m args below meth c D mn_cl Z (mg_A ad (mr_C tys ma_sh ad (ci 0 0 0 0 0 0 q)) s.heap.size) s.heap 2 (MQ below (mg_Qc D mn_cl Z ad (mr_C tys ma_sh ad (ci 0 0 0 0 0 0 q)) s.heap.size (mg_PoA tys ma_sh ad (ci 0 0 0 0 0 0 q) none (ma_R ca_init q))) args s 39 673 (mg_A ad (mr_C tys ma_sh ad (ci 0 0 0 0 0 0 q)) s.heap.size)) ad9 (mr_C tys ma_sh ad9 (ci 1 1 1 4 4 n q)) [some (va_rf (some (ad9 0 0))), some (.int (Int32.ofNat n))] (23 + n) (625 + 3 * n) [] 110 := by
    intro f
    induction f with
    | zero =>
      intro n ad9 hn hc
      have hn2 : n = 16 := by omega
      subst hn2
      refine mg_iload_n K md_A_init_110 rfl ?_
      refine mg_bipush K (v := 16) md_A_init_111 (by decide) ?_
      refine mg_icmp_ge K 135 md_A_init_113 rfl (fun h113 => ?_) (fun h113 => ?_)
      · exact mg_vret K hret hlk md_A_init_135 (by decide) (by decide) ⟨rfl, hc, ci_end q⟩
      · exact absurd ((mi_le (a := 16) (b := 16) (by omega) (by omega)).mpr (by omega)) h113
    | succ f ih =>
      intro n ad9 hn hc
      have hwf : mr_wf (ci 1 1 1 4 4 n q) := ci_wf (by omega) (by omega) hq
      refine mg_iload_n K md_A_init_110 rfl ?_
      refine mg_bipush K (v := 16) md_A_init_111 (by decide) ?_
      refine mg_icmp_ge K 135 md_A_init_113 rfl (fun h113 => ?_) (fun h113 => ?_)
      · exact absurd ((mi_le (a := 16) (b := n) (by omega) (by omega)).mp h113) (by omega)
      · refine mg_aload_n K md_A_init_116 rfl ?_
        refine mr_getS K mf_A_17 md_A_init_117 Nat.zero_lt_one rfl ?_
        refine mg_iload_n K md_A_init_120 rfl ?_
        refine mr_new K 7 hA hwf mw_A_15 md_A_init_121 (by show _ ≤ 39; omega) (by show _ ≤ 673; omega) (fun ad8 had => ?_)
        rw [← had 0 0 Nat.zero_lt_one, ← had 2 0 Nat.zero_lt_one, show mr_pn (ci 1 1 1 4 4 n q) 7 = n from rfl]
        refine mg_dup K md_A_init_124 rfl ?_
        refine mr_cIN K hA (ct_U_init (mr_nw (ci 1 1 1 4 4 n q) 7) (i := n) (Nat.lt_succ_self n) (fun f => if_pos ⟨rfl, rfl⟩)) ms_A_49 (by decide) md_A_init_125 rfl (Nat.le_of_ble_eq_true rfl) ⟨by show _ ≤ 39; omega, by show _ ≤ 673; omega⟩ ?_
        refine mr_aast (k2 := 7) (i2 := n) K rfl (ma_t hty 1) rfl rfl md_A_init_128 Nat.zero_lt_one (Nat.lt_succ_self n) (mi_vn (by omega) (by omega)) ?_
        rw [mi_tn (by omega)]
        refine mg_eqC2 (ci_un (by omega)) ?_
        refine mg_iinc K (v := Int32.ofNat (n + 1)) md_A_init_129 rfl (mi_a1 n) (by decide) ?_
        refine mg_goto K 110 md_A_init_132 rfl ?_
        refine mg_widen (ce := 23 + (n + 1)) (sl := 625 + 3 * (n + 1)) (by omega) (by omega) ?_
        exact ih (n + 1) ad8 (by omega) (fun a b hb => (had a b (ci_mono hb)).trans (hc a b hb))
  have loop1 : ∀ (f n : Nat) (ad9 : mg_Ad), n + f = 4 → (∀ a b, b < mr_pn (ci 0 0 0 0 0 0 q) a → ad9 a b = ad a b) → mg_G p l e (mg_rm 2 39 673) s m args below meth c D mn_cl Z (mg_A ad (mr_C tys ma_sh ad (ci 0 0 0 0 0 0 q)) s.heap.size) s.heap 2 (MQ below (mg_Qc D mn_cl Z ad (mr_C tys ma_sh ad (ci 0 0 0 0 0 0 q)) s.heap.size (mg_PoA tys ma_sh ad (ci 0 0 0 0 0 0 q) none (ma_R ca_init q))) args s 39 673 (mg_A ad (mr_C tys ma_sh ad (ci 0 0 0 0 0 0 q)) s.heap.size)) ad9 (mr_C tys ma_sh ad9 (ci 1 1 1 4 n 0 q)) [some (va_rf (some (ad9 0 0))), some (.int (Int32.ofNat n))] (11 + 3 * n) (417 + 52 * n) [] 84 := by
    intro f
    induction f with
    | zero =>
      intro n ad9 hn hc
      have hn2 : n = 4 := by omega
      subst hn2
      refine mg_iload_n K md_A_init_84 rfl ?_
      refine mg_iconst K (v := 4) md_A_init_85 (by decide) ?_
      refine mg_icmp_ge K 108 md_A_init_86 rfl (fun h86 => ?_) (fun h86 => ?_)
      · refine mg_iconst K (v := 0) md_A_init_108 (by decide) ?_
        refine mg_istore_n K md_A_init_109 (by decide) ?_
        exact loop2 16 0 ad9 (by omega) hc
      · exact absurd ((mi_le (a := 4) (b := 4) (by omega) (by omega)).mpr (by omega)) h86
    | succ f ih =>
      intro n ad9 hn hc
      have hwf : mr_wf (ci 1 1 1 4 n 0 q) := ci_wf (by omega) (by omega) hq
      refine mg_iload_n K md_A_init_84 rfl ?_
      refine mg_iconst K (v := 4) md_A_init_85 (by decide) ?_
      refine mg_icmp_ge K 108 md_A_init_86 rfl (fun h86 => ?_) (fun h86 => ?_)
      · exact absurd ((mi_le (a := 4) (b := n) (by omega) (by omega)).mp h86) (by omega)
      · refine mg_aload_n K md_A_init_89 rfl ?_
        refine mr_getS K mf_A_11 md_A_init_90 Nat.zero_lt_one rfl ?_
        refine mg_iload_n K md_A_init_93 rfl ?_
        refine mr_new K 4 hA hwf mw_A_9 md_A_init_94 (by show _ ≤ 39; omega) (by show _ ≤ 673; omega) (fun ad8 had => ?_)
        rw [← had 0 0 Nat.zero_lt_one, ← had 1 0 Nat.zero_lt_one, show mr_pn (ci 1 1 1 4 n 0 q) 4 = n from rfl]
        refine mg_dup K md_A_init_97 rfl ?_
        refine mr_cINA K hA (ct_S_init hty (mr_nw (ci 1 1 1 4 n 0 q) 4) (i := n) (Nat.lt_succ_self n) (hwf.nw 4)) ms_A_48 (by decide) md_A_init_98 rfl (Nat.le_of_ble_eq_true rfl) ⟨by show _ ≤ 39; omega, by show _ ≤ 673; omega⟩ (fun ad7 had7 => ?_)
        rw [← had7 0 0 Nat.zero_lt_one, ← had7 1 0 Nat.zero_lt_one, ← had7 4 n (Nat.lt_succ_self n)]
        refine mr_aast (k2 := 4) (i2 := n) K rfl (ma_t hty 0) rfl rfl md_A_init_101 Nat.zero_lt_one (Nat.lt_succ_self n) (mi_vn (by omega) (by omega)) ?_
        rw [mi_tn (by omega)]
        refine mg_eqC2 (ci_sn (by omega)) ?_
        refine mg_iinc K (v := Int32.ofNat (n + 1)) md_A_init_102 rfl (mi_a1 n) (by decide) ?_
        refine mg_goto K 84 md_A_init_105 rfl ?_
        refine mg_widen (ce := 11 + 3 * (n + 1)) (sl := 417 + 52 * (n + 1)) (by omega) (by omega) ?_
        exact ih (n + 1) ad7 (by omega) (fun a b hb => (had7 a b (Nat.lt_of_lt_of_le (ci_mono hb) (mr_nw_le _ 4 a))).trans ((had a b (ci_mono hb)).trans (hc a b hb)))
  refine mg_aload_n K md_A_init_0 rfl ?_
  refine mg_objInit K md_A_init_1 ms_A_3 mb_oi.1 mb_oi.2 (by decide) (by decide) ?_
  refine mg_aload_n K md_A_init_4 rfl ?_
  refine mg_iconst K (v := 4) md_A_init_5 (by decide) ?_
  refine mr_newR (N' := 4) K 1 hA (ci_wf (by decide) (by decide) hq) rfl (ma_t hty 0) md_A_init_6 mq_A_9.1 mq_A_9.2 (by decide) (by decide) (by decide) (by decide) (by decide) (fun a1 ha1 => ?_)
  rw [← ha1 0 0 Nat.zero_lt_one]
  refine mr_putFS (k2 := 1) (i2 := 0) K hnm mf_A_11 md_A_init_9 Nat.zero_lt_one (mr_nfa _) ?_
  refine mg_eqC2 ci_a1 ?_
  refine mg_aload_n K md_A_init_12 rfl ?_
  refine mg_bipush K (v := 16) md_A_init_13 (by decide) ?_
  refine mr_newR (N' := 16) K 2 hA (ci_wf (by decide) (by decide) hq) rfl (ma_t hty 1) md_A_init_15 mq_A_15.1 mq_A_15.2 (by decide) (by decide) (by decide) (by decide) (by decide) (fun a2 ha2 => ?_)
  rw [← ha2 0 0 Nat.zero_lt_one]
  refine mr_putFS (k2 := 2) (i2 := 0) K hnm mf_A_17 md_A_init_18 Nat.zero_lt_one (mr_nfa _) ?_
  refine mg_eqC2 ci_a2 ?_
  refine mg_aload_n K md_A_init_21 rfl ?_
  refine mg_iconst K (v := 5) md_A_init_22 (by decide) ?_
  refine mr_newI (N' := 5) K 3 hA (ci_wf (by decide) (by decide) hq) rfl (ma_t hty 2) md_A_init_23 mb_ar_boolean rfl rfl (by decide) (by decide) (by decide) (by decide) (by decide) (fun a3 ha3 => ?_)
  rw [← ha3 0 0 Nat.zero_lt_one]
  refine mr_putFS (k2 := 3) (i2 := 0) K hnm mf_A_21 md_A_init_25 Nat.zero_lt_one (mr_nfa _) ?_
  refine mg_eqC2 ci_a3 ?_
  refine mg_aload_n K md_A_init_28 rfl ?_
  refine mr_new K 8 hA (ci_wf (by decide) (by decide) hq) mw_A_25 md_A_init_29 (by decide) (by decide) (fun b0 hb0 => ?_)
  rw [← hb0 0 0 Nat.zero_lt_one, show mr_pn (ci 1 1 1 0 0 0 q) 8 = 0 from rfl]
  refine mg_dup K md_A_init_32 rfl ?_
  refine mr_cINA K hA (ct_L_init hty (mr_nw (ci 1 1 1 0 0 0 q) 8) (i := 0) (Nat.lt_succ_self 0) rfl ((ci_wf (by decide) (by decide) hq).nw 8)) ms_A_27 (by decide) md_A_init_33 rfl (Nat.le_of_ble_eq_true rfl) ⟨by decide, by decide⟩ (fun c0 hc0 => ?_)
  rw [← hc0 0 0 Nat.zero_lt_one, ← hc0 8 0 (Nat.lt_succ_self 0)]
  refine mr_putFS (k2 := 8) (i2 := 0) K hnm mf_A_28 md_A_init_36 Nat.zero_lt_one (mr_nfo _) ?_
  refine mg_eqC2 (ci_ln (n := 0) (by decide)) ?_
  refine mg_aload_n K md_A_init_39 rfl ?_
  refine mr_new K 8 hA (ci_wf (by decide) (by decide) hq) mw_A_25 md_A_init_40 (by decide) (by decide) (fun b1 hb1 => ?_)
  rw [← hb1 0 0 Nat.zero_lt_one, show mr_pn (ci 1 1 1 1 0 0 q) 8 = 1 from rfl]
  refine mg_dup K md_A_init_43 rfl ?_
  refine mr_cINA K hA (ct_L_init hty (mr_nw (ci 1 1 1 1 0 0 q) 8) (i := 1) (Nat.lt_succ_self 1) rfl ((ci_wf (by decide) (by decide) hq).nw 8)) ms_A_27 (by decide) md_A_init_44 rfl (Nat.le_of_ble_eq_true rfl) ⟨by decide, by decide⟩ (fun c1 hc1 => ?_)
  rw [← hc1 0 0 Nat.zero_lt_one, ← hc1 8 1 (Nat.lt_succ_self 1)]
  refine mr_putFS (k2 := 8) (i2 := 1) K hnm mf_A_32 md_A_init_47 Nat.zero_lt_one (mr_nfo _) ?_
  refine mg_eqC2 (ci_ln (n := 1) (by decide)) ?_
  refine mg_aload_n K md_A_init_50 rfl ?_
  refine mr_new K 8 hA (ci_wf (by decide) (by decide) hq) mw_A_25 md_A_init_51 (by decide) (by decide) (fun b2 hb2 => ?_)
  rw [← hb2 0 0 Nat.zero_lt_one, show mr_pn (ci 1 1 1 2 0 0 q) 8 = 2 from rfl]
  refine mg_dup K md_A_init_54 rfl ?_
  refine mr_cINA K hA (ct_L_init hty (mr_nw (ci 1 1 1 2 0 0 q) 8) (i := 2) (Nat.lt_succ_self 2) rfl ((ci_wf (by decide) (by decide) hq).nw 8)) ms_A_27 (by decide) md_A_init_55 rfl (Nat.le_of_ble_eq_true rfl) ⟨by decide, by decide⟩ (fun c2 hc2 => ?_)
  rw [← hc2 0 0 Nat.zero_lt_one, ← hc2 8 2 (Nat.lt_succ_self 2)]
  refine mr_putFS (k2 := 8) (i2 := 2) K hnm mf_A_35 md_A_init_58 Nat.zero_lt_one (mr_nfo _) ?_
  refine mg_eqC2 (ci_ln (n := 2) (by decide)) ?_
  refine mg_aload_n K md_A_init_61 rfl ?_
  refine mr_new K 8 hA (ci_wf (by decide) (by decide) hq) mw_A_25 md_A_init_62 (by decide) (by decide) (fun b3 hb3 => ?_)
  rw [← hb3 0 0 Nat.zero_lt_one, show mr_pn (ci 1 1 1 3 0 0 q) 8 = 3 from rfl]
  refine mg_dup K md_A_init_65 rfl ?_
  refine mr_cINA K hA (ct_L_init hty (mr_nw (ci 1 1 1 3 0 0 q) 8) (i := 3) (Nat.lt_succ_self 3) rfl ((ci_wf (by decide) (by decide) hq).nw 8)) ms_A_27 (by decide) md_A_init_66 rfl (Nat.le_of_ble_eq_true rfl) ⟨by decide, by decide⟩ (fun c3 hc3 => ?_)
  rw [← hc3 0 0 Nat.zero_lt_one, ← hc3 8 3 (Nat.lt_succ_self 3)]
  refine mr_putFS (k2 := 8) (i2 := 3) K hnm mf_A_38 md_A_init_69 Nat.zero_lt_one (mr_nfo _) ?_
  refine mg_eqC2 (ci_ln (n := 3) (by decide)) ?_
  refine mg_aload_n K md_A_init_72 rfl ?_
  refine mg_iconst K (v := 0) md_A_init_73 (by decide) ?_
  refine mr_putI K mf_A_41 md_A_init_74 Nat.zero_lt_one ?_
  refine mr_eqr (mr_sI_id rfl) ?_
  refine mg_aload_n K md_A_init_77 rfl ?_
  refine mg_iconst K (v := 0) md_A_init_78 (by decide) ?_
  refine mr_putI K mf_A_45 md_A_init_79 Nat.zero_lt_one ?_
  refine mr_eqr (mr_sI_id rfl) ?_
  refine mg_iconst K (v := 0) md_A_init_82 (by decide) ?_
  refine mg_istore_n K md_A_init_83 (by decide) ?_
  exact loop1 4 0 c3 (by omega) (fun a b hb => (hc3 a b (Nat.lt_of_lt_of_le (ci_mono hb) (mr_nw_le _ 8 a))).trans ((hb3 a b (ci_mono hb)).trans ((hc2 a b (Nat.lt_of_lt_of_le (ci_mono hb) (mr_nw_le _ 8 a))).trans ((hb2 a b (ci_mono hb)).trans ((hc1 a b (Nat.lt_of_lt_of_le (ci_mono hb) (mr_nw_le _ 8 a))).trans ((hb1 a b (ci_mono hb)).trans ((hc0 a b (Nat.lt_of_lt_of_le (ci_mono hb) (mr_nw_le _ 8 a))).trans ((hb0 a b (ci_mono hb)).trans ((ha3 a b (ci_mono hb)).trans ((ha2 a b (ci_mono hb)).trans (ha1 a b hb)))))))))))
end CC1
end
section
/-! the reference: ints by (kind, place): 20 its own fields, 21 .. 37 its arrays -/
abbrev rb_S : Type := Nat → Nat → Int32
def rb_fd : Nat → Option (Nat × Nat)
  | 2 => some (21, 0)
  | 3 => some (22, 0)
  | 4 => some (23, 0)
  | 5 => some (24, 0)
  | 6 => some (25, 0)
  | 7 => some (26, 0)
  | 8 => some (27, 0)
  | 9 => some (28, 0)
  | 10 => some (29, 0)
  | 11 => some (30, 0)
  | 12 => some (31, 0)
  | 13 => some (32, 0)
  | 14 => some (33, 0)
  | 15 => some (34, 0)
  | 17 => some (35, 0)
  | 19 => some (36, 0)
  | 21 => some (37, 0)
  | _ => none
def rb_R (h : rb_S) (o : Int64) : mr_St := (fun k i f => if i = 0 then h k f else 0, fun k i f => if k = 40 ∧ i = 0 ∧ f = 0 then o else 0, fun k _ f => if k = 20 then rb_fd f else none, fun k => if k < 38 then 1 else if k = 40 then 1 else 0)
theorem rb_sI (g : ca_S) (h : rb_S) (o : Int64) (k f : Nat) (v : Int32) (hk : 20 ≤ k) : mr_sI (ma_R g (rb_R h o)) k 0 f v = ma_R g (rb_R (mg_u h k f v) o) := by
  refine Prod.ext ?_ rfl
  funext a b c
  show mr_u3 (ma_iv g (rb_R h o)) k 0 f v a b c = ma_iv g (rb_R (mg_u h k f v) o) a b c
  by_cases hz : a = k ∧ b = 0 ∧ c = f
  · obtain ⟨rfl, rfl, rfl⟩ := hz
    rw [mr_u3_s]
    unfold ma_iv
    rw [if_neg (by omega), if_neg (by omega)]
    show v = if 0 = 0 then mg_u h a c v a c else 0
    rw [if_pos rfl, mg_u_s]
  · rw [mr_u3_n _ _ _ _ _ hz]
    unfold ma_iv
    by_cases h8 : a = 8
    · rw [if_pos h8, if_pos h8]
    · rw [if_neg h8, if_neg h8]
      by_cases h20 : a < 20
      · rw [if_pos h20, if_pos h20]
      · rw [if_neg h20, if_neg h20]
        show (if b = 0 then h a c else 0) = if b = 0 then mg_u h k f v a c else 0
        by_cases hb : b = 0
        · rw [if_pos hb, if_pos hb, mg_u_n _ _ _ _ (fun z => hz ⟨z.1, hb, z.2⟩)]
        · rw [if_neg hb, if_neg hb]
theorem rb_iv (g : ca_S) (h : rb_S) (o : Int64) (k f : Nat) (hk : 20 ≤ k) : mr_iv (ma_R g (rb_R h o)) k 0 f = h k f := by
  show ma_iv g (rb_R h o) k 0 f = _
  unfold ma_iv
  rw [if_neg (by omega), if_neg (by omega)]
  rfl
theorem rb_self (g : ca_S) (h : rb_S) (o : Int64) (k f : Nat) (v : Int32) (hk : 20 ≤ k) : mr_iv (ma_R g (rb_R (mg_u h k f v) o)) k 0 f = v := by rw [rb_iv _ _ _ _ _ hk, mg_u_s]
section RB0
variable {p : Program} {l : Launch} {e : Env} {R : Room} {s : State} {m : MethodId} {args : Array Value} {below : List Frame} {meth : Method} {c : Code} {Q : State → Prop}
variable {D : va_G} {cl : List vw_C} {Z : Nat × Cell} {tys : List (ClassId × FieldType)} {A : Nat → Prop} {H0 : Heap} {nL : Nat} {cc : ByteArray} {Ts : List Cond} {own : String}
variable {ad : mg_Ad} {C : mg_Ct} {L : List (Option Value)} {cells slots pc : Nat} {st : List Value}
theorem mg_idiv (K : mg_K p m c cc nL s args Ts own D cl Z tys) {x y : Int32} (hd : decode cc pc = .ok (.idiv, 1)) (hne : ¬ y = 0) (k : mg_G p l e R s m args below meth c D cl Z A H0 nL Q ad C L cells slots (.int (x / y) :: st) (pc + 1)) : mg_G p l e R s m args below meth c D cl Z A H0 nL Q ad C L cells slots (.int y :: .int x :: st) pc :=
  fun H locs ls hW hS hL => lv_idiv K.1.1 K.1.2.1 hd hne (k H locs ls hW hS hL)
theorem mg_irem (K : mg_K p m c cc nL s args Ts own D cl Z tys) {x y : Int32} (hd : decode cc pc = .ok (.irem, 1)) (hne : ¬ y = 0) (k : mg_G p l e R s m args below meth c D cl Z A H0 nL Q ad C L cells slots (.int (x - x / y * y) :: st) (pc + 1)) : mg_G p l e R s m args below meth c D cl Z A H0 nL Q ad C L cells slots (.int y :: .int x :: st) pc :=
  fun H locs ls hW hS hL => lv_irem K.1.1 K.1.2.1 hd hne (k H locs ls hW hS hL)
theorem mg_dup2 (K : mg_K p m c cc nL s args Ts own D cl Z tys) {va vb : Value} (hd : decode cc pc = .ok (.dup2, 1)) (hva : va.category = 1) (hvb : vb.category = 1) (k : mg_G p l e R s m args below meth c D cl Z A H0 nL Q ad C L cells slots (va :: vb :: va :: vb :: st) (pc + 1)) : mg_G p l e R s m args below meth c D cl Z A H0 nL Q ad C L cells slots (va :: vb :: st) pc :=
  fun H locs ls hW hS hL => lv_dup2_11 K.1.1 K.1.2.1 hd hva hvb (k H locs ls hW hS hL)
theorem mg_lcmp (K : mg_K p m c cc nL s args Ts own D cl Z tys) {x y : Int64} (hd : decode cc pc = .ok (.lcmp, 1)) (k : mg_G p l e R s m args below meth c D cl Z A H0 nL Q ad C L cells slots (.int (lg_cmp x y) :: st) (pc + 1)) : mg_G p l e R s m args below meth c D cl Z A H0 nL Q ad C L cells slots (.long y :: .long x :: st) pc :=
  fun H locs ls hW hS hL => W.lcmp K.1.1 K.1.2.1 hd (k H locs ls hW hS hL)
end RB0
theorem mi_mul (a b : Nat) : Int32.ofNat a * Int32.ofNat b = Int32.ofNat (a * b) := (Int32.ofNat_mul a b).symm
theorem mi_ix {s n : Nat} (h1 : 1 ≤ n) : 24 * Int32.ofNat s + Int32.ofNat n - 1 = Int32.ofNat (24 * s + n - 1) := by
  have e : (24 : Int32) * Int32.ofNat s = Int32.ofNat (24 * s) := mi_mul 24 s
  rw [e, ← Int32.ofNat_add, mi_s (by omega)]
def rb_here (h : rb_S) (m : Nat) : Bool := decide (¬ h 24 m = 0) && decide (¬ h 29 m = 6)
def rb_gapF (h : rb_S) (s : Nat) : Nat → Nat → Nat
  | n, 0 => n
  | n, f + 1 => if rb_here h (24 * s + n - 1) = true ∨ ¬ h 25 (24 * s + n - 1) = 0 then rb_gapF h s (n + 1) f else n
def rb_gap (h : rb_S) (s : Nat) : Nat := rb_gapF h s 1 24
def rb_manyF (h : rb_S) (w : Int32) : Nat → Nat → Nat → Nat
  | _, 0, a => a
  | m, f + 1, a => rb_manyF h w (m + 1) f (if ¬ h 24 m = 0 ∧ h 29 m = w then a + 1 else a)
def rb_many (h : rb_S) (w : Int32) : Nat := rb_manyF h w 0 96 0
section RB1
variable {l : Launch} {D : va_G} {Z : Nat × Cell} {tys : List (ClassId × FieldType)} {ad : mg_Ad}
theorem ct_B_in (x y z : Int32) : mr_MS l my_B_in mc_B_in 3 (some .boolean) 1 D mn_cl Z mb_B tys [.int x, .int y, .int z] (some (.int (if ¬ x < y ∧ ¬ z < x then 1 else 0))) := by
  intro ad C
  refine mg_M.of (cc := mc_B_in) (maxL := 3) (ret := (some .boolean)) (by decide) rfl (Nat.le_of_ble_eq_true rfl) (mg_caS rfl (mg_caS rfl (mg_caS rfl mg_ca0))) ?_
  intro p e s m args below meth c K hret hlk hnm hA
  refine mg_iload_n K md_B_in_0 rfl ?_
  refine mg_iload_n K md_B_in_1 rfl ?_
  refine mg_icmp_lt K 14 md_B_in_2 rfl (fun h2 => ?_) (fun h2 => ?_)
  · refine mg_iconst K (v := 0) md_B_in_14 (by decide) ?_
    exact mg_zret K hret hlk md_B_in_15 (by decide) (Nat.le_refl _) (Nat.le_refl _) ⟨by rw [if_neg (fun z => z.1 h2)], rfl, rfl⟩
  · refine mg_iload_n K md_B_in_5 rfl ?_
    refine mg_iload_n K md_B_in_6 rfl ?_
    refine mg_icmp_gt K 14 md_B_in_7 rfl (fun h7 => ?_) (fun h7 => ?_)
    · refine mg_iconst K (v := 0) md_B_in_14 (by decide) ?_
      exact mg_zret K hret hlk md_B_in_15 (by decide) (Nat.le_refl _) (Nat.le_refl _) ⟨by rw [if_neg (fun z => z.2 h7)], rfl, rfl⟩
    · refine mg_iconst K (v := 1) md_B_in_10 (by decide) ?_
      refine mg_goto K 15 md_B_in_11 rfl ?_
      exact mg_zret K hret hlk md_B_in_15 (by decide) (Nat.le_refl _) (Nat.le_refl _) ⟨by rw [if_pos ⟨h2, h7⟩], rfl, rfl⟩
theorem ct_B_isSender (x : Int32) : mr_MS l my_B_isSender mc_B_isSender 1 (some .boolean) 1 D mn_cl Z mb_B tys [.int x] (some (.int (if ¬ x < 0 ∧ ¬ 4 ≤ x then 1 else 0))) := by
  intro ad C
  refine mg_M.of (cc := mc_B_isSender) (maxL := 1) (ret := (some .boolean)) (by decide) rfl (Nat.le_of_ble_eq_true rfl) (mg_caS rfl mg_ca0) ?_
  intro p e s m args below meth c K hret hlk hnm hA
  refine mg_iload_n K md_B_isSender_0 rfl ?_
  refine mg_if_lt K 13 md_B_isSender_1 rfl (fun h1 => ?_) (fun h1 => ?_)
  · refine mg_iconst K (v := 0) md_B_isSender_13 (by decide) ?_
    exact mg_zret K hret hlk md_B_isSender_14 (by decide) (Nat.le_refl _) (Nat.le_refl _) ⟨by rw [if_neg (fun z => z.1 h1)], rfl, rfl⟩
  · refine mg_iload_n K md_B_isSender_4 rfl ?_
    refine mg_iconst K (v := 4) md_B_isSender_5 (by decide) ?_
    refine mg_icmp_ge K 13 md_B_isSender_6 rfl (fun h6 => ?_) (fun h6 => ?_)
    · refine mg_iconst K (v := 0) md_B_isSender_13 (by decide) ?_
      exact mg_zret K hret hlk md_B_isSender_14 (by decide) (Nat.le_refl _) (Nat.le_refl _) ⟨by rw [if_neg (fun z => z.2 h6)], rfl, rfl⟩
    · refine mg_iconst K (v := 1) md_B_isSender_9 (by decide) ?_
      refine mg_goto K 14 md_B_isSender_10 rfl ?_
      exact mg_zret K hret hlk md_B_isSender_14 (by decide) (Nat.le_refl _) (Nat.le_refl _) ⟨by rw [if_pos ⟨h1, h6⟩], rfl, rfl⟩
theorem ct_B_isNumber (x : Int32) : mr_MS l my_B_isNumber mc_B_isNumber 1 (some .boolean) 1 D mn_cl Z mb_B tys [.int x] (some (.int (if ¬ x < 1 ∧ ¬ 24 < x then 1 else 0))) := by
  intro ad C
  refine mg_M.of (cc := mc_B_isNumber) (maxL := 1) (ret := (some .boolean)) (by decide) rfl (Nat.le_of_ble_eq_true rfl) (mg_caS rfl mg_ca0) ?_
  intro p e s m args below meth c K hret hlk hnm hA
  refine mg_iload_n K md_B_isNumber_0 rfl ?_
  refine mg_iconst K (v := 1) md_B_isNumber_1 (by decide) ?_
  refine mg_icmp_lt K 15 md_B_isNumber_2 rfl (fun h2 => ?_) (fun h2 => ?_)
  · refine mg_iconst K (v := 0) md_B_isNumber_15 (by decide) ?_
    exact mg_zret K hret hlk md_B_isNumber_16 (by decide) (Nat.le_refl _) (Nat.le_refl _) ⟨by rw [if_neg (fun z => z.1 h2)], rfl, rfl⟩
  · refine mg_iload_n K md_B_isNumber_5 rfl ?_
    refine mg_bipush K (v := 24) md_B_isNumber_6 (by decide) ?_
    refine mg_icmp_gt K 15 md_B_isNumber_8 rfl (fun h8 => ?_) (fun h8 => ?_)
    · refine mg_iconst K (v := 0) md_B_isNumber_15 (by decide) ?_
      exact mg_zret K hret hlk md_B_isNumber_16 (by decide) (Nat.le_refl _) (Nat.le_refl _) ⟨by rw [if_neg (fun z => z.2 h8)], rfl, rfl⟩
    · refine mg_iconst K (v := 1) md_B_isNumber_11 (by decide) ?_
      refine mg_goto K 16 md_B_isNumber_12 rfl ?_
      exact mg_zret K hret hlk md_B_isNumber_16 (by decide) (Nat.le_refl _) (Nat.le_refl _) ⟨by rw [if_pos ⟨h2, h8⟩], rfl, rfl⟩
theorem ct_B_thrown (hty : tys.map (·.2) = ma_ty) (g : ca_S) (h : rb_S) (o : Int64)  : mr_M l my_B_thrown mc_B_thrown 1 (some .int) 1 D mn_cl Z mb_B tys ma_sh [va_rf (some (ad 20 0))] ad (ma_R g (rb_R h o)) (some (.int (h 20 0))) (ma_R g (rb_R h o)) := by
  refine mg_M.of (cc := mc_B_thrown) (maxL := 1) (ret := (some .int)) (by decide) rfl (Nat.le_of_ble_eq_true rfl) (mg_caS rfl mg_ca0) ?_
  intro p e s m args below meth c K hret hlk hnm hA
  refine mg_aload_n K md_B_thrown_0 rfl ?_
  refine mr_getI (v := h 20 0) K mf_B_62 md_B_thrown_1 (by decide) Nat.zero_lt_one rfl ?_
  exact mg_iret K hret hlk md_B_thrown_4 (Nat.le_refl _) (Nat.le_refl _) ⟨rfl, rfl, rfl⟩
theorem ct_B_refuse (hty : tys.map (·.2) = ma_ty) (g : ca_S) (h : rb_S) (o : Int64) (x : Int32) : mr_M l my_B_refuse mc_B_refuse 2 (some .int) 1 D mn_cl Z mb_B tys ma_sh [va_rf (some (ad 20 0)), .int x] ad (ma_R g (rb_R h o)) (some (.int 0)) (ma_R g (rb_R (mg_u h 20 0 x) o)) := by
  refine mg_M.of (cc := mc_B_refuse) (maxL := 2) (ret := (some .int)) (by decide) rfl (Nat.le_of_ble_eq_true rfl) (mg_caS rfl (mg_caS rfl mg_ca0)) ?_
  intro p e s m args below meth c K hret hlk hnm hA
  refine mg_aload_n K md_B_refuse_0 rfl ?_
  refine mg_iload_n K md_B_refuse_1 rfl ?_
  refine mr_putI K mf_B_62 md_B_refuse_2 Nat.zero_lt_one ?_
  refine mr_eqr (rb_sI _ _ _ _ _ _ (by decide)) ?_
  refine mg_iconst K (v := 0) md_B_refuse_5 (by decide) ?_
  exact mg_iret K hret hlk md_B_refuse_6 (Nat.le_refl _) (Nat.le_refl _) ⟨rfl, rfl, rfl⟩
theorem ct_B_isHere (hty : tys.map (·.2) = ma_ty) (g : ca_S) (h : rb_S) (o : Int64) {m0 : Nat} (hm : m0 < 96) : mr_M l my_B_isHere mc_B_isHere 2 (some .boolean) 1 D mn_cl Z mb_B tys ma_sh [va_rf (some (ad 20 0)), .int (Int32.ofNat m0)] ad (ma_R g (rb_R h o)) (some (.int (if rb_here h m0 then 1 else 0))) (ma_R g (rb_R h o)) := by
  refine mg_M.of (cc := mc_B_isHere) (maxL := 2) (ret := (some .boolean)) (by decide) rfl (Nat.le_of_ble_eq_true rfl) (mg_caS rfl (mg_caS rfl mg_ca0)) ?_
  intro p e s m args below meth c K hret hlk hnm hA
  refine mg_aload_n K md_B_isHere_0 rfl ?_
  refine mr_getS (k2 := 24) (i2 := 0) K mf_B_19 md_B_isHere_1 Nat.zero_lt_one rfl ?_
  refine mg_iload_n K md_B_isHere_4 rfl ?_
  refine mr_zald (v := h 24 m0) K rfl (ma_t hty 2) md_B_isHere_5 Nat.zero_lt_one (mi_vn (by omega) (by omega)) (by rw [mi_tn (by omega)]; rfl) ?_
  refine mg_if_eq K 24 md_B_isHere_6 rfl (fun h6 => ?_) (fun h6 => ?_)
  · refine mg_iconst K (v := 0) md_B_isHere_24 (by decide) ?_
    exact mg_zret K hret hlk md_B_isHere_25 (by decide) (Nat.le_refl _) (Nat.le_refl _) ⟨by unfold rb_here; rw [decide_eq_false (fun z => z h6)]; rfl, rfl, rfl⟩
  · refine mg_aload_n K md_B_isHere_9 rfl ?_
    refine mr_getS (k2 := 29) (i2 := 0) K mf_B_35 md_B_isHere_10 Nat.zero_lt_one rfl ?_
    refine mg_iload_n K md_B_isHere_13 rfl ?_
    refine mr_iald (v := h 29 m0) K rfl (ma_t hty 4) md_B_isHere_14 Nat.zero_lt_one (mi_vn (by omega) (by omega)) (by rw [mi_tn (by omega)]; rfl) ?_
    refine mg_bipush K (v := 6) md_B_isHere_15 (by decide) ?_
    refine mg_icmp_eq K 24 md_B_isHere_17 rfl (fun h17 => ?_) (fun h17 => ?_)
    · refine mg_iconst K (v := 0) md_B_isHere_24 (by decide) ?_
      exact mg_zret K hret hlk md_B_isHere_25 (by decide) (Nat.le_refl _) (Nat.le_refl _) ⟨by unfold rb_here; rw [decide_eq_false (p := ¬ h 29 m0 = 6) (fun z => z h17), Bool.and_false]; rfl, rfl, rfl⟩
    · refine mg_iconst K (v := 1) md_B_isHere_20 (by decide) ?_
      refine mg_goto K 25 md_B_isHere_21 rfl ?_
      exact mg_zret K hret hlk md_B_isHere_25 (by decide) (Nat.le_refl _) (Nat.le_refl _) ⟨by unfold rb_here; rw [decide_eq_true h6, decide_eq_true (p := ¬ h 29 m0 = 6) h17]; rfl, rfl, rfl⟩
theorem ct_B_gap (hty : tys.map (·.2) = ma_ty) (g : ca_S) (h : rb_S) (o : Int64) {s0 : Nat} (hs : s0 < 4) : mr_M l my_B_gap mc_B_gap 3 (some .int) 2 D mn_cl Z mb_B tys ma_sh [va_rf (some (ad 20 0)), .int (Int32.ofNat s0)] ad (ma_R g (rb_R h o)) (some (.int (Int32.ofNat (rb_gap h s0)))) (ma_R g (rb_R h o)) := by
  refine mg_M.of (cc := mc_B_gap) (maxL := 3) (ret := (some .int)) (by decide) rfl (Nat.le_of_ble_eq_true rfl) (mg_caS rfl (mg_caS rfl mg_ca0)) ?_
  intro p e s m args below meth c K hret hlk hnm hA
  have loop : ∀ (f n : Nat), n + f = 25 → 1 ≤ n → rb_gapF h s0 n f = rb_gap h s0 → mg_G p l e (mg_rm 2 0 0) s m args below meth c D mn_cl Z (mg_A ad (mr_C tys ma_sh ad (ma_R g (rb_R h o))) s.heap.size) s.heap 3 (MQ below (mg_Qc D mn_cl Z ad (mr_C tys ma_sh ad (ma_R g (rb_R h o))) s.heap.size (mg_Po tys ma_sh ad (some (.int (Int32.ofNat (rb_gap h s0)))) (ma_R g (rb_R h o)))) args s 0 0 (mg_A ad (mr_C tys ma_sh ad (ma_R g (rb_R h o))) s.heap.size)) ad (mr_C tys ma_sh ad (ma_R g (rb_R h o))) [some (va_rf (some (ad 20 0))), some (.int (Int32.ofNat s0)), some (.int (Int32.ofNat n))] 0 0 [] 2 := by
    intro f
    induction f with
    | zero =>
      intro n hn h1 hT
      refine mg_iload_n K md_B_gap_2 rfl ?_
      refine mg_bipush K (v := 24) md_B_gap_3 (by decide) ?_
      refine mg_icmp_gt K 45 md_B_gap_5 rfl (fun h5 => ?_) (fun h5 => ?_)
      · refine mg_iload_n K md_B_gap_45 rfl ?_
        exact mg_iret K hret hlk md_B_gap_46 (Nat.le_refl _) (Nat.le_refl _) ⟨by rw [← hT]; rfl, rfl, rfl⟩
      · exact absurd ((mi_lt (a := 24) (b := n) (by omega) (by omega)).mpr (by omega)) h5
    | succ f ih =>
      intro n hn h1 hT
      have hS : (if rb_here h (24 * s0 + n - 1) = true ∨ ¬ h 25 (24 * s0 + n - 1) = 0 then rb_gapF h s0 (n + 1) f else n) = rb_gap h s0 := hT
      refine mg_iload_n K md_B_gap_2 rfl ?_
      refine mg_bipush K (v := 24) md_B_gap_3 (by decide) ?_
      refine mg_icmp_gt K 45 md_B_gap_5 rfl (fun h5 => ?_) (fun h5 => ?_)
      · exact absurd ((mi_lt (a := 24) (b := n) (by omega) (by omega)).mp h5) (by omega)
      · refine mg_aload_n K md_B_gap_8 rfl ?_
        refine mg_bipush K (v := 24) md_B_gap_9 (by decide) ?_
        refine mg_iload_n K md_B_gap_11 rfl ?_
        refine mg_imul K md_B_gap_12 ?_
        refine mg_iload_n K md_B_gap_13 rfl ?_
        refine mg_iadd K md_B_gap_14 ?_
        refine mg_iconst K (v := 1) md_B_gap_15 (by decide) ?_
        refine mg_isub K md_B_gap_16 ?_
        rw [mi_ix h1]
        refine mr_cV K hA (ct_B_isHere hty g h o (m0 := 24 * s0 + n - 1) (by omega)) ms_B_66 (by decide) md_B_gap_17 rfl rfl Nat.zero_lt_one rfl (Nat.le_of_ble_eq_true rfl) ⟨Nat.zero_le _, Nat.zero_le _⟩ ?_
        refine mg_if_ne K 39 md_B_gap_20 rfl (fun h20 => ?_) (fun h20 => ?_)
        · have hh : rb_here h (24 * s0 + n - 1) = true := by cases hq : rb_here h (24 * s0 + n - 1) with | true => rfl | false => (rw [hq] at h20; exact absurd rfl h20)
          rw [if_pos (Or.inl hh)] at hS
          refine mg_iinc K (v := Int32.ofNat (n + 1)) md_B_gap_39 rfl (mi_a1 n) (by decide) ?_
          refine mg_goto K 2 md_B_gap_42 rfl ?_
          exact ih (n + 1) (by omega) (by omega) hS
        · have hh : rb_here h (24 * s0 + n - 1) = false := by cases hq : rb_here h (24 * s0 + n - 1) with | true => (rw [hq] at h20; exact absurd h20 (by decide)) | false => rfl
          refine mg_aload_n K md_B_gap_23 rfl ?_
          refine mr_getS (k2 := 25) (i2 := 0) K mf_B_23 md_B_gap_24 Nat.zero_lt_one rfl ?_
          refine mg_bipush K (v := 24) md_B_gap_27 (by decide) ?_
          refine mg_iload_n K md_B_gap_29 rfl ?_
          refine mg_imul K md_B_gap_30 ?_
          refine mg_iload_n K md_B_gap_31 rfl ?_
          refine mg_iadd K md_B_gap_32 ?_
          refine mg_iconst K (v := 1) md_B_gap_33 (by decide) ?_
          refine mg_isub K md_B_gap_34 ?_
          rw [mi_ix h1]
          refine mr_zald (v := h 25 (24 * s0 + n - 1)) K rfl (ma_t hty 2) md_B_gap_35 Nat.zero_lt_one (mi_vn (by omega) (by omega)) (by rw [mi_tn (by omega)]; rfl) ?_
          refine mg_if_eq K 45 md_B_gap_36 rfl (fun h36 => ?_) (fun h36 => ?_)
          · rw [if_neg (fun z => z.elim (fun y => by rw [hh] at y; cases y) (fun y => y h36))] at hS
            refine mg_iload_n K md_B_gap_45 rfl ?_
            exact mg_iret K hret hlk md_B_gap_46 (Nat.le_refl _) (Nat.le_refl _) ⟨by rw [← hS], rfl, rfl⟩
          · rw [if_pos (Or.inr h36)] at hS
            refine mg_iinc K (v := Int32.ofNat (n + 1)) md_B_gap_39 rfl (mi_a1 n) (by decide) ?_
            refine mg_goto K 2 md_B_gap_42 rfl ?_
            exact ih (n + 1) (by omega) (by omega) hS
  refine mg_iconst K (v := 1) md_B_gap_0 (by decide) ?_
  refine mg_istore_n K md_B_gap_1 (by decide) ?_
  exact loop 24 1 (by omega) (by omega) rfl
theorem ct_B_many (hty : tys.map (·.2) = ma_ty) (g : ca_S) (h : rb_S) (o : Int64) (w : Int32) : mr_M l my_B_many mc_B_many 4 (some .int) 1 D mn_cl Z mb_B tys ma_sh [va_rf (some (ad 20 0)), .int w] ad (ma_R g (rb_R h o)) (some (.int (Int32.ofNat (rb_many h w)))) (ma_R g (rb_R h o)) := by
  refine mg_M.of (cc := mc_B_many) (maxL := 4) (ret := (some .int)) (by decide) rfl (Nat.le_of_ble_eq_true rfl) (mg_caS rfl (mg_caS rfl mg_ca0)) ?_
  intro p e s m args below meth c K hret hlk hnm hA
  have loop : ∀ (f k a : Nat), k + f = 96 → rb_manyF h w k f a = rb_many h w → mg_G p l e (mg_rm 1 0 0) s m args below meth c D mn_cl Z (mg_A ad (mr_C tys ma_sh ad (ma_R g (rb_R h o))) s.heap.size) s.heap 4 (MQ below (mg_Qc D mn_cl Z ad (mr_C tys ma_sh ad (ma_R g (rb_R h o))) s.heap.size (mg_Po tys ma_sh ad (some (.int (Int32.ofNat (rb_many h w)))) (ma_R g (rb_R h o)))) args s 0 0 (mg_A ad (mr_C tys ma_sh ad (ma_R g (rb_R h o))) s.heap.size)) ad (mr_C tys ma_sh ad (ma_R g (rb_R h o))) [some (va_rf (some (ad 20 0))), some (.int w), some (.int (Int32.ofNat a)), some (.int (Int32.ofNat k))] 0 0 [] 4 := by
    intro f
    induction f with
    | zero =>
      intro k a hk hT
      refine mg_iload_n K md_B_many_4 rfl ?_
      refine mg_bipush K (v := 96) md_B_many_5 (by decide) ?_
      refine mg_icmp_ge K 43 md_B_many_7 rfl (fun h7 => ?_) (fun h7 => ?_)
      · refine mg_iload_n K md_B_many_43 rfl ?_
        exact mg_iret K hret hlk md_B_many_44 (Nat.le_refl _) (Nat.le_refl _) ⟨by rw [← hT]; rfl, rfl, rfl⟩
      · exact absurd ((mi_le (a := 96) (b := k) (by omega) (by omega)).mpr (by omega)) h7
    | succ f ih =>
      intro k a hk hT
      have hS : rb_manyF h w (k + 1) f (if ¬ h 24 k = 0 ∧ h 29 k = w then a + 1 else a) = rb_many h w := hT
      refine mg_iload_n K md_B_many_4 rfl ?_
      refine mg_bipush K (v := 96) md_B_many_5 (by decide) ?_
      refine mg_icmp_ge K 43 md_B_many_7 rfl (fun h7 => ?_) (fun h7 => ?_)
      · exact absurd ((mi_le (a := 96) (b := k) (by omega) (by omega)).mp h7) (by omega)
      · refine mg_iload_n K md_B_many_10 rfl ?_
        refine mg_aload_n K md_B_many_11 rfl ?_
        refine mr_getS (k2 := 24) (i2 := 0) K mf_B_19 md_B_many_12 Nat.zero_lt_one rfl ?_
        refine mg_iload_n K md_B_many_15 rfl ?_
        refine mr_zald (v := h 24 k) K rfl (ma_t hty 2) md_B_many_16 Nat.zero_lt_one (mi_vn (by omega) (by omega)) (by rw [mi_tn (by omega)]; rfl) ?_
        refine mg_if_eq K 34 md_B_many_17 rfl (fun h17 => ?_) (fun h17 => ?_)
        · rw [if_neg (fun z => z.1 h17)] at hS
          refine mg_iconst K (v := 0) md_B_many_34 (by decide) ?_
          refine mg_iadd K md_B_many_35 ?_
          rw [show Int32.ofNat a + 0 = Int32.ofNat a from Int32.add_zero _]
          refine mg_istore_n K md_B_many_36 (by decide) ?_
          refine mg_iinc K (v := Int32.ofNat (k + 1)) md_B_many_37 rfl (mi_a1 k) (by decide) ?_
          refine mg_goto K 4 md_B_many_40 rfl ?_
          exact ih (k + 1) _ (by omega) hS
        · refine mg_aload_n K md_B_many_20 rfl ?_
          refine mr_getS (k2 := 29) (i2 := 0) K mf_B_35 md_B_many_21 Nat.zero_lt_one rfl ?_
          refine mg_iload_n K md_B_many_24 rfl ?_
          refine mr_iald (v := h 29 k) K rfl (ma_t hty 4) md_B_many_25 Nat.zero_lt_one (mi_vn (by omega) (by omega)) (by rw [mi_tn (by omega)]; rfl) ?_
          refine mg_iload_n K md_B_many_26 rfl ?_
          refine mg_icmp_ne K 34 md_B_many_27 rfl (fun h27 => ?_) (fun h27 => ?_)
          · rw [if_neg (fun z => h27 z.2)] at hS
            refine mg_iconst K (v := 0) md_B_many_34 (by decide) ?_
            refine mg_iadd K md_B_many_35 ?_
            rw [show Int32.ofNat a + 0 = Int32.ofNat a from Int32.add_zero _]
            refine mg_istore_n K md_B_many_36 (by decide) ?_
            refine mg_iinc K (v := Int32.ofNat (k + 1)) md_B_many_37 rfl (mi_a1 k) (by decide) ?_
            refine mg_goto K 4 md_B_many_40 rfl ?_
            exact ih (k + 1) _ (by omega) hS
          · rw [if_pos ⟨h17, h27⟩] at hS
            refine mg_iconst K (v := 1) md_B_many_30 (by decide) ?_
            refine mg_goto K 35 md_B_many_31 rfl ?_
            refine mg_iadd K md_B_many_35 ?_
            rw [mi_a1]
            refine mg_istore_n K md_B_many_36 (by decide) ?_
            refine mg_iinc K (v := Int32.ofNat (k + 1)) md_B_many_37 rfl (mi_a1 k) (by decide) ?_
            refine mg_goto K 4 md_B_many_40 rfl ?_
            exact ih (k + 1) _ (by omega) hS
  refine mg_iconst K (v := 0) md_B_many_0 (by decide) ?_
  refine mg_istore_n K md_B_many_1 (by decide) ?_
  refine mg_iconst K (v := 0) md_B_many_2 (by decide) ?_
  refine mg_istore_n K md_B_many_3 (by decide) ?_
  exact loop 96 0 0 (by omega) rfl
theorem ct_B_refused (hty : tys.map (·.2) = ma_ty) (g : ca_S) (h : rb_S) (o : Int64) {m0 : Nat} (hm : m0 < 96) (r : Int32) : mr_M l my_B_refused mc_B_refused 3 (some .int) 1 D mn_cl Z mb_B tys ma_sh [va_rf (some (ad 20 0)), .int (Int32.ofNat m0), .int r] ad (ma_R g (rb_R h o)) (some (.int (-r))) (ma_R g (rb_R (mg_u (mg_u h 29 m0 2) 30 m0 (-r)) o)) := by
  refine mg_M.of (cc := mc_B_refused) (maxL := 3) (ret := (some .int)) (by decide) rfl (Nat.le_of_ble_eq_true rfl) (mg_caS rfl (mg_caS rfl (mg_caS rfl mg_ca0))) ?_
  intro p e s m args below meth c K hret hlk hnm hA
  refine mg_aload_n K md_B_refused_0 rfl ?_
  refine mr_getS (k2 := 29) (i2 := 0) K mf_B_35 md_B_refused_1 Nat.zero_lt_one rfl ?_
  refine mg_iload_n K md_B_refused_4 rfl ?_
  refine mg_iconst K (v := 2) md_B_refused_5 (by decide) ?_
  refine mr_iast K rfl (ma_t hty 4) md_B_refused_6 Nat.zero_lt_one (mi_vn (by omega) (by omega)) ?_
  rw [mi_tn (by omega)]
  refine mr_eqr (rb_sI _ _ _ _ _ _ (by decide)) ?_
  refine mg_aload_n K md_B_refused_7 rfl ?_
  refine mr_getS (k2 := 30) (i2 := 0) K mf_B_38 md_B_refused_8 Nat.zero_lt_one rfl ?_
  refine mg_iload_n K md_B_refused_11 rfl ?_
  refine mg_iload_n K md_B_refused_12 rfl ?_
  refine mg_ineg K md_B_refused_13 ?_
  refine mr_iast K rfl (ma_t hty 4) md_B_refused_14 Nat.zero_lt_one (mi_vn (by omega) (by omega)) ?_
  rw [mi_tn (by omega)]
  refine mr_eqr (rb_sI _ _ _ _ _ _ (by decide)) ?_
  refine mg_iload_n K md_B_refused_15 rfl ?_
  refine mg_ineg K md_B_refused_16 ?_
  exact mg_iret K hret hlk md_B_refused_17 (Nat.le_refl _) (Nat.le_refl _) ⟨rfl, rfl, rfl⟩
end RB1
end
section
/-! the reference: a message's turn -/
def rb_sub (h : rb_S) (m : Nat) : Nat := (h 27 m).toNatClampNeg
def rb_fn (h : rb_S) (m : Nat) : Nat := (h 26 m).toNatClampNeg
/-- the ranges of a message's function and subject -/
def rb_rg (h : rb_S) : Prop := ∀ m, m < 96 → (h 27 m = Int32.ofNat (rb_sub h m) ∧ rb_sub h m < 16) ∧ h 26 m = Int32.ofNat (rb_fn h m) ∧ rb_fn h m < 5
def rb_rule (h : rb_S) (m : Nat) : Int32 :=
  if Int32.ofNat (rb_fn h m) = 0 ∨ Int32.ofNat (rb_fn h m) = 3 then (if Int32.ofNat (rb_fn h m) = 0 ∧ (h 21 (rb_sub h m) = 1 ∨ h 21 (rb_sub h m) = 2) then 1 else 0)
  else if ¬ h 21 (rb_sub h m) = 1 then (if h 21 (rb_sub h m) = 2 then 2 else if h 21 (rb_sub h m) = 3 then 3 else if Int32.ofNat (rb_many h 3) = 12 then 5 else 0)
  else if Int32.ofNat (rb_fn h m) = 2 ∧ ¬ (¬ h 22 (rb_sub h m) + h 28 m < -1000000 ∧ ¬ 1000000 < h 22 (rb_sub h m) + h 28 m) then 4 else 0
def rb_x1 (h : rb_S) (m : Nat) : Int32 := if Int32.ofNat (rb_fn h m) = 3 then 10 * h 22 (rb_sub h m) + h 21 (rb_sub h m) else 0
def rb_x2 (h : rb_S) (m : Nat) : Int32 := if Int32.ofNat (rb_fn h m) = 0 ∨ Int32.ofNat (rb_fn h m) = 1 then h 28 m else if Int32.ofNat (rb_fn h m) = 2 then h 22 (rb_sub h m) + h 28 m else h 22 (rb_sub h m)
def rb_x3 (h : rb_S) (m : Nat) : Int32 := if Int32.ofNat (rb_fn h m) = 0 then 1 else if Int32.ofNat (rb_fn h m) = 4 then 3 else h 21 (rb_sub h m)
def rb_acts (h : rb_S) (m : Nat) : rb_S := mg_u (mg_u (mg_u (mg_u (mg_u (mg_u (mg_u h 30 m (rb_x1 h m)) 22 (rb_sub h m) (rb_x2 h m)) 21 (rb_sub h m) (rb_x3 h m)) 23 (rb_sub h m) (h 23 (rb_sub h m) + 1)) 29 m 1) 36 (h 20 18).toNatClampNeg (Int32.ofNat m)) 20 18 (h 20 18 + 1)
def rb_fails (h : rb_S) (m : Nat) : rb_S :=
  if h 33 m = 0 then mg_u (mg_u (mg_u (mg_u (mg_u h 35 (rb_fn h m) 0) 29 m 4) 33 m 1) 34 m (h 20 16)) 20 16 (h 20 16 + 1)
  else mg_u (mg_u (mg_u (mg_u (mg_u (mg_u (mg_u h 35 (rb_fn h m) 0) 29 m 5) 37 (h 20 20).toNatClampNeg (Int32.ofNat m)) 20 20 (h 20 20 + 1)) 33 m 1) 34 m (h 20 16)) 20 16 (h 20 16 + 1)
def rb_dec (h : rb_S) (m : Nat) : rb_S × Int32 :=
  if ¬ rb_rule h m ≤ 0 then (mg_u (mg_u h 29 m 2) 30 m (-rb_rule h m), -rb_rule h m)
  else if ¬ Int32.ofNat (rb_fn h m) = 0 ∧ ¬ Int32.ofNat (rb_fn h m) = 3 ∧ h 21 (rb_sub h m) = 0 then (mg_u (mg_u (mg_u (mg_u h 29 m 3) 32 m (h 20 1)) 34 m (h 20 16)) 20 16 (h 20 16 + 1), 4)
  else if ¬ h 35 (rb_fn h m) = 0 then (rb_fails h m, 5) else (rb_acts h m, 1)
abbrev rb_is (h : rb_S) (w s t : Int32) (k : Nat) : Prop := ¬ h 24 k = 0 ∧ h 29 k = w ∧ (s = -1 ∨ h 27 k = s) ∧ ¬ t ≤ h 34 k
def rb_f1 (h : rb_S) (w s t : Int32) (k : Nat) : Option Nat → Option Nat
  | none => if rb_is h w s t k then some k else none
  | some j => if rb_is h w s t k ∧ ¬ h 34 j ≤ h 34 k then some k else some j
def rb_fF (h : rb_S) (w s t : Int32) : Nat → Nat → Option Nat → Option Nat
  | _, 0, x => x
  | k, f + 1, x => rb_fF h w s t (k + 1) f (rb_f1 h w s t k x)
def rb_first (h : rb_S) (w s t : Int32) : Option Nat := rb_fF h w s t 0 96 none
def rb_on (x : Option Nat) : Int32 := match x with
  | none => -1
  | some j => Int32.ofNat j
section RB2
variable {l : Launch} {D : va_G} {Z : Nat × Cell} {tys : List (ClassId × FieldType)} {ad : mg_Ad}
theorem ct_B_rule (hty : tys.map (·.2) = ma_ty) (g : ca_S) (h : rb_S) (o : Int64) {m0 : Nat} (hm : m0 < 96) (hrg : rb_rg h) : mr_M l my_B_rule mc_B_rule 4 (some .int) 2 D mn_cl Z mb_B tys ma_sh [va_rf (some (ad 20 0)), .int (Int32.ofNat m0)] ad (ma_R g (rb_R h o)) (some (.int (rb_rule h m0))) (ma_R g (rb_R h o)) := by
  have hr0 := hrg m0 hm
  have hsu := hr0.1.1
  have hu := hr0.1.2
  have hfu := hr0.2.1
  have hf5 := hr0.2.2
  refine mg_M.of (cc := mc_B_rule) (maxL := 4) (ret := (some .int)) (by decide) rfl (Nat.le_of_ble_eq_true rfl) (mg_caS rfl (mg_caS rfl mg_ca0)) ?_
  intro p e s m args below meth c K hret hlk hnm hA
  refine mg_aload_n K md_B_rule_0 rfl ?_
  refine mr_getS (k2 := 21) (i2 := 0) K mf_B_7 md_B_rule_1 Nat.zero_lt_one rfl ?_
  refine mg_aload_n K md_B_rule_4 rfl ?_
  refine mr_getS (k2 := 27) (i2 := 0) K mf_B_29 md_B_rule_5 Nat.zero_lt_one rfl ?_
  refine mg_iload_n K md_B_rule_8 rfl ?_
  refine mr_iald (v := Int32.ofNat (rb_sub h m0)) K rfl (ma_t hty 4) md_B_rule_9 Nat.zero_lt_one (mi_vn (by omega) (by omega)) (by rw [mi_tn (by omega)]; exact hsu) ?_
  refine mr_iald (v := h 21 (rb_sub h m0)) K rfl (ma_t hty 4) md_B_rule_10 Nat.zero_lt_one (mi_vn (by omega) (by omega)) (by rw [mi_tn (by omega)]; rfl) ?_
  refine mg_istore_n K md_B_rule_11 (by decide) ?_
  refine mg_aload_n K md_B_rule_12 rfl ?_
  refine mr_getS (k2 := 26) (i2 := 0) K mf_B_26 md_B_rule_13 Nat.zero_lt_one rfl ?_
  refine mg_iload_n K md_B_rule_16 rfl ?_
  refine mr_iald (v := Int32.ofNat (rb_fn h m0)) K rfl (ma_t hty 4) md_B_rule_17 Nat.zero_lt_one (mi_vn (by omega) (by omega)) (by rw [mi_tn (by omega)]; exact hfu) ?_
  refine mg_istore_n K md_B_rule_18 (by decide) ?_
  refine mg_iload_n K md_B_rule_19 rfl ?_
  refine mg_if_eq K 28 md_B_rule_20 rfl (fun h20 => ?_) (fun h20 => ?_)
  · refine mg_iload_n K md_B_rule_28 rfl ?_
    refine mg_if_ne K 46 md_B_rule_29 rfl (fun h29 => ?_) (fun h29 => ?_)
    · refine mg_iconst K (v := 0) md_B_rule_46 (by decide) ?_
      exact mg_iret K hret hlk md_B_rule_47 (Nat.le_refl _) (Nat.le_refl _) ⟨by first | contradiction | (unfold rb_rule; simp [h20, h29]; done), rfl, rfl⟩
    · refine mg_iload_n K md_B_rule_32 rfl ?_
      refine mg_iconst K (v := 1) md_B_rule_33 (by decide) ?_
      refine mg_icmp_eq K 42 md_B_rule_34 rfl (fun h34 => ?_) (fun h34 => ?_)
      · refine mg_iconst K (v := 1) md_B_rule_42 (by decide) ?_
        refine mg_goto K 47 md_B_rule_43 rfl ?_
        exact mg_iret K hret hlk md_B_rule_47 (Nat.le_refl _) (Nat.le_refl _) ⟨by first | contradiction | (unfold rb_rule; simp [h20, h29, h34]; done), rfl, rfl⟩
      · refine mg_iload_n K md_B_rule_37 rfl ?_
        refine mg_iconst K (v := 2) md_B_rule_38 (by decide) ?_
        refine mg_icmp_ne K 46 md_B_rule_39 rfl (fun h39 => ?_) (fun h39 => ?_)
        · refine mg_iconst K (v := 0) md_B_rule_46 (by decide) ?_
          exact mg_iret K hret hlk md_B_rule_47 (Nat.le_refl _) (Nat.le_refl _) ⟨by first | contradiction | (unfold rb_rule; simp [h20, h29, h34, h39]; done), rfl, rfl⟩
        · refine mg_iconst K (v := 1) md_B_rule_42 (by decide) ?_
          refine mg_goto K 47 md_B_rule_43 rfl ?_
          exact mg_iret K hret hlk md_B_rule_47 (Nat.le_refl _) (Nat.le_refl _) ⟨by first | contradiction | (unfold rb_rule; simp [h20, h29, h34, h39]; done), rfl, rfl⟩
  · refine mg_iload_n K md_B_rule_23 rfl ?_
    refine mg_iconst K (v := 3) md_B_rule_24 (by decide) ?_
    refine mg_icmp_ne K 48 md_B_rule_25 rfl (fun h25 => ?_) (fun h25 => ?_)
    · refine mg_iload_n K md_B_rule_48 rfl ?_
      refine mg_iconst K (v := 1) md_B_rule_49 (by decide) ?_
      refine mg_icmp_eq K 87 md_B_rule_50 rfl (fun h50 => ?_) (fun h50 => ?_)
      · refine mg_iload_n K md_B_rule_87 rfl ?_
        refine mg_iconst K (v := 2) md_B_rule_88 (by decide) ?_
        refine mg_icmp_ne K 124 md_B_rule_89 rfl (fun h89 => ?_) (fun h89 => ?_)
        · refine mg_iconst K (v := 0) md_B_rule_124 (by decide) ?_
          exact mg_iret K hret hlk md_B_rule_125 (Nat.le_refl _) (Nat.le_refl _) ⟨by first | contradiction | (unfold rb_rule; simp [h20, h25, h50, h89]; done), rfl, rfl⟩
        · refine mg_aload_n K md_B_rule_92 rfl ?_
          refine mr_getS (k2 := 22) (i2 := 0) K mf_B_13 md_B_rule_93 Nat.zero_lt_one rfl ?_
          refine mg_aload_n K md_B_rule_96 rfl ?_
          refine mr_getS (k2 := 27) (i2 := 0) K mf_B_29 md_B_rule_97 Nat.zero_lt_one rfl ?_
          refine mg_iload_n K md_B_rule_100 rfl ?_
          refine mr_iald (v := Int32.ofNat (rb_sub h m0)) K rfl (ma_t hty 4) md_B_rule_101 Nat.zero_lt_one (mi_vn (by omega) (by omega)) (by rw [mi_tn (by omega)]; exact hsu) ?_
          refine mr_iald (v := h 22 (rb_sub h m0)) K rfl (ma_t hty 4) md_B_rule_102 Nat.zero_lt_one (mi_vn (by omega) (by omega)) (by rw [mi_tn (by omega)]; rfl) ?_
          refine mg_aload_n K md_B_rule_103 rfl ?_
          refine mr_getS (k2 := 28) (i2 := 0) K mf_B_32 md_B_rule_104 Nat.zero_lt_one rfl ?_
          refine mg_iload_n K md_B_rule_107 rfl ?_
          refine mr_iald (v := h 28 m0) K rfl (ma_t hty 4) md_B_rule_108 Nat.zero_lt_one (mi_vn (by omega) (by omega)) (by rw [mi_tn (by omega)]; rfl) ?_
          refine mg_iadd K md_B_rule_109 ?_
          refine mg_ldc K md_B_rule_110 mk_B_74 ?_
          refine mg_ldc K md_B_rule_112 mk_B_75 ?_
          refine mr_cP K hA (ct_B_in (h 22 (rb_sub h m0) + h 28 m0) (-1000000) 1000000) ms_B_76 (by decide) md_B_rule_114 rfl (Nat.le_of_ble_eq_true rfl) ⟨Nat.zero_le _, Nat.zero_le _⟩ ?_
          refine mg_if_ne K 124 md_B_rule_117 rfl (fun h117 => ?_) (fun h117 => ?_)
          · have hin : (¬ h 22 (rb_sub h m0) + h 28 m0 < -1000000 ∧ ¬ 1000000 < h 22 (rb_sub h m0) + h 28 m0) := Classical.byContradiction (fun z => h117 (if_neg z))
            refine mg_iconst K (v := 0) md_B_rule_124 (by decide) ?_
            exact mg_iret K hret hlk md_B_rule_125 (Nat.le_refl _) (Nat.le_refl _) ⟨by first | contradiction | (unfold rb_rule; simp [h20, h25, h50, h89, hin]; done) | (unfold rb_rule; rw [if_neg (by simp [h20, h25]), if_neg (by simp [h50]), if_pos ⟨h89, hin⟩]) | (unfold rb_rule; rw [if_neg (by simp [h20, h25]), if_neg (by simp [h50]), if_neg (fun z => z.2 hin)]), rfl, rfl⟩
          · have hin : ¬ (¬ h 22 (rb_sub h m0) + h 28 m0 < -1000000 ∧ ¬ 1000000 < h 22 (rb_sub h m0) + h 28 m0) := fun z => by rw [if_pos z] at h117; exact absurd h117 (by decide)
            refine mg_iconst K (v := 4) md_B_rule_120 (by decide) ?_
            refine mg_goto K 125 md_B_rule_121 rfl ?_
            exact mg_iret K hret hlk md_B_rule_125 (Nat.le_refl _) (Nat.le_refl _) ⟨by first | contradiction | (unfold rb_rule; simp [h20, h25, h50, h89, hin]; done) | (unfold rb_rule; rw [if_neg (by simp [h20, h25]), if_neg (by simp [h50]), if_pos ⟨h89, hin⟩]) | (unfold rb_rule; rw [if_neg (by simp [h20, h25]), if_neg (by simp [h50]), if_neg (fun z => z.2 hin)]), rfl, rfl⟩
      · refine mg_iload_n K md_B_rule_53 rfl ?_
        refine mg_iconst K (v := 2) md_B_rule_54 (by decide) ?_
        refine mg_icmp_ne K 62 md_B_rule_55 rfl (fun h55 => ?_) (fun h55 => ?_)
        · refine mg_iload_n K md_B_rule_62 rfl ?_
          refine mg_iconst K (v := 3) md_B_rule_63 (by decide) ?_
          refine mg_icmp_ne K 71 md_B_rule_64 rfl (fun h64 => ?_) (fun h64 => ?_)
          · refine mg_aload_n K md_B_rule_71 rfl ?_
            refine mg_iconst K (v := 3) md_B_rule_72 (by decide) ?_
            refine mr_cV K hA (ct_B_many hty g h o 3) ms_B_70 (by decide) md_B_rule_73 rfl rfl Nat.zero_lt_one rfl (Nat.le_of_ble_eq_true rfl) ⟨Nat.zero_le _, Nat.zero_le _⟩ ?_
            refine mg_bipush K (v := 12) md_B_rule_76 (by decide) ?_
            refine mg_icmp_ne K 85 md_B_rule_78 rfl (fun h78 => ?_) (fun h78 => ?_)
            · refine mg_iconst K (v := 0) md_B_rule_85 (by decide) ?_
              exact mg_iret K hret hlk md_B_rule_86 (Nat.le_refl _) (Nat.le_refl _) ⟨by first | contradiction | (unfold rb_rule; simp [h20, h25, h50, h55, h64, h78]; done), rfl, rfl⟩
            · refine mg_iconst K (v := 5) md_B_rule_81 (by decide) ?_
              refine mg_goto K 86 md_B_rule_82 rfl ?_
              exact mg_iret K hret hlk md_B_rule_86 (Nat.le_refl _) (Nat.le_refl _) ⟨by first | contradiction | (unfold rb_rule; simp [h20, h25, h50, h55, h64, h78]; done), rfl, rfl⟩
          · refine mg_iconst K (v := 3) md_B_rule_67 (by decide) ?_
            refine mg_goto K 86 md_B_rule_68 rfl ?_
            exact mg_iret K hret hlk md_B_rule_86 (Nat.le_refl _) (Nat.le_refl _) ⟨by first | contradiction | (unfold rb_rule; simp [h20, h25, h50, h55, h64]; done), rfl, rfl⟩
        · refine mg_iconst K (v := 2) md_B_rule_58 (by decide) ?_
          refine mg_goto K 86 md_B_rule_59 rfl ?_
          exact mg_iret K hret hlk md_B_rule_86 (Nat.le_refl _) (Nat.le_refl _) ⟨by first | contradiction | (unfold rb_rule; simp [h20, h25, h50, h55]; done), rfl, rfl⟩
    · refine mg_iload_n K md_B_rule_28 rfl ?_
      refine mg_if_ne K 46 md_B_rule_29 rfl (fun h29 => ?_) (fun h29 => ?_)
      · refine mg_iconst K (v := 0) md_B_rule_46 (by decide) ?_
        exact mg_iret K hret hlk md_B_rule_47 (Nat.le_refl _) (Nat.le_refl _) ⟨by first | contradiction | (unfold rb_rule; simp [h20, h25, h29]; done) | (exfalso; rw [h25] at h29; exact absurd h29 (by decide)), rfl, rfl⟩
      · refine mg_iload_n K md_B_rule_32 rfl ?_
        refine mg_iconst K (v := 1) md_B_rule_33 (by decide) ?_
        refine mg_icmp_eq K 42 md_B_rule_34 rfl (fun h34 => ?_) (fun h34 => ?_)
        · refine mg_iconst K (v := 1) md_B_rule_42 (by decide) ?_
          refine mg_goto K 47 md_B_rule_43 rfl ?_
          exact mg_iret K hret hlk md_B_rule_47 (Nat.le_refl _) (Nat.le_refl _) ⟨by first | contradiction | (unfold rb_rule; simp [h20, h25, h29, h34]; done) | (exfalso; rw [h25] at h29; exact absurd h29 (by decide)), rfl, rfl⟩
        · refine mg_iload_n K md_B_rule_37 rfl ?_
          refine mg_iconst K (v := 2) md_B_rule_38 (by decide) ?_
          refine mg_icmp_ne K 46 md_B_rule_39 rfl (fun h39 => ?_) (fun h39 => ?_)
          · refine mg_iconst K (v := 0) md_B_rule_46 (by decide) ?_
            exact mg_iret K hret hlk md_B_rule_47 (Nat.le_refl _) (Nat.le_refl _) ⟨by first | contradiction | (unfold rb_rule; simp [h20, h25, h29, h34, h39]; done) | (exfalso; rw [h25] at h29; exact absurd h29 (by decide)), rfl, rfl⟩
          · refine mg_iconst K (v := 1) md_B_rule_42 (by decide) ?_
            refine mg_goto K 47 md_B_rule_43 rfl ?_
            exact mg_iret K hret hlk md_B_rule_47 (Nat.le_refl _) (Nat.le_refl _) ⟨by first | contradiction | (unfold rb_rule; simp [h20, h25, h29, h34, h39]; done) | (exfalso; rw [h25] at h29; exact absurd h29 (by decide)), rfl, rfl⟩
theorem ct_B_acts (hty : tys.map (·.2) = ma_ty) (g : ca_S) (h : rb_S) (o : Int64) {m0 : Nat} (hm : m0 < 96) (hrg : rb_rg h) {na : Nat} (hna : h 20 18 = Int32.ofNat na) (hn96 : na < 96) : mr_M l my_B_acts mc_B_acts 4 none 1 D mn_cl Z mb_B tys ma_sh [va_rf (some (ad 20 0)), .int (Int32.ofNat m0)] ad (ma_R g (rb_R h o)) none (ma_R g (rb_R (rb_acts h m0) o)) := by
  have hr0 := hrg m0 hm
  have hsu := hr0.1.1
  have hu := hr0.1.2
  have hfu := hr0.2.1
  have hf5 := hr0.2.2
  have htn : (h 20 18).toNatClampNeg = na := by rw [hna, mi_tn (by omega)]
  refine mg_M.of (cc := mc_B_acts) (maxL := 4) (ret := none) (by decide) rfl (Nat.le_of_ble_eq_true rfl) (mg_caS rfl (mg_caS rfl mg_ca0)) ?_
  intro p e s m args below meth c K hret hlk hnm hA
  have j4 : mg_G p l e (mg_rm 1 0 0) s m args below meth c D mn_cl Z (mg_A ad (mr_C tys ma_sh ad (ma_R g (rb_R h o))) s.heap.size) s.heap 4 (MQ below (mg_Qc D mn_cl Z ad (mr_C tys ma_sh ad (ma_R g (rb_R h o))) s.heap.size (mg_Po tys ma_sh ad none (ma_R g (rb_R (rb_acts h m0) o)))) args s 0 0 (mg_A ad (mr_C tys ma_sh ad (ma_R g (rb_R h o))) s.heap.size)) ad (mr_C tys ma_sh ad (ma_R g (rb_R (mg_u (mg_u (mg_u h 30 m0 (rb_x1 h m0)) 22 (rb_sub h m0) (rb_x2 h m0)) 21 (rb_sub h m0) (rb_x3 h m0)) o))) [some (va_rf (some (ad 20 0))), some (.int (Int32.ofNat m0)), some (.int (Int32.ofNat (rb_sub h m0))), some (.int (Int32.ofNat (rb_fn h m0)))] 0 0 [] 125 := by
    refine mg_aload_n K md_B_acts_125 rfl ?_
    refine mr_getS (k2 := 23) (i2 := 0) K mf_B_16 md_B_acts_126 Nat.zero_lt_one rfl ?_
    refine mg_iload_n K md_B_acts_129 rfl ?_
    refine mg_dup2 K md_B_acts_130 rfl rfl ?_
    refine mr_iald (v := h 23 (rb_sub h m0)) K rfl (ma_t hty 4) md_B_acts_131 Nat.zero_lt_one (mi_vn (by omega) (by omega)) (by rw [mi_tn (by omega)]; rfl) ?_
    refine mg_iconst K (v := 1) md_B_acts_132 (by decide) ?_
    refine mg_iadd K md_B_acts_133 ?_
    refine mr_iast K rfl (ma_t hty 4) md_B_acts_134 Nat.zero_lt_one (mi_vn (by omega) (by omega)) ?_
    rw [mi_tn (by omega)]
    refine mr_eqr (rb_sI _ _ _ _ _ _ (by decide)) ?_
    refine mg_aload_n K md_B_acts_135 rfl ?_
    refine mr_getS (k2 := 29) (i2 := 0) K mf_B_35 md_B_acts_136 Nat.zero_lt_one rfl ?_
    refine mg_iload_n K md_B_acts_139 rfl ?_
    refine mg_iconst K (v := 1) md_B_acts_140 (by decide) ?_
    refine mr_iast K rfl (ma_t hty 4) md_B_acts_141 Nat.zero_lt_one (mi_vn (by omega) (by omega)) ?_
    rw [mi_tn (by omega)]
    refine mr_eqr (rb_sI _ _ _ _ _ _ (by decide)) ?_
    refine mg_aload_n K md_B_acts_142 rfl ?_
    refine mr_getS (k2 := 36) (i2 := 0) K mf_B_56 md_B_acts_143 Nat.zero_lt_one rfl ?_
    refine mg_aload_n K md_B_acts_146 rfl ?_
    refine mr_getI (v := Int32.ofNat na) K mf_B_80 md_B_acts_147 (by decide) Nat.zero_lt_one hna ?_
    refine mg_iload_n K md_B_acts_150 rfl ?_
    refine mr_iast K rfl (ma_t hty 4) md_B_acts_151 Nat.zero_lt_one (mi_vn (by omega) (by omega)) ?_
    rw [mi_tn (by omega)]
    refine mr_eqr (rb_sI _ _ _ _ _ _ (by decide)) ?_
    refine mg_aload_n K md_B_acts_152 rfl ?_
    refine mg_dup K md_B_acts_153 rfl ?_
    refine mr_getI (v := Int32.ofNat na) K mf_B_80 md_B_acts_154 (by decide) Nat.zero_lt_one hna ?_
    refine mg_iconst K (v := 1) md_B_acts_157 (by decide) ?_
    refine mg_iadd K md_B_acts_158 ?_
    refine mr_putI K mf_B_80 md_B_acts_159 Nat.zero_lt_one ?_
    refine mr_eqr (rb_sI _ _ _ _ _ _ (by decide)) ?_
    exact mg_vret K hret hlk md_B_acts_162 (Nat.le_refl _) (Nat.le_refl _) ⟨rfl, rfl, by unfold rb_acts; rw [htn, hna]⟩
  have j3 : ∀ x, x = rb_x3 h m0 → mg_G p l e (mg_rm 1 0 0) s m args below meth c D mn_cl Z (mg_A ad (mr_C tys ma_sh ad (ma_R g (rb_R h o))) s.heap.size) s.heap 4 (MQ below (mg_Qc D mn_cl Z ad (mr_C tys ma_sh ad (ma_R g (rb_R h o))) s.heap.size (mg_Po tys ma_sh ad none (ma_R g (rb_R (rb_acts h m0) o)))) args s 0 0 (mg_A ad (mr_C tys ma_sh ad (ma_R g (rb_R h o))) s.heap.size)) ad (mr_C tys ma_sh ad (ma_R g (rb_R (mg_u (mg_u h 30 m0 (rb_x1 h m0)) 22 (rb_sub h m0) (rb_x2 h m0)) o))) [some (va_rf (some (ad 20 0))), some (.int (Int32.ofNat m0)), some (.int (Int32.ofNat (rb_sub h m0))), some (.int (Int32.ofNat (rb_fn h m0)))] 0 0 [.int x, .int (Int32.ofNat (rb_sub h m0)), va_rf (some (ad 21 0))] 124 := by
    rintro x rfl
    refine mr_iast K rfl (ma_t hty 4) md_B_acts_124 Nat.zero_lt_one (mi_vn (by omega) (by omega)) ?_
    rw [mi_tn (by omega)]
    refine mr_eqr (rb_sI _ _ _ _ _ _ (by decide)) ?_
    exact j4
  have j2 : ∀ x, x = rb_x2 h m0 → mg_G p l e (mg_rm 1 0 0) s m args below meth c D mn_cl Z (mg_A ad (mr_C tys ma_sh ad (ma_R g (rb_R h o))) s.heap.size) s.heap 4 (MQ below (mg_Qc D mn_cl Z ad (mr_C tys ma_sh ad (ma_R g (rb_R h o))) s.heap.size (mg_Po tys ma_sh ad none (ma_R g (rb_R (rb_acts h m0) o)))) args s 0 0 (mg_A ad (mr_C tys ma_sh ad (ma_R g (rb_R h o))) s.heap.size)) ad (mr_C tys ma_sh ad (ma_R g (rb_R (mg_u h 30 m0 (rb_x1 h m0)) o))) [some (va_rf (some (ad 20 0))), some (.int (Int32.ofNat m0)), some (.int (Int32.ofNat (rb_sub h m0))), some (.int (Int32.ofNat (rb_fn h m0)))] 0 0 [.int x, .int (Int32.ofNat (rb_sub h m0)), va_rf (some (ad 22 0))] 95 := by
    rintro x rfl
    refine mr_iast K rfl (ma_t hty 4) md_B_acts_95 Nat.zero_lt_one (mi_vn (by omega) (by omega)) ?_
    rw [mi_tn (by omega)]
    refine mr_eqr (rb_sI _ _ _ _ _ _ (by decide)) ?_
    refine mg_aload_n K md_B_acts_96 rfl ?_
    refine mr_getS (k2 := 21) (i2 := 0) K mf_B_7 md_B_acts_97 Nat.zero_lt_one rfl ?_
    refine mg_iload_n K md_B_acts_100 rfl ?_
    refine mg_iload_n K md_B_acts_101 rfl ?_
    refine mg_if_ne K 109 md_B_acts_102 rfl (fun h102 => ?_) (fun h102 => ?_)
    · refine mg_iload_n K md_B_acts_109 rfl ?_
      refine mg_iconst K (v := 4) md_B_acts_110 (by decide) ?_
      refine mg_icmp_ne K 118 md_B_acts_111 rfl (fun h111 => ?_) (fun h111 => ?_)
      · refine mg_aload_n K md_B_acts_118 rfl ?_
        refine mr_getS (k2 := 21) (i2 := 0) K mf_B_7 md_B_acts_119 Nat.zero_lt_one rfl ?_
        refine mg_iload_n K md_B_acts_122 rfl ?_
        refine mr_iald (v := h 21 (rb_sub h m0)) K rfl (ma_t hty 4) md_B_acts_123 Nat.zero_lt_one (mi_vn (by omega) (by omega)) (by rw [mi_tn (by omega)]; rfl) ?_
        exact j3 _ (by first | contradiction | (unfold rb_x3; simp [h102, h111]; done))
      · refine mg_iconst K (v := 3) md_B_acts_114 (by decide) ?_
        refine mg_goto K 124 md_B_acts_115 rfl ?_
        exact j3 _ (by first | contradiction | (unfold rb_x3; simp [h102, h111]; done))
    · refine mg_iconst K (v := 1) md_B_acts_105 (by decide) ?_
      refine mg_goto K 124 md_B_acts_106 rfl ?_
      exact j3 _ (by first | contradiction | (unfold rb_x3; simp [h102]; done))
  have j1 : ∀ x, x = rb_x1 h m0 → mg_G p l e (mg_rm 1 0 0) s m args below meth c D mn_cl Z (mg_A ad (mr_C tys ma_sh ad (ma_R g (rb_R h o))) s.heap.size) s.heap 4 (MQ below (mg_Qc D mn_cl Z ad (mr_C tys ma_sh ad (ma_R g (rb_R h o))) s.heap.size (mg_Po tys ma_sh ad none (ma_R g (rb_R (rb_acts h m0) o)))) args s 0 0 (mg_A ad (mr_C tys ma_sh ad (ma_R g (rb_R h o))) s.heap.size)) ad (mr_C tys ma_sh ad (ma_R g (rb_R h o))) [some (va_rf (some (ad 20 0))), some (.int (Int32.ofNat m0)), some (.int (Int32.ofNat (rb_sub h m0))), some (.int (Int32.ofNat (rb_fn h m0)))] 0 0 [.int x, .int (Int32.ofNat m0), va_rf (some (ad 30 0))] 44 := by
    rintro x rfl
    refine mr_iast K rfl (ma_t hty 4) md_B_acts_44 Nat.zero_lt_one (mi_vn (by omega) (by omega)) ?_
    rw [mi_tn (by omega)]
    refine mr_eqr (rb_sI _ _ _ _ _ _ (by decide)) ?_
    refine mg_aload_n K md_B_acts_45 rfl ?_
    refine mr_getS (k2 := 22) (i2 := 0) K mf_B_13 md_B_acts_46 Nat.zero_lt_one rfl ?_
    refine mg_iload_n K md_B_acts_49 rfl ?_
    refine mg_iload_n K md_B_acts_50 rfl ?_
    refine mg_if_eq K 59 md_B_acts_51 rfl (fun h51 => ?_) (fun h51 => ?_)
    · refine mg_aload_n K md_B_acts_59 rfl ?_
      refine mr_getS (k2 := 28) (i2 := 0) K mf_B_32 md_B_acts_60 Nat.zero_lt_one rfl ?_
      refine mg_iload_n K md_B_acts_63 rfl ?_
      refine mr_iald (v := h 28 m0) K rfl (ma_t hty 4) md_B_acts_64 Nat.zero_lt_one (mi_vn (by omega) (by omega)) (by rw [mi_tn (by omega)]; rfl) ?_
      refine mg_goto K 95 md_B_acts_65 rfl ?_
      exact j2 _ (by first | contradiction | (unfold rb_x2; simp [h51]; done))
    · refine mg_iload_n K md_B_acts_54 rfl ?_
      refine mg_iconst K (v := 1) md_B_acts_55 (by decide) ?_
      refine mg_icmp_ne K 68 md_B_acts_56 rfl (fun h56 => ?_) (fun h56 => ?_)
      · refine mg_iload_n K md_B_acts_68 rfl ?_
        refine mg_iconst K (v := 2) md_B_acts_69 (by decide) ?_
        refine mg_icmp_ne K 89 md_B_acts_70 rfl (fun h70 => ?_) (fun h70 => ?_)
        · refine mg_aload_n K md_B_acts_89 rfl ?_
          refine mr_getS (k2 := 22) (i2 := 0) K mf_B_13 md_B_acts_90 Nat.zero_lt_one rfl ?_
          refine mg_iload_n K md_B_acts_93 rfl ?_
          refine mr_iald (v := h 22 (rb_sub h m0)) K rfl (ma_t hty 4) md_B_acts_94 Nat.zero_lt_one (mi_vn (by omega) (by omega)) (by rw [mi_tn (by omega)]; rfl) ?_
          exact j2 _ (by first | contradiction | (unfold rb_x2; simp [h51, h56, h70]; done))
        · refine mg_aload_n K md_B_acts_73 rfl ?_
          refine mr_getS (k2 := 22) (i2 := 0) K mf_B_13 md_B_acts_74 Nat.zero_lt_one rfl ?_
          refine mg_iload_n K md_B_acts_77 rfl ?_
          refine mr_iald (v := h 22 (rb_sub h m0)) K rfl (ma_t hty 4) md_B_acts_78 Nat.zero_lt_one (mi_vn (by omega) (by omega)) (by rw [mi_tn (by omega)]; rfl) ?_
          refine mg_aload_n K md_B_acts_79 rfl ?_
          refine mr_getS (k2 := 28) (i2 := 0) K mf_B_32 md_B_acts_80 Nat.zero_lt_one rfl ?_
          refine mg_iload_n K md_B_acts_83 rfl ?_
          refine mr_iald (v := h 28 m0) K rfl (ma_t hty 4) md_B_acts_84 Nat.zero_lt_one (mi_vn (by omega) (by omega)) (by rw [mi_tn (by omega)]; rfl) ?_
          refine mg_iadd K md_B_acts_85 ?_
          refine mg_goto K 95 md_B_acts_86 rfl ?_
          exact j2 _ (by first | contradiction | (unfold rb_x2; simp [h51, h56, h70]; done))
      · refine mg_aload_n K md_B_acts_59 rfl ?_
        refine mr_getS (k2 := 28) (i2 := 0) K mf_B_32 md_B_acts_60 Nat.zero_lt_one rfl ?_
        refine mg_iload_n K md_B_acts_63 rfl ?_
        refine mr_iald (v := h 28 m0) K rfl (ma_t hty 4) md_B_acts_64 Nat.zero_lt_one (mi_vn (by omega) (by omega)) (by rw [mi_tn (by omega)]; rfl) ?_
        refine mg_goto K 95 md_B_acts_65 rfl ?_
        exact j2 _ (by first | contradiction | (unfold rb_x2; simp [h51, h56]; done))
  refine mg_aload_n K md_B_acts_0 rfl ?_
  refine mr_getS (k2 := 27) (i2 := 0) K mf_B_29 md_B_acts_1 Nat.zero_lt_one rfl ?_
  refine mg_iload_n K md_B_acts_4 rfl ?_
  refine mr_iald (v := Int32.ofNat (rb_sub h m0)) K rfl (ma_t hty 4) md_B_acts_5 Nat.zero_lt_one (mi_vn (by omega) (by omega)) (by rw [mi_tn (by omega)]; exact hsu) ?_
  refine mg_istore_n K md_B_acts_6 (by decide) ?_
  refine mg_aload_n K md_B_acts_7 rfl ?_
  refine mr_getS (k2 := 26) (i2 := 0) K mf_B_26 md_B_acts_8 Nat.zero_lt_one rfl ?_
  refine mg_iload_n K md_B_acts_11 rfl ?_
  refine mr_iald (v := Int32.ofNat (rb_fn h m0)) K rfl (ma_t hty 4) md_B_acts_12 Nat.zero_lt_one (mi_vn (by omega) (by omega)) (by rw [mi_tn (by omega)]; exact hfu) ?_
  refine mg_istore_n K md_B_acts_13 (by decide) ?_
  refine mg_aload_n K md_B_acts_14 rfl ?_
  refine mr_getS (k2 := 30) (i2 := 0) K mf_B_38 md_B_acts_15 Nat.zero_lt_one rfl ?_
  refine mg_iload_n K md_B_acts_18 rfl ?_
  refine mg_iload_n K md_B_acts_19 rfl ?_
  refine mg_iconst K (v := 3) md_B_acts_20 (by decide) ?_
  refine mg_icmp_ne K 43 md_B_acts_21 rfl (fun h21 => ?_) (fun h21 => ?_)
  · refine mg_iconst K (v := 0) md_B_acts_43 (by decide) ?_
    exact j1 _ (by first | contradiction | (unfold rb_x1; simp [h21]; done))
  · refine mg_bipush K (v := 10) md_B_acts_24 (by decide) ?_
    refine mg_aload_n K md_B_acts_26 rfl ?_
    refine mr_getS (k2 := 22) (i2 := 0) K mf_B_13 md_B_acts_27 Nat.zero_lt_one rfl ?_
    refine mg_iload_n K md_B_acts_30 rfl ?_
    refine mr_iald (v := h 22 (rb_sub h m0)) K rfl (ma_t hty 4) md_B_acts_31 Nat.zero_lt_one (mi_vn (by omega) (by omega)) (by rw [mi_tn (by omega)]; rfl) ?_
    refine mg_imul K md_B_acts_32 ?_
    refine mg_aload_n K md_B_acts_33 rfl ?_
    refine mr_getS (k2 := 21) (i2 := 0) K mf_B_7 md_B_acts_34 Nat.zero_lt_one rfl ?_
    refine mg_iload_n K md_B_acts_37 rfl ?_
    refine mr_iald (v := h 21 (rb_sub h m0)) K rfl (ma_t hty 4) md_B_acts_38 Nat.zero_lt_one (mi_vn (by omega) (by omega)) (by rw [mi_tn (by omega)]; rfl) ?_
    refine mg_iadd K md_B_acts_39 ?_
    refine mg_goto K 44 md_B_acts_40 rfl ?_
    exact j1 _ (by first | contradiction | (unfold rb_x1; simp [h21]; done))
theorem ct_B_decides (hty : tys.map (·.2) = ma_ty) (g : ca_S) (h : rb_S) (o : Int64) {m0 : Nat} (hm : m0 < 96) (hrg : rb_rg h) {na nd : Nat} (hna : h 20 18 = Int32.ofNat na) (hn96 : na < 96) (hnd : h 20 20 = Int32.ofNat nd) (hd96 : nd < 96) : mr_M l my_B_decides mc_B_decides 4 (some .int) 3 D mn_cl Z mb_B tys ma_sh [va_rf (some (ad 20 0)), .int (Int32.ofNat m0)] ad (ma_R g (rb_R h o)) (some (.int (rb_dec h m0).2)) (ma_R g (rb_R (rb_dec h m0).1 o)) := by
  have hr0 := hrg m0 hm
  have hsu := hr0.1.1
  have hu := hr0.1.2
  have hfu := hr0.2.1
  have hf5 := hr0.2.2
  have htd : (h 20 20).toNatClampNeg = nd := by rw [hnd, mi_tn (by omega)]
  refine mg_M.of (cc := mc_B_decides) (maxL := 4) (ret := (some .int)) (by decide) rfl (Nat.le_of_ble_eq_true rfl) (mg_caS rfl (mg_caS rfl mg_ca0)) ?_
  intro p e s m args below meth c K hret hlk hnm hA
  refine mg_aload_n K md_B_decides_0 rfl ?_
  refine mg_iload_n K md_B_decides_1 rfl ?_
  refine mr_cV K hA (ct_B_rule hty g h o hm hrg) ms_B_83 (by decide) md_B_decides_2 rfl rfl Nat.zero_lt_one rfl (Nat.le_of_ble_eq_true rfl) ⟨Nat.zero_le _, Nat.zero_le _⟩ ?_
  refine mg_istore_n K md_B_decides_5 (by decide) ?_
  refine mg_iload_n K md_B_decides_6 rfl ?_
  refine mg_if_le K 17 md_B_decides_7 rfl (fun h7 => ?_) (fun h7 => ?_)
  · refine mg_aload_n K md_B_decides_17 rfl ?_
    refine mr_getS (k2 := 26) (i2 := 0) K mf_B_26 md_B_decides_18 Nat.zero_lt_one rfl ?_
    refine mg_iload_n K md_B_decides_21 rfl ?_
    refine mr_iald (v := Int32.ofNat (rb_fn h m0)) K rfl (ma_t hty 4) md_B_decides_22 Nat.zero_lt_one (mi_vn (by omega) (by omega)) (by rw [mi_tn (by omega)]; exact hfu) ?_
    refine mg_istore_n K md_B_decides_23 (by decide) ?_
    refine mg_iload_n K md_B_decides_24 rfl ?_
    refine mg_if_eq K 86 md_B_decides_25 rfl (fun h25 => ?_) (fun h25 => ?_)
    · have hw : ¬ (¬ Int32.ofNat (rb_fn h m0) = 0 ∧ ¬ Int32.ofNat (rb_fn h m0) = 3 ∧ h 21 (rb_sub h m0) = 0) := by simp [h25]
      refine mg_aload_n K md_B_decides_86 rfl ?_
      refine mr_getS (k2 := 35) (i2 := 0) K mf_B_53 md_B_decides_87 Nat.zero_lt_one rfl ?_
      refine mg_iload_n K md_B_decides_90 rfl ?_
      refine mr_zald (v := h 35 (rb_fn h m0)) K rfl (ma_t hty 2) md_B_decides_91 Nat.zero_lt_one (mi_vn (by omega) (by omega)) (by rw [mi_tn (by omega)]; rfl) ?_
      refine mg_if_eq K 180 md_B_decides_92 rfl (fun h92 => ?_) (fun h92 => ?_)
      · have hD : rb_dec h m0 = (rb_acts h m0, 1) := (if_neg (fun z => z h7)).trans ((if_neg hw).trans (if_neg (fun z => z h92)))
        refine mg_aload_n K md_B_decides_180 rfl ?_
        refine mg_iload_n K md_B_decides_181 rfl ?_
        refine mr_cV K hA (ct_B_acts hty g h o hm hrg hna hn96) ms_B_99 (by decide) md_B_decides_182 rfl rfl Nat.zero_lt_one rfl (Nat.le_of_ble_eq_true rfl) ⟨Nat.zero_le _, Nat.zero_le _⟩ ?_
        refine mg_iconst K (v := 1) md_B_decides_185 (by decide) ?_
        exact mg_iret K hret hlk md_B_decides_186 (Nat.le_refl _) (Nat.le_refl _) ⟨by rw [hD], rfl, by rw [hD]⟩
      · have hD : rb_dec h m0 = (rb_fails h m0, 5) := (if_neg (fun z => z h7)).trans ((if_neg hw).trans (if_pos h92))
        refine mg_aload_n K md_B_decides_95 rfl ?_
        refine mr_getS (k2 := 35) (i2 := 0) K mf_B_53 md_B_decides_96 Nat.zero_lt_one rfl ?_
        refine mg_iload_n K md_B_decides_99 rfl ?_
        refine mg_iconst K (v := 0) md_B_decides_100 (by decide) ?_
        refine mr_zast (v := 0) K rfl (ma_t hty 2) md_B_decides_101 Nat.zero_lt_one (mi_vn (by omega) (by omega)) (by decide) ?_
        rw [mi_tn (by omega)]
        refine mr_eqr (rb_sI _ _ _ _ _ _ (by decide)) ?_
        refine mg_aload_n K md_B_decides_102 rfl ?_
        refine mr_getS (k2 := 29) (i2 := 0) K mf_B_35 md_B_decides_103 Nat.zero_lt_one rfl ?_
        refine mg_iload_n K md_B_decides_106 rfl ?_
        refine mg_aload_n K md_B_decides_107 rfl ?_
        refine mr_getS (k2 := 33) (i2 := 0) K mf_B_47 md_B_decides_108 Nat.zero_lt_one rfl ?_
        refine mg_iload_n K md_B_decides_111 rfl ?_
        refine mr_zald (v := h 33 m0) K rfl (ma_t hty 2) md_B_decides_112 Nat.zero_lt_one (mi_vn (by omega) (by omega)) (by rw [mi_tn (by omega)]; rfl) ?_
        refine mg_if_eq K 120 md_B_decides_113 rfl (fun h113 => ?_) (fun h113 => ?_)
        · refine mg_iconst K (v := 4) md_B_decides_120 (by decide) ?_
          refine mr_iast K rfl (ma_t hty 4) md_B_decides_121 Nat.zero_lt_one (mi_vn (by omega) (by omega)) ?_
          rw [mi_tn (by omega)]
          refine mr_eqr (rb_sI _ _ _ _ _ _ (by decide)) ?_
          refine mg_aload_n K md_B_decides_122 rfl ?_
          refine mr_getS (k2 := 33) (i2 := 0) K mf_B_47 md_B_decides_123 Nat.zero_lt_one rfl ?_
          refine mg_iload_n K md_B_decides_126 rfl ?_
          refine mr_zald (v := h 33 m0) K rfl (ma_t hty 2) md_B_decides_127 Nat.zero_lt_one (mi_vn (by omega) (by omega)) (by rw [mi_tn (by omega)]; rfl) ?_
          refine mg_if_eq K 151 md_B_decides_128 rfl (fun h128 => ?_) (fun h128 => ?_)
          · refine mg_aload_n K md_B_decides_151 rfl ?_
            refine mr_getS (k2 := 33) (i2 := 0) K mf_B_47 md_B_decides_152 Nat.zero_lt_one rfl ?_
            refine mg_iload_n K md_B_decides_155 rfl ?_
            refine mg_iconst K (v := 1) md_B_decides_156 (by decide) ?_
            refine mr_zast (v := 1) K rfl (ma_t hty 2) md_B_decides_157 Nat.zero_lt_one (mi_vn (by omega) (by omega)) (by decide) ?_
            rw [mi_tn (by omega)]
            refine mr_eqr (rb_sI _ _ _ _ _ _ (by decide)) ?_
            refine mg_aload_n K md_B_decides_158 rfl ?_
            refine mr_getS (k2 := 34) (i2 := 0) K mf_B_50 md_B_decides_159 Nat.zero_lt_one rfl ?_
            refine mg_iload_n K md_B_decides_162 rfl ?_
            refine mg_aload_n K md_B_decides_163 rfl ?_
            refine mr_getI (v := h 20 16) K mf_B_93 md_B_decides_164 (by decide) Nat.zero_lt_one rfl ?_
            refine mr_iast K rfl (ma_t hty 4) md_B_decides_167 Nat.zero_lt_one (mi_vn (by omega) (by omega)) ?_
            rw [mi_tn (by omega)]
            refine mr_eqr (rb_sI _ _ _ _ _ _ (by decide)) ?_
            refine mg_aload_n K md_B_decides_168 rfl ?_
            refine mg_dup K md_B_decides_169 rfl ?_
            refine mr_getI (v := h 20 16) K mf_B_93 md_B_decides_170 (by decide) Nat.zero_lt_one rfl ?_
            refine mg_iconst K (v := 1) md_B_decides_173 (by decide) ?_
            refine mg_iadd K md_B_decides_174 ?_
            refine mr_putI K mf_B_93 md_B_decides_175 Nat.zero_lt_one ?_
            refine mr_eqr (rb_sI _ _ _ _ _ _ (by decide)) ?_
            refine mg_iconst K (v := 5) md_B_decides_178 (by decide) ?_
            exact mg_iret K hret hlk md_B_decides_179 (Nat.le_refl _) (Nat.le_refl _) ⟨by rw [hD], rfl, by first | contradiction | (rw [hD]; unfold rb_fails; rw [if_pos h113])⟩
          · refine mg_aload_n K md_B_decides_131 rfl ?_
            refine mr_getS (k2 := 37) (i2 := 0) K mf_B_59 md_B_decides_132 Nat.zero_lt_one rfl ?_
            refine mg_aload_n K md_B_decides_135 rfl ?_
            refine mr_getI (v := Int32.ofNat nd) K mf_B_96 md_B_decides_136 (by decide) Nat.zero_lt_one hnd ?_
            refine mg_iload_n K md_B_decides_139 rfl ?_
            refine mr_iast K rfl (ma_t hty 4) md_B_decides_140 Nat.zero_lt_one (mi_vn (by omega) (by omega)) ?_
            rw [mi_tn (by omega)]
            refine mr_eqr (rb_sI _ _ _ _ _ _ (by decide)) ?_
            refine mg_aload_n K md_B_decides_141 rfl ?_
            refine mg_dup K md_B_decides_142 rfl ?_
            refine mr_getI (v := Int32.ofNat nd) K mf_B_96 md_B_decides_143 (by decide) Nat.zero_lt_one hnd ?_
            refine mg_iconst K (v := 1) md_B_decides_146 (by decide) ?_
            refine mg_iadd K md_B_decides_147 ?_
            refine mr_putI K mf_B_96 md_B_decides_148 Nat.zero_lt_one ?_
            refine mr_eqr (rb_sI _ _ _ _ _ _ (by decide)) ?_
            refine mg_aload_n K md_B_decides_151 rfl ?_
            refine mr_getS (k2 := 33) (i2 := 0) K mf_B_47 md_B_decides_152 Nat.zero_lt_one rfl ?_
            refine mg_iload_n K md_B_decides_155 rfl ?_
            refine mg_iconst K (v := 1) md_B_decides_156 (by decide) ?_
            refine mr_zast (v := 1) K rfl (ma_t hty 2) md_B_decides_157 Nat.zero_lt_one (mi_vn (by omega) (by omega)) (by decide) ?_
            rw [mi_tn (by omega)]
            refine mr_eqr (rb_sI _ _ _ _ _ _ (by decide)) ?_
            refine mg_aload_n K md_B_decides_158 rfl ?_
            refine mr_getS (k2 := 34) (i2 := 0) K mf_B_50 md_B_decides_159 Nat.zero_lt_one rfl ?_
            refine mg_iload_n K md_B_decides_162 rfl ?_
            refine mg_aload_n K md_B_decides_163 rfl ?_
            refine mr_getI (v := h 20 16) K mf_B_93 md_B_decides_164 (by decide) Nat.zero_lt_one rfl ?_
            refine mr_iast K rfl (ma_t hty 4) md_B_decides_167 Nat.zero_lt_one (mi_vn (by omega) (by omega)) ?_
            rw [mi_tn (by omega)]
            refine mr_eqr (rb_sI _ _ _ _ _ _ (by decide)) ?_
            refine mg_aload_n K md_B_decides_168 rfl ?_
            refine mg_dup K md_B_decides_169 rfl ?_
            refine mr_getI (v := h 20 16) K mf_B_93 md_B_decides_170 (by decide) Nat.zero_lt_one rfl ?_
            refine mg_iconst K (v := 1) md_B_decides_173 (by decide) ?_
            refine mg_iadd K md_B_decides_174 ?_
            refine mr_putI K mf_B_93 md_B_decides_175 Nat.zero_lt_one ?_
            refine mr_eqr (rb_sI _ _ _ _ _ _ (by decide)) ?_
            refine mg_iconst K (v := 5) md_B_decides_178 (by decide) ?_
            exact mg_iret K hret hlk md_B_decides_179 (Nat.le_refl _) (Nat.le_refl _) ⟨by rw [hD], rfl, by first | contradiction | (rw [hD]; unfold rb_fails; rw [if_pos h113])⟩
        · refine mg_iconst K (v := 5) md_B_decides_116 (by decide) ?_
          refine mg_goto K 121 md_B_decides_117 rfl ?_
          refine mr_iast K rfl (ma_t hty 4) md_B_decides_121 Nat.zero_lt_one (mi_vn (by omega) (by omega)) ?_
          rw [mi_tn (by omega)]
          refine mr_eqr (rb_sI _ _ _ _ _ _ (by decide)) ?_
          refine mg_aload_n K md_B_decides_122 rfl ?_
          refine mr_getS (k2 := 33) (i2 := 0) K mf_B_47 md_B_decides_123 Nat.zero_lt_one rfl ?_
          refine mg_iload_n K md_B_decides_126 rfl ?_
          refine mr_zald (v := h 33 m0) K rfl (ma_t hty 2) md_B_decides_127 Nat.zero_lt_one (mi_vn (by omega) (by omega)) (by rw [mi_tn (by omega)]; rfl) ?_
          refine mg_if_eq K 151 md_B_decides_128 rfl (fun h128 => ?_) (fun h128 => ?_)
          · refine mg_aload_n K md_B_decides_151 rfl ?_
            refine mr_getS (k2 := 33) (i2 := 0) K mf_B_47 md_B_decides_152 Nat.zero_lt_one rfl ?_
            refine mg_iload_n K md_B_decides_155 rfl ?_
            refine mg_iconst K (v := 1) md_B_decides_156 (by decide) ?_
            refine mr_zast (v := 1) K rfl (ma_t hty 2) md_B_decides_157 Nat.zero_lt_one (mi_vn (by omega) (by omega)) (by decide) ?_
            rw [mi_tn (by omega)]
            refine mr_eqr (rb_sI _ _ _ _ _ _ (by decide)) ?_
            refine mg_aload_n K md_B_decides_158 rfl ?_
            refine mr_getS (k2 := 34) (i2 := 0) K mf_B_50 md_B_decides_159 Nat.zero_lt_one rfl ?_
            refine mg_iload_n K md_B_decides_162 rfl ?_
            refine mg_aload_n K md_B_decides_163 rfl ?_
            refine mr_getI (v := h 20 16) K mf_B_93 md_B_decides_164 (by decide) Nat.zero_lt_one rfl ?_
            refine mr_iast K rfl (ma_t hty 4) md_B_decides_167 Nat.zero_lt_one (mi_vn (by omega) (by omega)) ?_
            rw [mi_tn (by omega)]
            refine mr_eqr (rb_sI _ _ _ _ _ _ (by decide)) ?_
            refine mg_aload_n K md_B_decides_168 rfl ?_
            refine mg_dup K md_B_decides_169 rfl ?_
            refine mr_getI (v := h 20 16) K mf_B_93 md_B_decides_170 (by decide) Nat.zero_lt_one rfl ?_
            refine mg_iconst K (v := 1) md_B_decides_173 (by decide) ?_
            refine mg_iadd K md_B_decides_174 ?_
            refine mr_putI K mf_B_93 md_B_decides_175 Nat.zero_lt_one ?_
            refine mr_eqr (rb_sI _ _ _ _ _ _ (by decide)) ?_
            refine mg_iconst K (v := 5) md_B_decides_178 (by decide) ?_
            exact mg_iret K hret hlk md_B_decides_179 (Nat.le_refl _) (Nat.le_refl _) ⟨by rw [hD], rfl, by first | contradiction | (rw [hD]; unfold rb_fails; rw [if_neg h113, htd, hnd])⟩
          · refine mg_aload_n K md_B_decides_131 rfl ?_
            refine mr_getS (k2 := 37) (i2 := 0) K mf_B_59 md_B_decides_132 Nat.zero_lt_one rfl ?_
            refine mg_aload_n K md_B_decides_135 rfl ?_
            refine mr_getI (v := Int32.ofNat nd) K mf_B_96 md_B_decides_136 (by decide) Nat.zero_lt_one hnd ?_
            refine mg_iload_n K md_B_decides_139 rfl ?_
            refine mr_iast K rfl (ma_t hty 4) md_B_decides_140 Nat.zero_lt_one (mi_vn (by omega) (by omega)) ?_
            rw [mi_tn (by omega)]
            refine mr_eqr (rb_sI _ _ _ _ _ _ (by decide)) ?_
            refine mg_aload_n K md_B_decides_141 rfl ?_
            refine mg_dup K md_B_decides_142 rfl ?_
            refine mr_getI (v := Int32.ofNat nd) K mf_B_96 md_B_decides_143 (by decide) Nat.zero_lt_one hnd ?_
            refine mg_iconst K (v := 1) md_B_decides_146 (by decide) ?_
            refine mg_iadd K md_B_decides_147 ?_
            refine mr_putI K mf_B_96 md_B_decides_148 Nat.zero_lt_one ?_
            refine mr_eqr (rb_sI _ _ _ _ _ _ (by decide)) ?_
            refine mg_aload_n K md_B_decides_151 rfl ?_
            refine mr_getS (k2 := 33) (i2 := 0) K mf_B_47 md_B_decides_152 Nat.zero_lt_one rfl ?_
            refine mg_iload_n K md_B_decides_155 rfl ?_
            refine mg_iconst K (v := 1) md_B_decides_156 (by decide) ?_
            refine mr_zast (v := 1) K rfl (ma_t hty 2) md_B_decides_157 Nat.zero_lt_one (mi_vn (by omega) (by omega)) (by decide) ?_
            rw [mi_tn (by omega)]
            refine mr_eqr (rb_sI _ _ _ _ _ _ (by decide)) ?_
            refine mg_aload_n K md_B_decides_158 rfl ?_
            refine mr_getS (k2 := 34) (i2 := 0) K mf_B_50 md_B_decides_159 Nat.zero_lt_one rfl ?_
            refine mg_iload_n K md_B_decides_162 rfl ?_
            refine mg_aload_n K md_B_decides_163 rfl ?_
            refine mr_getI (v := h 20 16) K mf_B_93 md_B_decides_164 (by decide) Nat.zero_lt_one rfl ?_
            refine mr_iast K rfl (ma_t hty 4) md_B_decides_167 Nat.zero_lt_one (mi_vn (by omega) (by omega)) ?_
            rw [mi_tn (by omega)]
            refine mr_eqr (rb_sI _ _ _ _ _ _ (by decide)) ?_
            refine mg_aload_n K md_B_decides_168 rfl ?_
            refine mg_dup K md_B_decides_169 rfl ?_
            refine mr_getI (v := h 20 16) K mf_B_93 md_B_decides_170 (by decide) Nat.zero_lt_one rfl ?_
            refine mg_iconst K (v := 1) md_B_decides_173 (by decide) ?_
            refine mg_iadd K md_B_decides_174 ?_
            refine mr_putI K mf_B_93 md_B_decides_175 Nat.zero_lt_one ?_
            refine mr_eqr (rb_sI _ _ _ _ _ _ (by decide)) ?_
            refine mg_iconst K (v := 5) md_B_decides_178 (by decide) ?_
            exact mg_iret K hret hlk md_B_decides_179 (Nat.le_refl _) (Nat.le_refl _) ⟨by rw [hD], rfl, by first | contradiction | (rw [hD]; unfold rb_fails; rw [if_neg h113, htd, hnd])⟩
    · refine mg_iload_n K md_B_decides_28 rfl ?_
      refine mg_iconst K (v := 3) md_B_decides_29 (by decide) ?_
      refine mg_icmp_eq K 86 md_B_decides_30 rfl (fun h30 => ?_) (fun h30 => ?_)
      · have hw : ¬ (¬ Int32.ofNat (rb_fn h m0) = 0 ∧ ¬ Int32.ofNat (rb_fn h m0) = 3 ∧ h 21 (rb_sub h m0) = 0) := by simp [h25, h30]
        refine mg_aload_n K md_B_decides_86 rfl ?_
        refine mr_getS (k2 := 35) (i2 := 0) K mf_B_53 md_B_decides_87 Nat.zero_lt_one rfl ?_
        refine mg_iload_n K md_B_decides_90 rfl ?_
        refine mr_zald (v := h 35 (rb_fn h m0)) K rfl (ma_t hty 2) md_B_decides_91 Nat.zero_lt_one (mi_vn (by omega) (by omega)) (by rw [mi_tn (by omega)]; rfl) ?_
        refine mg_if_eq K 180 md_B_decides_92 rfl (fun h92 => ?_) (fun h92 => ?_)
        · have hD : rb_dec h m0 = (rb_acts h m0, 1) := (if_neg (fun z => z h7)).trans ((if_neg hw).trans (if_neg (fun z => z h92)))
          refine mg_aload_n K md_B_decides_180 rfl ?_
          refine mg_iload_n K md_B_decides_181 rfl ?_
          refine mr_cV K hA (ct_B_acts hty g h o hm hrg hna hn96) ms_B_99 (by decide) md_B_decides_182 rfl rfl Nat.zero_lt_one rfl (Nat.le_of_ble_eq_true rfl) ⟨Nat.zero_le _, Nat.zero_le _⟩ ?_
          refine mg_iconst K (v := 1) md_B_decides_185 (by decide) ?_
          exact mg_iret K hret hlk md_B_decides_186 (Nat.le_refl _) (Nat.le_refl _) ⟨by rw [hD], rfl, by rw [hD]⟩
        · have hD : rb_dec h m0 = (rb_fails h m0, 5) := (if_neg (fun z => z h7)).trans ((if_neg hw).trans (if_pos h92))
          refine mg_aload_n K md_B_decides_95 rfl ?_
          refine mr_getS (k2 := 35) (i2 := 0) K mf_B_53 md_B_decides_96 Nat.zero_lt_one rfl ?_
          refine mg_iload_n K md_B_decides_99 rfl ?_
          refine mg_iconst K (v := 0) md_B_decides_100 (by decide) ?_
          refine mr_zast (v := 0) K rfl (ma_t hty 2) md_B_decides_101 Nat.zero_lt_one (mi_vn (by omega) (by omega)) (by decide) ?_
          rw [mi_tn (by omega)]
          refine mr_eqr (rb_sI _ _ _ _ _ _ (by decide)) ?_
          refine mg_aload_n K md_B_decides_102 rfl ?_
          refine mr_getS (k2 := 29) (i2 := 0) K mf_B_35 md_B_decides_103 Nat.zero_lt_one rfl ?_
          refine mg_iload_n K md_B_decides_106 rfl ?_
          refine mg_aload_n K md_B_decides_107 rfl ?_
          refine mr_getS (k2 := 33) (i2 := 0) K mf_B_47 md_B_decides_108 Nat.zero_lt_one rfl ?_
          refine mg_iload_n K md_B_decides_111 rfl ?_
          refine mr_zald (v := h 33 m0) K rfl (ma_t hty 2) md_B_decides_112 Nat.zero_lt_one (mi_vn (by omega) (by omega)) (by rw [mi_tn (by omega)]; rfl) ?_
          refine mg_if_eq K 120 md_B_decides_113 rfl (fun h113 => ?_) (fun h113 => ?_)
          · refine mg_iconst K (v := 4) md_B_decides_120 (by decide) ?_
            refine mr_iast K rfl (ma_t hty 4) md_B_decides_121 Nat.zero_lt_one (mi_vn (by omega) (by omega)) ?_
            rw [mi_tn (by omega)]
            refine mr_eqr (rb_sI _ _ _ _ _ _ (by decide)) ?_
            refine mg_aload_n K md_B_decides_122 rfl ?_
            refine mr_getS (k2 := 33) (i2 := 0) K mf_B_47 md_B_decides_123 Nat.zero_lt_one rfl ?_
            refine mg_iload_n K md_B_decides_126 rfl ?_
            refine mr_zald (v := h 33 m0) K rfl (ma_t hty 2) md_B_decides_127 Nat.zero_lt_one (mi_vn (by omega) (by omega)) (by rw [mi_tn (by omega)]; rfl) ?_
            refine mg_if_eq K 151 md_B_decides_128 rfl (fun h128 => ?_) (fun h128 => ?_)
            · refine mg_aload_n K md_B_decides_151 rfl ?_
              refine mr_getS (k2 := 33) (i2 := 0) K mf_B_47 md_B_decides_152 Nat.zero_lt_one rfl ?_
              refine mg_iload_n K md_B_decides_155 rfl ?_
              refine mg_iconst K (v := 1) md_B_decides_156 (by decide) ?_
              refine mr_zast (v := 1) K rfl (ma_t hty 2) md_B_decides_157 Nat.zero_lt_one (mi_vn (by omega) (by omega)) (by decide) ?_
              rw [mi_tn (by omega)]
              refine mr_eqr (rb_sI _ _ _ _ _ _ (by decide)) ?_
              refine mg_aload_n K md_B_decides_158 rfl ?_
              refine mr_getS (k2 := 34) (i2 := 0) K mf_B_50 md_B_decides_159 Nat.zero_lt_one rfl ?_
              refine mg_iload_n K md_B_decides_162 rfl ?_
              refine mg_aload_n K md_B_decides_163 rfl ?_
              refine mr_getI (v := h 20 16) K mf_B_93 md_B_decides_164 (by decide) Nat.zero_lt_one rfl ?_
              refine mr_iast K rfl (ma_t hty 4) md_B_decides_167 Nat.zero_lt_one (mi_vn (by omega) (by omega)) ?_
              rw [mi_tn (by omega)]
              refine mr_eqr (rb_sI _ _ _ _ _ _ (by decide)) ?_
              refine mg_aload_n K md_B_decides_168 rfl ?_
              refine mg_dup K md_B_decides_169 rfl ?_
              refine mr_getI (v := h 20 16) K mf_B_93 md_B_decides_170 (by decide) Nat.zero_lt_one rfl ?_
              refine mg_iconst K (v := 1) md_B_decides_173 (by decide) ?_
              refine mg_iadd K md_B_decides_174 ?_
              refine mr_putI K mf_B_93 md_B_decides_175 Nat.zero_lt_one ?_
              refine mr_eqr (rb_sI _ _ _ _ _ _ (by decide)) ?_
              refine mg_iconst K (v := 5) md_B_decides_178 (by decide) ?_
              exact mg_iret K hret hlk md_B_decides_179 (Nat.le_refl _) (Nat.le_refl _) ⟨by rw [hD], rfl, by first | contradiction | (rw [hD]; unfold rb_fails; rw [if_pos h113])⟩
            · refine mg_aload_n K md_B_decides_131 rfl ?_
              refine mr_getS (k2 := 37) (i2 := 0) K mf_B_59 md_B_decides_132 Nat.zero_lt_one rfl ?_
              refine mg_aload_n K md_B_decides_135 rfl ?_
              refine mr_getI (v := Int32.ofNat nd) K mf_B_96 md_B_decides_136 (by decide) Nat.zero_lt_one hnd ?_
              refine mg_iload_n K md_B_decides_139 rfl ?_
              refine mr_iast K rfl (ma_t hty 4) md_B_decides_140 Nat.zero_lt_one (mi_vn (by omega) (by omega)) ?_
              rw [mi_tn (by omega)]
              refine mr_eqr (rb_sI _ _ _ _ _ _ (by decide)) ?_
              refine mg_aload_n K md_B_decides_141 rfl ?_
              refine mg_dup K md_B_decides_142 rfl ?_
              refine mr_getI (v := Int32.ofNat nd) K mf_B_96 md_B_decides_143 (by decide) Nat.zero_lt_one hnd ?_
              refine mg_iconst K (v := 1) md_B_decides_146 (by decide) ?_
              refine mg_iadd K md_B_decides_147 ?_
              refine mr_putI K mf_B_96 md_B_decides_148 Nat.zero_lt_one ?_
              refine mr_eqr (rb_sI _ _ _ _ _ _ (by decide)) ?_
              refine mg_aload_n K md_B_decides_151 rfl ?_
              refine mr_getS (k2 := 33) (i2 := 0) K mf_B_47 md_B_decides_152 Nat.zero_lt_one rfl ?_
              refine mg_iload_n K md_B_decides_155 rfl ?_
              refine mg_iconst K (v := 1) md_B_decides_156 (by decide) ?_
              refine mr_zast (v := 1) K rfl (ma_t hty 2) md_B_decides_157 Nat.zero_lt_one (mi_vn (by omega) (by omega)) (by decide) ?_
              rw [mi_tn (by omega)]
              refine mr_eqr (rb_sI _ _ _ _ _ _ (by decide)) ?_
              refine mg_aload_n K md_B_decides_158 rfl ?_
              refine mr_getS (k2 := 34) (i2 := 0) K mf_B_50 md_B_decides_159 Nat.zero_lt_one rfl ?_
              refine mg_iload_n K md_B_decides_162 rfl ?_
              refine mg_aload_n K md_B_decides_163 rfl ?_
              refine mr_getI (v := h 20 16) K mf_B_93 md_B_decides_164 (by decide) Nat.zero_lt_one rfl ?_
              refine mr_iast K rfl (ma_t hty 4) md_B_decides_167 Nat.zero_lt_one (mi_vn (by omega) (by omega)) ?_
              rw [mi_tn (by omega)]
              refine mr_eqr (rb_sI _ _ _ _ _ _ (by decide)) ?_
              refine mg_aload_n K md_B_decides_168 rfl ?_
              refine mg_dup K md_B_decides_169 rfl ?_
              refine mr_getI (v := h 20 16) K mf_B_93 md_B_decides_170 (by decide) Nat.zero_lt_one rfl ?_
              refine mg_iconst K (v := 1) md_B_decides_173 (by decide) ?_
              refine mg_iadd K md_B_decides_174 ?_
              refine mr_putI K mf_B_93 md_B_decides_175 Nat.zero_lt_one ?_
              refine mr_eqr (rb_sI _ _ _ _ _ _ (by decide)) ?_
              refine mg_iconst K (v := 5) md_B_decides_178 (by decide) ?_
              exact mg_iret K hret hlk md_B_decides_179 (Nat.le_refl _) (Nat.le_refl _) ⟨by rw [hD], rfl, by first | contradiction | (rw [hD]; unfold rb_fails; rw [if_pos h113])⟩
          · refine mg_iconst K (v := 5) md_B_decides_116 (by decide) ?_
            refine mg_goto K 121 md_B_decides_117 rfl ?_
            refine mr_iast K rfl (ma_t hty 4) md_B_decides_121 Nat.zero_lt_one (mi_vn (by omega) (by omega)) ?_
            rw [mi_tn (by omega)]
            refine mr_eqr (rb_sI _ _ _ _ _ _ (by decide)) ?_
            refine mg_aload_n K md_B_decides_122 rfl ?_
            refine mr_getS (k2 := 33) (i2 := 0) K mf_B_47 md_B_decides_123 Nat.zero_lt_one rfl ?_
            refine mg_iload_n K md_B_decides_126 rfl ?_
            refine mr_zald (v := h 33 m0) K rfl (ma_t hty 2) md_B_decides_127 Nat.zero_lt_one (mi_vn (by omega) (by omega)) (by rw [mi_tn (by omega)]; rfl) ?_
            refine mg_if_eq K 151 md_B_decides_128 rfl (fun h128 => ?_) (fun h128 => ?_)
            · refine mg_aload_n K md_B_decides_151 rfl ?_
              refine mr_getS (k2 := 33) (i2 := 0) K mf_B_47 md_B_decides_152 Nat.zero_lt_one rfl ?_
              refine mg_iload_n K md_B_decides_155 rfl ?_
              refine mg_iconst K (v := 1) md_B_decides_156 (by decide) ?_
              refine mr_zast (v := 1) K rfl (ma_t hty 2) md_B_decides_157 Nat.zero_lt_one (mi_vn (by omega) (by omega)) (by decide) ?_
              rw [mi_tn (by omega)]
              refine mr_eqr (rb_sI _ _ _ _ _ _ (by decide)) ?_
              refine mg_aload_n K md_B_decides_158 rfl ?_
              refine mr_getS (k2 := 34) (i2 := 0) K mf_B_50 md_B_decides_159 Nat.zero_lt_one rfl ?_
              refine mg_iload_n K md_B_decides_162 rfl ?_
              refine mg_aload_n K md_B_decides_163 rfl ?_
              refine mr_getI (v := h 20 16) K mf_B_93 md_B_decides_164 (by decide) Nat.zero_lt_one rfl ?_
              refine mr_iast K rfl (ma_t hty 4) md_B_decides_167 Nat.zero_lt_one (mi_vn (by omega) (by omega)) ?_
              rw [mi_tn (by omega)]
              refine mr_eqr (rb_sI _ _ _ _ _ _ (by decide)) ?_
              refine mg_aload_n K md_B_decides_168 rfl ?_
              refine mg_dup K md_B_decides_169 rfl ?_
              refine mr_getI (v := h 20 16) K mf_B_93 md_B_decides_170 (by decide) Nat.zero_lt_one rfl ?_
              refine mg_iconst K (v := 1) md_B_decides_173 (by decide) ?_
              refine mg_iadd K md_B_decides_174 ?_
              refine mr_putI K mf_B_93 md_B_decides_175 Nat.zero_lt_one ?_
              refine mr_eqr (rb_sI _ _ _ _ _ _ (by decide)) ?_
              refine mg_iconst K (v := 5) md_B_decides_178 (by decide) ?_
              exact mg_iret K hret hlk md_B_decides_179 (Nat.le_refl _) (Nat.le_refl _) ⟨by rw [hD], rfl, by first | contradiction | (rw [hD]; unfold rb_fails; rw [if_neg h113, htd, hnd])⟩
            · refine mg_aload_n K md_B_decides_131 rfl ?_
              refine mr_getS (k2 := 37) (i2 := 0) K mf_B_59 md_B_decides_132 Nat.zero_lt_one rfl ?_
              refine mg_aload_n K md_B_decides_135 rfl ?_
              refine mr_getI (v := Int32.ofNat nd) K mf_B_96 md_B_decides_136 (by decide) Nat.zero_lt_one hnd ?_
              refine mg_iload_n K md_B_decides_139 rfl ?_
              refine mr_iast K rfl (ma_t hty 4) md_B_decides_140 Nat.zero_lt_one (mi_vn (by omega) (by omega)) ?_
              rw [mi_tn (by omega)]
              refine mr_eqr (rb_sI _ _ _ _ _ _ (by decide)) ?_
              refine mg_aload_n K md_B_decides_141 rfl ?_
              refine mg_dup K md_B_decides_142 rfl ?_
              refine mr_getI (v := Int32.ofNat nd) K mf_B_96 md_B_decides_143 (by decide) Nat.zero_lt_one hnd ?_
              refine mg_iconst K (v := 1) md_B_decides_146 (by decide) ?_
              refine mg_iadd K md_B_decides_147 ?_
              refine mr_putI K mf_B_96 md_B_decides_148 Nat.zero_lt_one ?_
              refine mr_eqr (rb_sI _ _ _ _ _ _ (by decide)) ?_
              refine mg_aload_n K md_B_decides_151 rfl ?_
              refine mr_getS (k2 := 33) (i2 := 0) K mf_B_47 md_B_decides_152 Nat.zero_lt_one rfl ?_
              refine mg_iload_n K md_B_decides_155 rfl ?_
              refine mg_iconst K (v := 1) md_B_decides_156 (by decide) ?_
              refine mr_zast (v := 1) K rfl (ma_t hty 2) md_B_decides_157 Nat.zero_lt_one (mi_vn (by omega) (by omega)) (by decide) ?_
              rw [mi_tn (by omega)]
              refine mr_eqr (rb_sI _ _ _ _ _ _ (by decide)) ?_
              refine mg_aload_n K md_B_decides_158 rfl ?_
              refine mr_getS (k2 := 34) (i2 := 0) K mf_B_50 md_B_decides_159 Nat.zero_lt_one rfl ?_
              refine mg_iload_n K md_B_decides_162 rfl ?_
              refine mg_aload_n K md_B_decides_163 rfl ?_
              refine mr_getI (v := h 20 16) K mf_B_93 md_B_decides_164 (by decide) Nat.zero_lt_one rfl ?_
              refine mr_iast K rfl (ma_t hty 4) md_B_decides_167 Nat.zero_lt_one (mi_vn (by omega) (by omega)) ?_
              rw [mi_tn (by omega)]
              refine mr_eqr (rb_sI _ _ _ _ _ _ (by decide)) ?_
              refine mg_aload_n K md_B_decides_168 rfl ?_
              refine mg_dup K md_B_decides_169 rfl ?_
              refine mr_getI (v := h 20 16) K mf_B_93 md_B_decides_170 (by decide) Nat.zero_lt_one rfl ?_
              refine mg_iconst K (v := 1) md_B_decides_173 (by decide) ?_
              refine mg_iadd K md_B_decides_174 ?_
              refine mr_putI K mf_B_93 md_B_decides_175 Nat.zero_lt_one ?_
              refine mr_eqr (rb_sI _ _ _ _ _ _ (by decide)) ?_
              refine mg_iconst K (v := 5) md_B_decides_178 (by decide) ?_
              exact mg_iret K hret hlk md_B_decides_179 (Nat.le_refl _) (Nat.le_refl _) ⟨by rw [hD], rfl, by first | contradiction | (rw [hD]; unfold rb_fails; rw [if_neg h113, htd, hnd])⟩
      · refine mg_aload_n K md_B_decides_33 rfl ?_
        refine mr_getS (k2 := 21) (i2 := 0) K mf_B_7 md_B_decides_34 Nat.zero_lt_one rfl ?_
        refine mg_aload_n K md_B_decides_37 rfl ?_
        refine mr_getS (k2 := 27) (i2 := 0) K mf_B_29 md_B_decides_38 Nat.zero_lt_one rfl ?_
        refine mg_iload_n K md_B_decides_41 rfl ?_
        refine mr_iald (v := Int32.ofNat (rb_sub h m0)) K rfl (ma_t hty 4) md_B_decides_42 Nat.zero_lt_one (mi_vn (by omega) (by omega)) (by rw [mi_tn (by omega)]; exact hsu) ?_
        refine mr_iald (v := h 21 (rb_sub h m0)) K rfl (ma_t hty 4) md_B_decides_43 Nat.zero_lt_one (mi_vn (by omega) (by omega)) (by rw [mi_tn (by omega)]; rfl) ?_
        refine mg_if_ne K 86 md_B_decides_44 rfl (fun h44 => ?_) (fun h44 => ?_)
        · have hw : ¬ (¬ Int32.ofNat (rb_fn h m0) = 0 ∧ ¬ Int32.ofNat (rb_fn h m0) = 3 ∧ h 21 (rb_sub h m0) = 0) := by simp [h25, h30, h44]
          refine mg_aload_n K md_B_decides_86 rfl ?_
          refine mr_getS (k2 := 35) (i2 := 0) K mf_B_53 md_B_decides_87 Nat.zero_lt_one rfl ?_
          refine mg_iload_n K md_B_decides_90 rfl ?_
          refine mr_zald (v := h 35 (rb_fn h m0)) K rfl (ma_t hty 2) md_B_decides_91 Nat.zero_lt_one (mi_vn (by omega) (by omega)) (by rw [mi_tn (by omega)]; rfl) ?_
          refine mg_if_eq K 180 md_B_decides_92 rfl (fun h92 => ?_) (fun h92 => ?_)
          · have hD : rb_dec h m0 = (rb_acts h m0, 1) := (if_neg (fun z => z h7)).trans ((if_neg hw).trans (if_neg (fun z => z h92)))
            refine mg_aload_n K md_B_decides_180 rfl ?_
            refine mg_iload_n K md_B_decides_181 rfl ?_
            refine mr_cV K hA (ct_B_acts hty g h o hm hrg hna hn96) ms_B_99 (by decide) md_B_decides_182 rfl rfl Nat.zero_lt_one rfl (Nat.le_of_ble_eq_true rfl) ⟨Nat.zero_le _, Nat.zero_le _⟩ ?_
            refine mg_iconst K (v := 1) md_B_decides_185 (by decide) ?_
            exact mg_iret K hret hlk md_B_decides_186 (Nat.le_refl _) (Nat.le_refl _) ⟨by rw [hD], rfl, by rw [hD]⟩
          · have hD : rb_dec h m0 = (rb_fails h m0, 5) := (if_neg (fun z => z h7)).trans ((if_neg hw).trans (if_pos h92))
            refine mg_aload_n K md_B_decides_95 rfl ?_
            refine mr_getS (k2 := 35) (i2 := 0) K mf_B_53 md_B_decides_96 Nat.zero_lt_one rfl ?_
            refine mg_iload_n K md_B_decides_99 rfl ?_
            refine mg_iconst K (v := 0) md_B_decides_100 (by decide) ?_
            refine mr_zast (v := 0) K rfl (ma_t hty 2) md_B_decides_101 Nat.zero_lt_one (mi_vn (by omega) (by omega)) (by decide) ?_
            rw [mi_tn (by omega)]
            refine mr_eqr (rb_sI _ _ _ _ _ _ (by decide)) ?_
            refine mg_aload_n K md_B_decides_102 rfl ?_
            refine mr_getS (k2 := 29) (i2 := 0) K mf_B_35 md_B_decides_103 Nat.zero_lt_one rfl ?_
            refine mg_iload_n K md_B_decides_106 rfl ?_
            refine mg_aload_n K md_B_decides_107 rfl ?_
            refine mr_getS (k2 := 33) (i2 := 0) K mf_B_47 md_B_decides_108 Nat.zero_lt_one rfl ?_
            refine mg_iload_n K md_B_decides_111 rfl ?_
            refine mr_zald (v := h 33 m0) K rfl (ma_t hty 2) md_B_decides_112 Nat.zero_lt_one (mi_vn (by omega) (by omega)) (by rw [mi_tn (by omega)]; rfl) ?_
            refine mg_if_eq K 120 md_B_decides_113 rfl (fun h113 => ?_) (fun h113 => ?_)
            · refine mg_iconst K (v := 4) md_B_decides_120 (by decide) ?_
              refine mr_iast K rfl (ma_t hty 4) md_B_decides_121 Nat.zero_lt_one (mi_vn (by omega) (by omega)) ?_
              rw [mi_tn (by omega)]
              refine mr_eqr (rb_sI _ _ _ _ _ _ (by decide)) ?_
              refine mg_aload_n K md_B_decides_122 rfl ?_
              refine mr_getS (k2 := 33) (i2 := 0) K mf_B_47 md_B_decides_123 Nat.zero_lt_one rfl ?_
              refine mg_iload_n K md_B_decides_126 rfl ?_
              refine mr_zald (v := h 33 m0) K rfl (ma_t hty 2) md_B_decides_127 Nat.zero_lt_one (mi_vn (by omega) (by omega)) (by rw [mi_tn (by omega)]; rfl) ?_
              refine mg_if_eq K 151 md_B_decides_128 rfl (fun h128 => ?_) (fun h128 => ?_)
              · refine mg_aload_n K md_B_decides_151 rfl ?_
                refine mr_getS (k2 := 33) (i2 := 0) K mf_B_47 md_B_decides_152 Nat.zero_lt_one rfl ?_
                refine mg_iload_n K md_B_decides_155 rfl ?_
                refine mg_iconst K (v := 1) md_B_decides_156 (by decide) ?_
                refine mr_zast (v := 1) K rfl (ma_t hty 2) md_B_decides_157 Nat.zero_lt_one (mi_vn (by omega) (by omega)) (by decide) ?_
                rw [mi_tn (by omega)]
                refine mr_eqr (rb_sI _ _ _ _ _ _ (by decide)) ?_
                refine mg_aload_n K md_B_decides_158 rfl ?_
                refine mr_getS (k2 := 34) (i2 := 0) K mf_B_50 md_B_decides_159 Nat.zero_lt_one rfl ?_
                refine mg_iload_n K md_B_decides_162 rfl ?_
                refine mg_aload_n K md_B_decides_163 rfl ?_
                refine mr_getI (v := h 20 16) K mf_B_93 md_B_decides_164 (by decide) Nat.zero_lt_one rfl ?_
                refine mr_iast K rfl (ma_t hty 4) md_B_decides_167 Nat.zero_lt_one (mi_vn (by omega) (by omega)) ?_
                rw [mi_tn (by omega)]
                refine mr_eqr (rb_sI _ _ _ _ _ _ (by decide)) ?_
                refine mg_aload_n K md_B_decides_168 rfl ?_
                refine mg_dup K md_B_decides_169 rfl ?_
                refine mr_getI (v := h 20 16) K mf_B_93 md_B_decides_170 (by decide) Nat.zero_lt_one rfl ?_
                refine mg_iconst K (v := 1) md_B_decides_173 (by decide) ?_
                refine mg_iadd K md_B_decides_174 ?_
                refine mr_putI K mf_B_93 md_B_decides_175 Nat.zero_lt_one ?_
                refine mr_eqr (rb_sI _ _ _ _ _ _ (by decide)) ?_
                refine mg_iconst K (v := 5) md_B_decides_178 (by decide) ?_
                exact mg_iret K hret hlk md_B_decides_179 (Nat.le_refl _) (Nat.le_refl _) ⟨by rw [hD], rfl, by first | contradiction | (rw [hD]; unfold rb_fails; rw [if_pos h113])⟩
              · refine mg_aload_n K md_B_decides_131 rfl ?_
                refine mr_getS (k2 := 37) (i2 := 0) K mf_B_59 md_B_decides_132 Nat.zero_lt_one rfl ?_
                refine mg_aload_n K md_B_decides_135 rfl ?_
                refine mr_getI (v := Int32.ofNat nd) K mf_B_96 md_B_decides_136 (by decide) Nat.zero_lt_one hnd ?_
                refine mg_iload_n K md_B_decides_139 rfl ?_
                refine mr_iast K rfl (ma_t hty 4) md_B_decides_140 Nat.zero_lt_one (mi_vn (by omega) (by omega)) ?_
                rw [mi_tn (by omega)]
                refine mr_eqr (rb_sI _ _ _ _ _ _ (by decide)) ?_
                refine mg_aload_n K md_B_decides_141 rfl ?_
                refine mg_dup K md_B_decides_142 rfl ?_
                refine mr_getI (v := Int32.ofNat nd) K mf_B_96 md_B_decides_143 (by decide) Nat.zero_lt_one hnd ?_
                refine mg_iconst K (v := 1) md_B_decides_146 (by decide) ?_
                refine mg_iadd K md_B_decides_147 ?_
                refine mr_putI K mf_B_96 md_B_decides_148 Nat.zero_lt_one ?_
                refine mr_eqr (rb_sI _ _ _ _ _ _ (by decide)) ?_
                refine mg_aload_n K md_B_decides_151 rfl ?_
                refine mr_getS (k2 := 33) (i2 := 0) K mf_B_47 md_B_decides_152 Nat.zero_lt_one rfl ?_
                refine mg_iload_n K md_B_decides_155 rfl ?_
                refine mg_iconst K (v := 1) md_B_decides_156 (by decide) ?_
                refine mr_zast (v := 1) K rfl (ma_t hty 2) md_B_decides_157 Nat.zero_lt_one (mi_vn (by omega) (by omega)) (by decide) ?_
                rw [mi_tn (by omega)]
                refine mr_eqr (rb_sI _ _ _ _ _ _ (by decide)) ?_
                refine mg_aload_n K md_B_decides_158 rfl ?_
                refine mr_getS (k2 := 34) (i2 := 0) K mf_B_50 md_B_decides_159 Nat.zero_lt_one rfl ?_
                refine mg_iload_n K md_B_decides_162 rfl ?_
                refine mg_aload_n K md_B_decides_163 rfl ?_
                refine mr_getI (v := h 20 16) K mf_B_93 md_B_decides_164 (by decide) Nat.zero_lt_one rfl ?_
                refine mr_iast K rfl (ma_t hty 4) md_B_decides_167 Nat.zero_lt_one (mi_vn (by omega) (by omega)) ?_
                rw [mi_tn (by omega)]
                refine mr_eqr (rb_sI _ _ _ _ _ _ (by decide)) ?_
                refine mg_aload_n K md_B_decides_168 rfl ?_
                refine mg_dup K md_B_decides_169 rfl ?_
                refine mr_getI (v := h 20 16) K mf_B_93 md_B_decides_170 (by decide) Nat.zero_lt_one rfl ?_
                refine mg_iconst K (v := 1) md_B_decides_173 (by decide) ?_
                refine mg_iadd K md_B_decides_174 ?_
                refine mr_putI K mf_B_93 md_B_decides_175 Nat.zero_lt_one ?_
                refine mr_eqr (rb_sI _ _ _ _ _ _ (by decide)) ?_
                refine mg_iconst K (v := 5) md_B_decides_178 (by decide) ?_
                exact mg_iret K hret hlk md_B_decides_179 (Nat.le_refl _) (Nat.le_refl _) ⟨by rw [hD], rfl, by first | contradiction | (rw [hD]; unfold rb_fails; rw [if_pos h113])⟩
            · refine mg_iconst K (v := 5) md_B_decides_116 (by decide) ?_
              refine mg_goto K 121 md_B_decides_117 rfl ?_
              refine mr_iast K rfl (ma_t hty 4) md_B_decides_121 Nat.zero_lt_one (mi_vn (by omega) (by omega)) ?_
              rw [mi_tn (by omega)]
              refine mr_eqr (rb_sI _ _ _ _ _ _ (by decide)) ?_
              refine mg_aload_n K md_B_decides_122 rfl ?_
              refine mr_getS (k2 := 33) (i2 := 0) K mf_B_47 md_B_decides_123 Nat.zero_lt_one rfl ?_
              refine mg_iload_n K md_B_decides_126 rfl ?_
              refine mr_zald (v := h 33 m0) K rfl (ma_t hty 2) md_B_decides_127 Nat.zero_lt_one (mi_vn (by omega) (by omega)) (by rw [mi_tn (by omega)]; rfl) ?_
              refine mg_if_eq K 151 md_B_decides_128 rfl (fun h128 => ?_) (fun h128 => ?_)
              · refine mg_aload_n K md_B_decides_151 rfl ?_
                refine mr_getS (k2 := 33) (i2 := 0) K mf_B_47 md_B_decides_152 Nat.zero_lt_one rfl ?_
                refine mg_iload_n K md_B_decides_155 rfl ?_
                refine mg_iconst K (v := 1) md_B_decides_156 (by decide) ?_
                refine mr_zast (v := 1) K rfl (ma_t hty 2) md_B_decides_157 Nat.zero_lt_one (mi_vn (by omega) (by omega)) (by decide) ?_
                rw [mi_tn (by omega)]
                refine mr_eqr (rb_sI _ _ _ _ _ _ (by decide)) ?_
                refine mg_aload_n K md_B_decides_158 rfl ?_
                refine mr_getS (k2 := 34) (i2 := 0) K mf_B_50 md_B_decides_159 Nat.zero_lt_one rfl ?_
                refine mg_iload_n K md_B_decides_162 rfl ?_
                refine mg_aload_n K md_B_decides_163 rfl ?_
                refine mr_getI (v := h 20 16) K mf_B_93 md_B_decides_164 (by decide) Nat.zero_lt_one rfl ?_
                refine mr_iast K rfl (ma_t hty 4) md_B_decides_167 Nat.zero_lt_one (mi_vn (by omega) (by omega)) ?_
                rw [mi_tn (by omega)]
                refine mr_eqr (rb_sI _ _ _ _ _ _ (by decide)) ?_
                refine mg_aload_n K md_B_decides_168 rfl ?_
                refine mg_dup K md_B_decides_169 rfl ?_
                refine mr_getI (v := h 20 16) K mf_B_93 md_B_decides_170 (by decide) Nat.zero_lt_one rfl ?_
                refine mg_iconst K (v := 1) md_B_decides_173 (by decide) ?_
                refine mg_iadd K md_B_decides_174 ?_
                refine mr_putI K mf_B_93 md_B_decides_175 Nat.zero_lt_one ?_
                refine mr_eqr (rb_sI _ _ _ _ _ _ (by decide)) ?_
                refine mg_iconst K (v := 5) md_B_decides_178 (by decide) ?_
                exact mg_iret K hret hlk md_B_decides_179 (Nat.le_refl _) (Nat.le_refl _) ⟨by rw [hD], rfl, by first | contradiction | (rw [hD]; unfold rb_fails; rw [if_neg h113, htd, hnd])⟩
              · refine mg_aload_n K md_B_decides_131 rfl ?_
                refine mr_getS (k2 := 37) (i2 := 0) K mf_B_59 md_B_decides_132 Nat.zero_lt_one rfl ?_
                refine mg_aload_n K md_B_decides_135 rfl ?_
                refine mr_getI (v := Int32.ofNat nd) K mf_B_96 md_B_decides_136 (by decide) Nat.zero_lt_one hnd ?_
                refine mg_iload_n K md_B_decides_139 rfl ?_
                refine mr_iast K rfl (ma_t hty 4) md_B_decides_140 Nat.zero_lt_one (mi_vn (by omega) (by omega)) ?_
                rw [mi_tn (by omega)]
                refine mr_eqr (rb_sI _ _ _ _ _ _ (by decide)) ?_
                refine mg_aload_n K md_B_decides_141 rfl ?_
                refine mg_dup K md_B_decides_142 rfl ?_
                refine mr_getI (v := Int32.ofNat nd) K mf_B_96 md_B_decides_143 (by decide) Nat.zero_lt_one hnd ?_
                refine mg_iconst K (v := 1) md_B_decides_146 (by decide) ?_
                refine mg_iadd K md_B_decides_147 ?_
                refine mr_putI K mf_B_96 md_B_decides_148 Nat.zero_lt_one ?_
                refine mr_eqr (rb_sI _ _ _ _ _ _ (by decide)) ?_
                refine mg_aload_n K md_B_decides_151 rfl ?_
                refine mr_getS (k2 := 33) (i2 := 0) K mf_B_47 md_B_decides_152 Nat.zero_lt_one rfl ?_
                refine mg_iload_n K md_B_decides_155 rfl ?_
                refine mg_iconst K (v := 1) md_B_decides_156 (by decide) ?_
                refine mr_zast (v := 1) K rfl (ma_t hty 2) md_B_decides_157 Nat.zero_lt_one (mi_vn (by omega) (by omega)) (by decide) ?_
                rw [mi_tn (by omega)]
                refine mr_eqr (rb_sI _ _ _ _ _ _ (by decide)) ?_
                refine mg_aload_n K md_B_decides_158 rfl ?_
                refine mr_getS (k2 := 34) (i2 := 0) K mf_B_50 md_B_decides_159 Nat.zero_lt_one rfl ?_
                refine mg_iload_n K md_B_decides_162 rfl ?_
                refine mg_aload_n K md_B_decides_163 rfl ?_
                refine mr_getI (v := h 20 16) K mf_B_93 md_B_decides_164 (by decide) Nat.zero_lt_one rfl ?_
                refine mr_iast K rfl (ma_t hty 4) md_B_decides_167 Nat.zero_lt_one (mi_vn (by omega) (by omega)) ?_
                rw [mi_tn (by omega)]
                refine mr_eqr (rb_sI _ _ _ _ _ _ (by decide)) ?_
                refine mg_aload_n K md_B_decides_168 rfl ?_
                refine mg_dup K md_B_decides_169 rfl ?_
                refine mr_getI (v := h 20 16) K mf_B_93 md_B_decides_170 (by decide) Nat.zero_lt_one rfl ?_
                refine mg_iconst K (v := 1) md_B_decides_173 (by decide) ?_
                refine mg_iadd K md_B_decides_174 ?_
                refine mr_putI K mf_B_93 md_B_decides_175 Nat.zero_lt_one ?_
                refine mr_eqr (rb_sI _ _ _ _ _ _ (by decide)) ?_
                refine mg_iconst K (v := 5) md_B_decides_178 (by decide) ?_
                exact mg_iret K hret hlk md_B_decides_179 (Nat.le_refl _) (Nat.le_refl _) ⟨by rw [hD], rfl, by first | contradiction | (rw [hD]; unfold rb_fails; rw [if_neg h113, htd, hnd])⟩
        · refine mg_aload_n K md_B_decides_47 rfl ?_
          refine mr_getS (k2 := 29) (i2 := 0) K mf_B_35 md_B_decides_48 Nat.zero_lt_one rfl ?_
          refine mg_iload_n K md_B_decides_51 rfl ?_
          refine mg_iconst K (v := 3) md_B_decides_52 (by decide) ?_
          refine mr_iast K rfl (ma_t hty 4) md_B_decides_53 Nat.zero_lt_one (mi_vn (by omega) (by omega)) ?_
          rw [mi_tn (by omega)]
          refine mr_eqr (rb_sI _ _ _ _ _ _ (by decide)) ?_
          refine mg_aload_n K md_B_decides_54 rfl ?_
          refine mr_getS (k2 := 32) (i2 := 0) K mf_B_44 md_B_decides_55 Nat.zero_lt_one rfl ?_
          refine mg_iload_n K md_B_decides_58 rfl ?_
          refine mg_aload_n K md_B_decides_59 rfl ?_
          refine mr_getI (v := h 20 1) K mf_B_90 md_B_decides_60 (by decide) Nat.zero_lt_one rfl ?_
          refine mr_iast K rfl (ma_t hty 4) md_B_decides_63 Nat.zero_lt_one (mi_vn (by omega) (by omega)) ?_
          rw [mi_tn (by omega)]
          refine mr_eqr (rb_sI _ _ _ _ _ _ (by decide)) ?_
          refine mg_aload_n K md_B_decides_64 rfl ?_
          refine mr_getS (k2 := 34) (i2 := 0) K mf_B_50 md_B_decides_65 Nat.zero_lt_one rfl ?_
          refine mg_iload_n K md_B_decides_68 rfl ?_
          refine mg_aload_n K md_B_decides_69 rfl ?_
          refine mr_getI (v := h 20 16) K mf_B_93 md_B_decides_70 (by decide) Nat.zero_lt_one rfl ?_
          refine mr_iast K rfl (ma_t hty 4) md_B_decides_73 Nat.zero_lt_one (mi_vn (by omega) (by omega)) ?_
          rw [mi_tn (by omega)]
          refine mr_eqr (rb_sI _ _ _ _ _ _ (by decide)) ?_
          refine mg_aload_n K md_B_decides_74 rfl ?_
          refine mg_dup K md_B_decides_75 rfl ?_
          refine mr_getI (v := h 20 16) K mf_B_93 md_B_decides_76 (by decide) Nat.zero_lt_one rfl ?_
          refine mg_iconst K (v := 1) md_B_decides_79 (by decide) ?_
          refine mg_iadd K md_B_decides_80 ?_
          refine mr_putI K mf_B_93 md_B_decides_81 Nat.zero_lt_one ?_
          refine mr_eqr (rb_sI _ _ _ _ _ _ (by decide)) ?_
          refine mg_iconst K (v := 4) md_B_decides_84 (by decide) ?_
          exact mg_iret K hret hlk md_B_decides_85 (Nat.le_refl _) (Nat.le_refl _) ⟨by rw [show rb_dec h m0 = _ from (if_neg (fun z => z h7)).trans (if_pos ⟨h25, h30, h44⟩)], rfl, by rw [show rb_dec h m0 = _ from (if_neg (fun z => z h7)).trans (if_pos ⟨h25, h30, h44⟩)]⟩
  · refine mg_aload_n K md_B_decides_10 rfl ?_
    refine mg_iload_n K md_B_decides_11 rfl ?_
    refine mg_iload_n K md_B_decides_12 rfl ?_
    refine mr_cV K hA (ct_B_refused hty g h o hm (rb_rule h m0)) ms_B_86 (by decide) md_B_decides_13 rfl rfl Nat.zero_lt_one rfl (Nat.le_of_ble_eq_true rfl) ⟨Nat.zero_le _, Nat.zero_le _⟩ ?_
    exact mg_iret K hret hlk md_B_decides_16 (Nat.le_refl _) (Nat.le_refl _) ⟨by rw [show rb_dec h m0 = _ from if_pos h7], rfl, by rw [show rb_dec h m0 = _ from if_pos h7]⟩
theorem ct_B_first (hty : tys.map (·.2) = ma_ty) (g : ca_S) (h : rb_S) (o : Int64) (w s1 t1 : Int32) : mr_M l my_B_first mc_B_first 7 (some .int) 1 D mn_cl Z mb_B tys ma_sh [va_rf (some (ad 20 0)), .int w, .int s1, .int t1] ad (ma_R g (rb_R h o)) (some (.int (rb_on (rb_first h w s1 t1)))) (ma_R g (rb_R h o)) := by
  refine mg_M.of (cc := mc_B_first) (maxL := 7) (ret := (some .int)) (by decide) rfl (Nat.le_of_ble_eq_true rfl) (mg_caS rfl (mg_caS rfl (mg_caS rfl (mg_caS rfl mg_ca0)))) ?_
  intro p e s m args below meth c K hret hlk hnm hA
  have loop : ∀ (f k : Nat) (x : Option Nat), k + f = 96 → (∀ j, x = some j → j < 96) → rb_fF h w s1 t1 k f x = rb_first h w s1 t1 → mg_G p l e (mg_rm 1 0 0) s m args below meth c D mn_cl Z (mg_A ad (mr_C tys ma_sh ad (ma_R g (rb_R h o))) s.heap.size) s.heap 7 (MQ below (mg_Qc D mn_cl Z ad (mr_C tys ma_sh ad (ma_R g (rb_R h o))) s.heap.size (mg_Po tys ma_sh ad (some (.int (rb_on (rb_first h w s1 t1)))) (ma_R g (rb_R h o)))) args s 0 0 (mg_A ad (mr_C tys ma_sh ad (ma_R g (rb_R h o))) s.heap.size)) ad (mr_C tys ma_sh ad (ma_R g (rb_R h o))) [some (va_rf (some (ad 20 0))), some (.int w), some (.int s1), some (.int t1), some (.int (rb_on x)), some (.int (Int32.ofNat k))] 0 0 [] 6 := by
    intro f
    induction f with
    | zero =>
      intro k x hk hx hT
      refine mg_iload K md_B_first_6 rfl ?_
      refine mg_bipush K (v := 96) md_B_first_8 (by decide) ?_
      refine mg_icmp_ge K 120 md_B_first_10 rfl (fun h10 => ?_) (fun h10 => ?_)
      · refine mg_iload K md_B_first_120 rfl ?_
        exact mg_iret K hret hlk md_B_first_122 (Nat.le_refl _) (Nat.le_refl _) ⟨by rw [← hT]; rfl, rfl, rfl⟩
      · exact absurd ((mi_le (a := 96) (b := k) (by omega) (by omega)).mpr (by omega)) h10
    | succ f ih =>
      intro k x hk hx hT
      have hS : rb_fF h w s1 t1 (k + 1) f (rb_f1 h w s1 t1 k x) = rb_first h w s1 t1 := hT
      have nxt : ∀ (y : Option Nat), y = rb_f1 h w s1 t1 k x → (∀ j, y = some j → j < 96) → ∀ (b : Int32), mg_G p l e (mg_rm 1 0 0) s m args below meth c D mn_cl Z (mg_A ad (mr_C tys ma_sh ad (ma_R g (rb_R h o))) s.heap.size) s.heap 7 (MQ below (mg_Qc D mn_cl Z ad (mr_C tys ma_sh ad (ma_R g (rb_R h o))) s.heap.size (mg_Po tys ma_sh ad (some (.int (rb_on (rb_first h w s1 t1)))) (ma_R g (rb_R h o)))) args s 0 0 (mg_A ad (mr_C tys ma_sh ad (ma_R g (rb_R h o))) s.heap.size)) ad (mr_C tys ma_sh ad (ma_R g (rb_R h o))) [some (va_rf (some (ad 20 0))), some (.int w), some (.int s1), some (.int t1), some (.int (rb_on x)), some (.int (Int32.ofNat k)), some (.int b)] 0 0 [.int (rb_on y)] 112 := by
        rintro y rfl hy b
        refine mg_istore K md_B_first_112 (by decide) ?_
        refine mg_iinc K (v := Int32.ofNat (k + 1)) md_B_first_114 rfl (mi_a1 k) (by decide) ?_
        refine mg_goto K 6 md_B_first_117 rfl ?_
        refine mg_take 6 ?_
        exact ih (k + 1) _ (by omega) hy hS
      have mid : ∀ (b : Int32), (b = 0 ∧ ¬ rb_is h w s1 t1 k) ∨ (b = 1 ∧ rb_is h w s1 t1 k) → mg_G p l e (mg_rm 1 0 0) s m args below meth c D mn_cl Z (mg_A ad (mr_C tys ma_sh ad (ma_R g (rb_R h o))) s.heap.size) s.heap 7 (MQ below (mg_Qc D mn_cl Z ad (mr_C tys ma_sh ad (ma_R g (rb_R h o))) s.heap.size (mg_Po tys ma_sh ad (some (.int (rb_on (rb_first h w s1 t1)))) (ma_R g (rb_R h o)))) args s 0 0 (mg_A ad (mr_C tys ma_sh ad (ma_R g (rb_R h o))) s.heap.size)) ad (mr_C tys ma_sh ad (ma_R g (rb_R h o))) [some (va_rf (some (ad 20 0))), some (.int w), some (.int s1), some (.int t1), some (.int (rb_on x)), some (.int (Int32.ofNat k))] 0 0 [.int b] 66 := by
        intro b hb
        rcases hb with ⟨rfl, hb⟩ | ⟨rfl, hb⟩
        · refine mg_istore K md_B_first_66 (by decide) ?_
          refine mg_iload K md_B_first_68 rfl ?_
          refine mg_if_eq K 110 md_B_first_70 rfl (fun h70 => ?_) (fun h70 => ?_)
          · refine mg_iload K md_B_first_110 rfl ?_
            exact nxt x (by cases x with | none => exact (if_neg hb).symm | some j => exact (if_neg (fun z => hb z.1)).symm) hx 0
          · exact absurd rfl h70
        · cases x with
          | none =>
            refine mg_istore K md_B_first_66 (by decide) ?_
            refine mg_iload K md_B_first_68 rfl ?_
            refine mg_if_eq K 110 md_B_first_70 rfl (fun h70 => ?_) (fun h70 => ?_)
            · exact absurd h70 (by decide)
            · refine mg_iload K md_B_first_73 rfl ?_
              refine mg_if_lt K 105 md_B_first_75 rfl (fun h75 => ?_) (fun h75 => ?_)
              · refine mg_iload K md_B_first_105 rfl ?_
                refine mg_goto K 112 md_B_first_107 rfl ?_
                exact nxt (some k) (if_pos hb).symm (fun j h => by cases h; omega) 1
              · exact absurd (by decide) h75
          | some j =>
            have hj := hx j rfl
            rw [show rb_on (some j) = Int32.ofNat j from rfl]
            refine mg_istore K md_B_first_66 (by decide) ?_
            refine mg_iload K md_B_first_68 rfl ?_
            refine mg_if_eq K 110 md_B_first_70 rfl (fun h70 => ?_) (fun h70 => ?_)
            · exact absurd h70 (by decide)
            · refine mg_iload K md_B_first_73 rfl ?_
              refine mg_if_lt K 105 md_B_first_75 rfl (fun h75 => ?_) (fun h75 => ?_)
              · exact absurd h75 (mi_nn (by omega))
              · refine mg_aload_n K md_B_first_78 rfl ?_
                refine mr_getS (k2 := 34) (i2 := 0) K mf_B_50 md_B_first_79 Nat.zero_lt_one rfl ?_
                refine mg_iload K md_B_first_82 rfl ?_
                refine mr_iald (v := h 34 k) K rfl (ma_t hty 4) md_B_first_84 Nat.zero_lt_one (mi_vn (by omega) (by omega)) (by rw [mi_tn (by omega)]; rfl) ?_
                refine mg_aload_n K md_B_first_85 rfl ?_
                refine mr_getS (k2 := 34) (i2 := 0) K mf_B_50 md_B_first_86 Nat.zero_lt_one rfl ?_
                refine mg_iload K md_B_first_89 rfl ?_
                refine mg_if_ge K 99 md_B_first_91 rfl (fun h91 => ?_) (fun h91 => ?_)
                · refine mg_iload K md_B_first_99 rfl ?_
                  refine mr_iald (v := h 34 j) K rfl (ma_t hty 4) md_B_first_101 Nat.zero_lt_one (mi_vn (by omega) (by omega)) (by rw [mi_tn (by omega)]; rfl) ?_
                  refine mg_icmp_ge K 110 md_B_first_102 rfl (fun h102 => ?_) (fun h102 => ?_)
                  · refine mg_iload K md_B_first_110 rfl ?_
                    exact nxt (some j) (if_neg (fun z => z.2 h102)).symm hx 1
                  · refine mg_iload K md_B_first_105 rfl ?_
                    refine mg_goto K 112 md_B_first_107 rfl ?_
                    exact nxt (some k) (if_pos ⟨hb, h102⟩).symm (fun i h => by cases h; omega) 1
                · exact absurd (Int32.not_lt.mp (mi_nn (by omega))) h91
      refine mg_iload K md_B_first_6 rfl ?_
      refine mg_bipush K (v := 96) md_B_first_8 (by decide) ?_
      refine mg_icmp_ge K 120 md_B_first_10 rfl (fun h10 => ?_) (fun h10 => ?_)
      · exact absurd ((mi_le (a := 96) (b := k) (by omega) (by omega)).mp h10) (by omega)
      · refine mg_aload_n K md_B_first_13 rfl ?_
        refine mr_getS (k2 := 24) (i2 := 0) K mf_B_19 md_B_first_14 Nat.zero_lt_one rfl ?_
        refine mg_iload K md_B_first_17 rfl ?_
        refine mr_zald (v := h 24 k) K rfl (ma_t hty 2) md_B_first_19 Nat.zero_lt_one (mi_vn (by omega) (by omega)) (by rw [mi_tn (by omega)]; rfl) ?_
        refine mg_if_eq K 65 md_B_first_20 rfl (fun h20 => ?_) (fun h20 => ?_)
        · refine mg_iconst K (v := 0) md_B_first_65 (by decide) ?_
          exact mid 0 (Or.inl ⟨rfl, fun z => z.1 h20⟩)
        · refine mg_aload_n K md_B_first_23 rfl ?_
          refine mr_getS (k2 := 29) (i2 := 0) K mf_B_35 md_B_first_24 Nat.zero_lt_one rfl ?_
          refine mg_iload K md_B_first_27 rfl ?_
          refine mr_iald (v := h 29 k) K rfl (ma_t hty 4) md_B_first_29 Nat.zero_lt_one (mi_vn (by omega) (by omega)) (by rw [mi_tn (by omega)]; rfl) ?_
          refine mg_iload_n K md_B_first_30 rfl ?_
          refine mg_icmp_ne K 65 md_B_first_31 rfl (fun h31 => ?_) (fun h31 => ?_)
          · refine mg_iconst K (v := 0) md_B_first_65 (by decide) ?_
            exact mid 0 (Or.inl ⟨rfl, fun z => h31 z.2.1⟩)
          · refine mg_iload_n K md_B_first_34 rfl ?_
            refine mg_iconst K (v := -1) md_B_first_35 (by decide) ?_
            refine mg_icmp_eq K 50 md_B_first_36 rfl (fun h36 => ?_) (fun h36 => ?_)
            · refine mg_aload_n K md_B_first_50 rfl ?_
              refine mr_getS (k2 := 34) (i2 := 0) K mf_B_50 md_B_first_51 Nat.zero_lt_one rfl ?_
              refine mg_iload K md_B_first_54 rfl ?_
              refine mr_iald (v := h 34 k) K rfl (ma_t hty 4) md_B_first_56 Nat.zero_lt_one (mi_vn (by omega) (by omega)) (by rw [mi_tn (by omega)]; rfl) ?_
              refine mg_iload_n K md_B_first_57 rfl ?_
              refine mg_icmp_ge K 65 md_B_first_58 rfl (fun h58 => ?_) (fun h58 => ?_)
              · refine mg_iconst K (v := 0) md_B_first_65 (by decide) ?_
                exact mid 0 (Or.inl ⟨rfl, fun z => z.2.2.2 h58⟩)
              · refine mg_iconst K (v := 1) md_B_first_61 (by decide) ?_
                refine mg_goto K 66 md_B_first_62 rfl ?_
                exact mid 1 (Or.inr ⟨rfl, h20, h31, Or.inl h36, h58⟩)
            · refine mg_aload_n K md_B_first_39 rfl ?_
              refine mr_getS (k2 := 27) (i2 := 0) K mf_B_29 md_B_first_40 Nat.zero_lt_one rfl ?_
              refine mg_iload K md_B_first_43 rfl ?_
              refine mr_iald (v := h 27 k) K rfl (ma_t hty 4) md_B_first_45 Nat.zero_lt_one (mi_vn (by omega) (by omega)) (by rw [mi_tn (by omega)]; rfl) ?_
              refine mg_iload_n K md_B_first_46 rfl ?_
              refine mg_icmp_ne K 65 md_B_first_47 rfl (fun h47 => ?_) (fun h47 => ?_)
              · refine mg_iconst K (v := 0) md_B_first_65 (by decide) ?_
                exact mid 0 (Or.inl ⟨rfl, fun z => z.2.2.1.elim h36 h47⟩)
              · refine mg_aload_n K md_B_first_50 rfl ?_
                refine mr_getS (k2 := 34) (i2 := 0) K mf_B_50 md_B_first_51 Nat.zero_lt_one rfl ?_
                refine mg_iload K md_B_first_54 rfl ?_
                refine mr_iald (v := h 34 k) K rfl (ma_t hty 4) md_B_first_56 Nat.zero_lt_one (mi_vn (by omega) (by omega)) (by rw [mi_tn (by omega)]; rfl) ?_
                refine mg_iload_n K md_B_first_57 rfl ?_
                refine mg_icmp_ge K 65 md_B_first_58 rfl (fun h58 => ?_) (fun h58 => ?_)
                · refine mg_iconst K (v := 0) md_B_first_65 (by decide) ?_
                  exact mid 0 (Or.inl ⟨rfl, fun z => z.2.2.2 h58⟩)
                · refine mg_iconst K (v := 1) md_B_first_61 (by decide) ?_
                  refine mg_goto K 66 md_B_first_62 rfl ?_
                  exact mid 1 (Or.inr ⟨rfl, h20, h31, Or.inr h47, h58⟩)
  refine mg_iconst K (v := -1) md_B_first_0 (by decide) ?_
  refine mg_istore K md_B_first_1 (by decide) ?_
  refine mg_iconst K (v := 0) md_B_first_3 (by decide) ?_
  refine mg_istore K md_B_first_4 (by decide) ?_
  exact loop 96 0 none (by omega) (fun j h => by cases h) rfl
end RB2
end
