section
/-! A world by kinds: the cell (k, i) stands at the address ad k i and holds C k i. mg_G: the machine at a pc, over any heap that holds the world. -/
abbrev mg_Ad : Type := Nat → Nat → Nat
abbrev mg_Ct : Type := Nat → Nat → Option va_E
def mg_u {α : Type} (f : Nat → Nat → α) (k i : Nat) (v : α) : Nat → Nat → α := fun a b => if a = k ∧ b = i then v else f a b
theorem mg_u_s {α : Type} (f : Nat → Nat → α) (k i : Nat) (v : α) : mg_u f k i v k i = v := by simp [mg_u]
theorem mg_u_n {α : Type} (f : Nat → Nat → α) (k i : Nat) (v : α) {a b : Nat} (h : ¬ (a = k ∧ b = i)) : mg_u f k i v a b = f a b := if_neg h
def mg_W (D : va_G) (cl : List vw_C) (Z : Nat × Cell) (A : Nat → Prop) (ad : mg_Ad) (C : mg_Ct) (H : Heap) : Prop :=
  (∀ (k i : Nat) (e : va_E), C k i = some e → va_at D cl (ad k i, e) H) ∧
  (∀ k i k' i' : Nat, C k i ≠ none → C k' i' ≠ none → ad k i = ad k' i' → k = k' ∧ i = i') ∧ (∀ k i : Nat, C k i ≠ none → A (ad k i)) ∧
  H[Z.1]? = some Z.2 ∧ ∀ k i : Nat, C k i ≠ none → ad k i ≠ Z.1
theorem mg_W.lt {D : va_G} {cl : List vw_C} {Z : Nat × Cell} {A : Nat → Prop} {ad : mg_Ad} {C : mg_Ct} {H : Heap} (h : mg_W D cl Z A ad C H) {k i : Nat} (hc : C k i ≠ none) : ad k i < H.size := by
  cases hq : C k i with
  | none => exact absurd hq hc
  | some e => exact (h.1 k i e hq).lt
theorem mg_W.zlt {D : va_G} {cl : List vw_C} {Z : Nat × Cell} {A : Nat → Prop} {ad : mg_Ad} {C : mg_Ct} {H : Heap} (h : mg_W D cl Z A ad C H) : Z.1 < H.size := (Array.getElem?_eq_some_iff.mp h.2.2.2.1).1
theorem mg_W.mono {D : va_G} {cl : List vw_C} {Z : Nat × Cell} {A B : Nat → Prop} {ad : mg_Ad} {C : mg_Ct} {H : Heap} (h : mg_W D cl Z A ad C H) (hAB : ∀ q, A q → B q) : mg_W D cl Z B ad C H :=
  ⟨h.1, h.2.1, fun k i hc => hAB _ (h.2.2.1 k i hc), h.2.2.2⟩
theorem mg_W.put {D : va_G} {cl : List vw_C} {Z : Nat × Cell} {A : Nat → Prop} {ad : mg_Ad} {C : mg_Ct} {H H1 : Heap} {k i : Nat} {e : va_E} (h : mg_W D cl Z A ad C H) (hc : C k i ≠ none) (he : va_at D cl (ad k i, e) H1) (oq : ∀ q : Nat, q ≠ ad k i → H1[q]? = H[q]?) : mg_W D cl Z A ad (mg_u C k i (some e)) H1 := by
  have key : ∀ a b : Nat, mg_u C k i (some e) a b ≠ none → C a b ≠ none := by
    intro a b hn
    by_cases hq : a = k ∧ b = i
    · obtain ⟨rfl, rfl⟩ := hq
      exact hc
    · rwa [mg_u_n _ _ _ _ hq] at hn
  refine ⟨fun a b e' he' => ?_, fun a b a' b' h1 h2 => h.2.1 a b a' b' (key a b h1) (key a' b' h2), fun a b h1 => h.2.2.1 a b (key a b h1), ?_, fun a b h1 => h.2.2.2.2 a b (key a b h1)⟩
  · by_cases hq : a = k ∧ b = i
    · obtain ⟨rfl, rfl⟩ := hq
      rw [mg_u_s] at he'
      cases he'
      exact he
    · rw [mg_u_n _ _ _ _ hq] at he'
      exact (h.1 a b e' he').kept (oq _ (fun z => hq (h.2.1 a b k i (by rw [he']; exact fun z => by cases z) hc z)))
  · rw [oq _ (fun z => h.2.2.2.2 k i hc z.symm)]
    exact h.2.2.2.1
theorem mg_W.new {D : va_G} {cl : List vw_C} {Z : Nat × Cell} {A : Nat → Prop} {ad : mg_Ad} {C : mg_Ct} {H H1 : Heap} {k i q0 : Nat} {e : va_E} (h : mg_W D cl Z A ad C H) (hc : C k i = none) (hq0 : q0 = H.size) (hA : A q0) (he : va_at D cl (q0, e) H1) (oq : ∀ q : Nat, q < H.size → H1[q]? = H[q]?) : mg_W D cl Z A (mg_u ad k i q0) (mg_u C k i (some e)) H1 := by
  have key : ∀ a b : Nat, mg_u C k i (some e) a b ≠ none → (a = k ∧ b = i) ∨ (¬ (a = k ∧ b = i) ∧ C a b ≠ none) := by
    intro a b hn
    by_cases hq : a = k ∧ b = i
    · exact Or.inl hq
    · rw [mg_u_n _ _ _ _ hq] at hn
      exact Or.inr ⟨hq, hn⟩
  refine ⟨fun a b e' he' => ?_, fun a b a' b' h1 h2 hz => ?_, fun a b h1 => ?_, ?_, fun a b h1 => ?_⟩
  · by_cases hq : a = k ∧ b = i
    · obtain ⟨rfl, rfl⟩ := hq
      rw [mg_u_s] at he' ⊢
      cases he'
      exact he
    · rw [mg_u_n _ _ _ _ hq] at he' ⊢
      exact (h.1 a b e' he').kept (oq _ (h.1 a b e' he').lt)
  · rcases key a b h1 with g1 | ⟨g1, c1⟩ <;> rcases key a' b' h2 with g2 | ⟨g2, c2⟩
    · exact ⟨g1.1.trans g2.1.symm, g1.2.trans g2.2.symm⟩
    · obtain ⟨rfl, rfl⟩ := g1
      rw [mg_u_s, mg_u_n _ _ _ _ g2] at hz
      have := h.lt c2
      omega
    · obtain ⟨rfl, rfl⟩ := g2
      rw [mg_u_s, mg_u_n _ _ _ _ g1] at hz
      have := h.lt c1
      omega
    · rw [mg_u_n _ _ _ _ g1, mg_u_n _ _ _ _ g2] at hz
      exact h.2.1 a b a' b' c1 c2 hz
  · rcases key a b h1 with ⟨rfl, rfl⟩ | ⟨g1, c1⟩
    · rw [mg_u_s]; exact hA
    · rw [mg_u_n _ _ _ _ g1]; exact h.2.2.1 a b c1
  · rw [oq _ h.zlt]
    exact h.2.2.2.1
  · have hz := h.zlt
    rcases key a b h1 with ⟨rfl, rfl⟩ | ⟨g1, c1⟩
    · rw [mg_u_s]; omega
    · rw [mg_u_n _ _ _ _ g1]; exact h.2.2.2.2 a b c1
/-- a world that is not touched -/
theorem mg_W.kept {D : va_G} {cl : List vw_C} {Z : Nat × Cell} {A : Nat → Prop} {ad : mg_Ad} {C : mg_Ct} {H H1 : Heap} (h : mg_W D cl Z A ad C H) (oq : ∀ q : Nat, q < H.size → H1[q]? = H[q]?) : mg_W D cl Z A ad C H1 :=
  ⟨fun k i e he => (h.1 k i e he).kept (oq _ (h.1 k i e he).lt), h.2.1, h.2.2.1, by rw [oq _ h.zlt]; exact h.2.2.2.1, h.2.2.2.2⟩
/-- two worlds that say the same -/
theorem mg_W.cg {D : va_G} {cl : List vw_C} {Z : Nat × Cell} {A : Nat → Prop} {ad ad' : mg_Ad} {C C' : mg_Ct} {H : Heap} (h : mg_W D cl Z A ad C H) (hc : ∀ k i e, C' k i = some e → ad' k i = ad k i ∧ C k i = some e) : mg_W D cl Z A ad' C' H := by
  have key : ∀ k i, C' k i ≠ none → ad' k i = ad k i ∧ C k i ≠ none := by
    intro k i hn
    cases hq : C' k i with
    | none => exact absurd hq hn
    | some e =>
      obtain ⟨h1, h2⟩ := hc k i e hq
      exact ⟨h1, by rw [h2]; exact fun z => by cases z⟩
  refine ⟨fun k i e he => ?_, fun k i k' i' h1 h2 hz => ?_, fun k i h1 => ?_, h.2.2.2.1, fun k i h1 => ?_⟩
  · obtain ⟨h1, h2⟩ := hc k i e he
    rw [h1]
    exact h.1 k i e h2
  · rw [(key k i h1).1, (key k' i' h2).1] at hz
    exact h.2.1 k i k' i' (key k i h1).2 (key k' i' h2).2 hz
  · rw [(key k i h1).1]
    exact h.2.2.1 k i (key k i h1).2
  · rw [(key k i h1).1]
    exact h.2.2.2.2 k i (key k i h1).2
/-- the words B hold now, and wherever the tables are warmer and the cell Z stands as it is -/
def mg_Zk (B : List Cond) (Z : Nat × Cell) (s : State) : Prop := ∀ U : State, s.WarmedH U.vm → U.heap[Z.1]? = some Z.2 → ∀ w ∈ B, ∀ a : Array Value, w.before a U = true
theorem mg_Zk.moved {B : List Cond} {Z : Nat × Cell} {s U : State} (h : mg_Zk B Z s) (hW : s.WarmedH U.vm) : mg_Zk B Z U := fun V hV hz => h V (State.WarmedH.trans hW hV) hz
/-- locals: place i holds L i -/
def mg_L (ls : Array Slot) (nL : Nat) (L : List (Option Value)) : Prop := ls.size = nL ∧ lv_wf ls ∧ (∀ (i : Nat) (v : Value), L[i]? = some (some v) → ls[i]? = some (.val v)) ∧ ∀ (i : Nat) (v : Value), L[i]? = some (some v) → v.category = 1
def mg_st : List (Option Value) → Nat → Value → List (Option Value)
  | [], 0, v => [some v]
  | [], n + 1, v => none :: mg_st [] n v
  | _ :: L, 0, v => some v :: L
  | a :: L, n + 1, v => a :: mg_st L n v
theorem mg_st_s : ∀ (L : List (Option Value)) (i : Nat) (v : Value), (mg_st L i v)[i]? = some (some v)
  | [], 0, v => rfl
  | [], n + 1, v => by rw [mg_st, List.getElem?_cons_succ]; exact mg_st_s [] n v
  | _ :: L, 0, v => rfl
  | a :: L, n + 1, v => by rw [mg_st, List.getElem?_cons_succ]; exact mg_st_s L n v
theorem mg_st_n : ∀ (L : List (Option Value)) (i : Nat) (v : Value) (j : Nat) (w : Value), j ≠ i → (mg_st L i v)[j]? = some (some w) → L[j]? = some (some w)
  | [], 0, v, j, w, h, hw => by
    cases j with
    | zero => exact absurd rfl h
    | succ j => simp [mg_st] at hw
  | [], n + 1, v, j, w, h, hw => by
    cases j with
    | zero => simp [mg_st] at hw
    | succ j =>
      rw [mg_st, List.getElem?_cons_succ] at hw
      have := mg_st_n [] n v j w (fun z => h (by rw [z])) hw
      simp at this
  | a :: L, 0, v, j, w, h, hw => by
    cases j with
    | zero => exact absurd rfl h
    | succ j =>
      rw [mg_st, List.getElem?_cons_succ] at hw
      rw [List.getElem?_cons_succ]
      exact hw
  | a :: L, n + 1, v, j, w, h, hw => by
    cases j with
    | zero => simpa [mg_st] using hw
    | succ j =>
      rw [mg_st, List.getElem?_cons_succ] at hw
      rw [List.getElem?_cons_succ]
      exact mg_st_n L n v j w (fun z => h (by rw [z])) hw
def mg_pr (L : List (Option Value)) : List (Nat × Value) := (List.range L.length).filterMap fun j => match L[j]? with
  | some (some v) => some (j, v)
  | _ => none
theorem mg_pr_in {L : List (Option Value)} {i : Nat} {v : Value} (h : L[i]? = some (some v)) : (i, v) ∈ mg_pr L := by
  refine List.mem_filterMap.mpr ⟨i, List.mem_range.mpr (List.getElem?_eq_some_iff.mp h).1, ?_⟩
  rw [h]
theorem mg_pr_of {L : List (Option Value)} {q : Nat × Value} (h : q ∈ mg_pr L) : L[q.1]? = some (some q.2) := by
  obtain ⟨j, -, hj⟩ := List.mem_filterMap.mp h
  split at hj
  · rename_i v hv
    cases hj
    exact hv
  · cases hj
theorem mg_L.has {ls : Array Slot} {nL : Nat} {L : List (Option Value)} (h : mg_L ls nL L) : lv_has ls nL (mg_pr L) := ⟨h.1, h.2.1, fun q hq => h.2.2.1 q.1 q.2 (mg_pr_of hq)⟩
theorem mg_L.st {ls ls' : Array Slot} {nL : Nat} {L : List (Option Value)} {i : Nat} {v : Value} (h : mg_L ls nL L) (hv : v.category = 1) (h' : lv_has ls' nL ((i, v) :: (mg_pr L).filter (fun q => !(q.1 == i) && !(q.1 + 1 == i && q.2.category == 2)))) : mg_L ls' nL (mg_st L i v) := by
  refine ⟨h'.1, h'.2.1, fun j w hj => ?_, fun j w hj => ?_⟩
  · by_cases hji : j = i
    · subst hji
      rw [mg_st_s] at hj
      cases hj
      exact h'.2.2 (j, v) List.mem_cons_self
    · have h1 := mg_st_n L i v j w hji hj
      have h2 := h.2.2.2 j w h1
      exact h'.2.2 (j, w) (List.mem_cons_of_mem _ (List.mem_filter.mpr ⟨mg_pr_in h1, by simp [hji, h2]⟩))
  · by_cases hji : j = i
    · subst hji
      rw [mg_st_s] at hj
      cases hj
      exact hv
    · exact h.2.2.2 j w (mg_st_n L i v j w hji hj)
theorem mg_L.weak {ls : Array Slot} {nL : Nat} {L L' : List (Option Value)} (h : mg_L ls nL L) (hs : ∀ (i : Nat) (v : Value), L'[i]? = some (some v) → L[i]? = some (some v)) : mg_L ls nL L' := ⟨h.1, h.2.1, fun i v hv => h.2.2.1 i v (hs i v hv), fun i v hv => h.2.2.2 i v (hs i v hv)⟩
def mg_G (p : Program) (l : Launch) (e : Env) (R : Room) (s : State) (m : MethodId) (args : Array Value) (below : List Frame) (meth : Method) (c : Code) (D : va_G) (cl : List vw_C) (Z : Nat × Cell) (A : Nat → Prop) (H0 : Heap) (nL : Nat) (Q : State → Prop) (ad : mg_Ad) (C : mg_Ct) (L : List (Option Value)) (cells slots : Nat) (st : List Value) (pc : Nat) : Prop :=
  ∀ (H : Heap) (locs : List Loc) (ls : Array Slot), mg_W D cl Z A ad C H → va_S A H0 H locs → mg_L ls nL L → W p l e R s m args below meth c H locs cells slots Q (F0 m pc ls st)
def mg_K (p : Program) (m : MethodId) (c : Code) (cc : ByteArray) (nL : Nat) (s : State) (args : Array Value) (Ts : List Cond) (own : String) (D : va_G) (cl : List vw_C) (Z : Nat × Cell) (tys : List (ClassId × FieldType)) : Prop := CallFix p m c cc nL s args Ts own ∧ va_K D cl tys s ∧ mg_Zk Ts Z s
section MG1
variable {p : Program} {l : Launch} {e : Env} {R : Room} {s : State} {m : MethodId} {args : Array Value} {below : List Frame} {meth : Method} {c : Code} {Q : State → Prop}
variable {D : va_G} {cl : List vw_C} {Z : Nat × Cell} {tys : List (ClassId × FieldType)} {A : Nat → Prop} {H0 : Heap} {nL : Nat} {cc : ByteArray} {Ts : List Cond} {own : String}
variable {ad : mg_Ad} {C : mg_Ct} {L : List (Option Value)} {cells slots pc : Nat} {st : List Value}
theorem mg_iconst (K : mg_K p m c cc nL s args Ts own D cl Z tys) {n : Int} {v : Int32} (hd : decode cc pc = .ok (.iconst n, 1)) (hv : Int32.ofInt n = v) (k : mg_G p l e R s m args below meth c D cl Z A H0 nL Q ad C L cells slots (.int v :: st) (pc + 1)) : mg_G p l e R s m args below meth c D cl Z A H0 nL Q ad C L cells slots st pc :=
  fun H locs ls hW hS hL => lv_iconst K.1.1 K.1.2.1 hd hv (k H locs ls hW hS hL)
theorem mg_bipush (K : mg_K p m c cc nL s args Ts own D cl Z tys) {n : Int} {v : Int32} (hd : decode cc pc = .ok (.bipush n, 2)) (hv : (Int8.ofInt n).toInt32 = v) (k : mg_G p l e R s m args below meth c D cl Z A H0 nL Q ad C L cells slots (.int v :: st) (pc + 2)) : mg_G p l e R s m args below meth c D cl Z A H0 nL Q ad C L cells slots st pc :=
  fun H locs ls hW hS hL => lv_bipush K.1.1 K.1.2.1 hd hv (k H locs ls hW hS hL)
theorem mg_sipush (K : mg_K p m c cc nL s args Ts own D cl Z tys) {n : Int} {v : Int32} (hd : decode cc pc = .ok (.sipush n, 3)) (hv : (Int16.ofInt n).toInt32 = v) (k : mg_G p l e R s m args below meth c D cl Z A H0 nL Q ad C L cells slots (.int v :: st) (pc + 3)) : mg_G p l e R s m args below meth c D cl Z A H0 nL Q ad C L cells slots st pc :=
  fun H locs ls hW hS hL => lv_sipush K.1.1 K.1.2.1 hd hv (k H locs ls hW hS hL)
theorem mg_ldc (K : mg_K p m c cc nL s args Ts own D cl Z tys) {index : Nat} {v : Int32} (hd : decode cc pc = .ok (.ldc index, 2)) (hw : Jvm.Cond.constant own index v ∈ Ts) (k : mg_G p l e R s m args below meth c D cl Z A H0 nL Q ad C L cells slots (.int v :: st) (pc + 2)) : mg_G p l e R s m args below meth c D cl Z A H0 nL Q ad C L cells slots st pc :=
  fun H locs ls hW hS hL => lv_ldc K.1.1 K.1.2.1 K.1.2.2.2.1 (K.1.2.2.2.2 _ hw) hd (k H locs ls hW hS hL)
theorem mg_iload_n (K : mg_K p m c cc nL s args Ts own D cl Z tys) {j : Fin 4} {x : Int32} (hd : decode cc pc = .ok (.iload_n j, 1)) (hl : L[(j : Nat)]? = some (some (.int x))) (k : mg_G p l e R s m args below meth c D cl Z A H0 nL Q ad C L cells slots (.int x :: st) (pc + 1)) : mg_G p l e R s m args below meth c D cl Z A H0 nL Q ad C L cells slots st pc :=
  fun H locs ls hW hS hL => lv_iload_n K.1.1 K.1.2.1 hd rfl (hL.2.2.1 _ _ hl) (k H locs ls hW hS hL)
theorem mg_iload (K : mg_K p m c cc nL s args Ts own D cl Z tys) {j : Nat} {x : Int32} (hd : decode cc pc = .ok (.iload j, 2)) (hl : L[j]? = some (some (.int x))) (k : mg_G p l e R s m args below meth c D cl Z A H0 nL Q ad C L cells slots (.int x :: st) (pc + 2)) : mg_G p l e R s m args below meth c D cl Z A H0 nL Q ad C L cells slots st pc :=
  fun H locs ls hW hS hL => lv_iload K.1.1 K.1.2.1 hd (hL.2.2.1 _ _ hl) (k H locs ls hW hS hL)
theorem mg_aload_n (K : mg_K p m c cc nL s args Ts own D cl Z tys) {j : Fin 4} {r : Option Nat} (hd : decode cc pc = .ok (.aload_n j, 1)) (hl : L[(j : Nat)]? = some (some (va_rf r))) (k : mg_G p l e R s m args below meth c D cl Z A H0 nL Q ad C L cells slots (va_rf r :: st) (pc + 1)) : mg_G p l e R s m args below meth c D cl Z A H0 nL Q ad C L cells slots st pc := by
  intro H locs ls hW hS hL
  cases r with
  | none => exact lv_aload_nN K.1.1 K.1.2.1 hd rfl (hL.2.2.1 _ _ hl) (k H locs ls hW hS hL)
  | some x => exact lv_aload_n K.1.1 K.1.2.1 hd rfl (hL.2.2.1 _ _ hl) (k H locs ls hW hS hL)
theorem mg_aload (K : mg_K p m c cc nL s args Ts own D cl Z tys) {j : Nat} {r : Option Nat} (hd : decode cc pc = .ok (.aload j, 2)) (hl : L[j]? = some (some (va_rf r))) (k : mg_G p l e R s m args below meth c D cl Z A H0 nL Q ad C L cells slots (va_rf r :: st) (pc + 2)) : mg_G p l e R s m args below meth c D cl Z A H0 nL Q ad C L cells slots st pc := by
  intro H locs ls hW hS hL
  cases r with
  | none => exact lv_aloadN K.1.1 K.1.2.1 hd (hL.2.2.1 _ _ hl) (k H locs ls hW hS hL)
  | some x => exact lv_aload K.1.1 K.1.2.1 hd (hL.2.2.1 _ _ hl) (k H locs ls hW hS hL)
theorem mg_istore_n (K : mg_K p m c cc nL s args Ts own D cl Z tys) {j : Fin 4} {x : Int32} (hd : decode cc pc = .ok (.istore_n j, 1)) (hi : (j : Nat) < nL) (k : mg_G p l e R s m args below meth c D cl Z A H0 nL Q ad C (mg_st L (j : Nat) (.int x)) cells slots st (pc + 1)) : mg_G p l e R s m args below meth c D cl Z A H0 nL Q ad C L cells slots (.int x :: st) pc :=
  fun H locs ls hW hS hL => lv_istore_n K.1.1 K.1.2.1 hd rfl hL.has hi rfl (fun ls' h' => k H locs ls' hW hS (hL.st rfl h'))
theorem mg_istore (K : mg_K p m c cc nL s args Ts own D cl Z tys) {j : Nat} {x : Int32} (hd : decode cc pc = .ok (.istore j, 2)) (hi : j < nL) (k : mg_G p l e R s m args below meth c D cl Z A H0 nL Q ad C (mg_st L j (.int x)) cells slots st (pc + 2)) : mg_G p l e R s m args below meth c D cl Z A H0 nL Q ad C L cells slots (.int x :: st) pc :=
  fun H locs ls hW hS hL => lv_istore K.1.1 K.1.2.1 hd hL.has hi rfl (fun ls' h' => k H locs ls' hW hS (hL.st rfl h'))
theorem mg_astore_n (K : mg_K p m c cc nL s args Ts own D cl Z tys) {j : Fin 4} {r : Option Nat} (hd : decode cc pc = .ok (.astore_n j, 1)) (hi : (j : Nat) < nL) (k : mg_G p l e R s m args below meth c D cl Z A H0 nL Q ad C (mg_st L (j : Nat) (va_rf r)) cells slots st (pc + 1)) : mg_G p l e R s m args below meth c D cl Z A H0 nL Q ad C L cells slots (va_rf r :: st) pc := by
  intro H locs ls hW hS hL
  cases r with
  | none => exact lv_astore_nN K.1.1 K.1.2.1 hd rfl hL.has hi rfl (fun ls' h' => k H locs ls' hW hS (hL.st rfl h'))
  | some x => exact lv_astore_n K.1.1 K.1.2.1 hd rfl hL.has hi rfl (fun ls' h' => k H locs ls' hW hS (hL.st rfl h'))
theorem mg_astore (K : mg_K p m c cc nL s args Ts own D cl Z tys) {j : Nat} {r : Option Nat} (hd : decode cc pc = .ok (.astore j, 2)) (hi : j < nL) (k : mg_G p l e R s m args below meth c D cl Z A H0 nL Q ad C (mg_st L j (va_rf r)) cells slots st (pc + 2)) : mg_G p l e R s m args below meth c D cl Z A H0 nL Q ad C L cells slots (va_rf r :: st) pc := by
  intro H locs ls hW hS hL
  cases r with
  | none => exact lv_astoreN K.1.1 K.1.2.1 hd hL.has hi rfl (fun ls' h' => k H locs ls' hW hS (hL.st rfl h'))
  | some x => exact lv_astore K.1.1 K.1.2.1 hd hL.has hi rfl (fun ls' h' => k H locs ls' hW hS (hL.st rfl h'))
theorem mg_iinc (K : mg_K p m c cc nL s args Ts own D cl Z tys) {j : Nat} {n : Int} {x v : Int32} (hd : decode cc pc = .ok (.iinc j n, 3)) (hl : L[j]? = some (some (.int x))) (hv : x + Int32.ofInt n = v) (hi : j < nL) (k : mg_G p l e R s m args below meth c D cl Z A H0 nL Q ad C (mg_st L j (.int v)) cells slots st (pc + 3)) : mg_G p l e R s m args below meth c D cl Z A H0 nL Q ad C L cells slots st pc := by
  intro H locs ls hW hS hL
  obtain ⟨q, hq⟩ := List.getElem?_of_mem (mg_pr_in hl)
  exact lv_iinc K.1.1 K.1.2.1 hd hL.has hq hv hi rfl (fun ls' h' => k H locs ls' hW hS (hL.st rfl h'))
theorem mg_iadd (K : mg_K p m c cc nL s args Ts own D cl Z tys) {x y : Int32} (hd : decode cc pc = .ok (.iadd, 1)) (k : mg_G p l e R s m args below meth c D cl Z A H0 nL Q ad C L cells slots (.int (x + y) :: st) (pc + 1)) : mg_G p l e R s m args below meth c D cl Z A H0 nL Q ad C L cells slots (.int y :: .int x :: st) pc :=
  fun H locs ls hW hS hL => lv_iadd K.1.1 K.1.2.1 hd (k H locs ls hW hS hL)
theorem mg_isub (K : mg_K p m c cc nL s args Ts own D cl Z tys) {x y : Int32} (hd : decode cc pc = .ok (.isub, 1)) (k : mg_G p l e R s m args below meth c D cl Z A H0 nL Q ad C L cells slots (.int (x - y) :: st) (pc + 1)) : mg_G p l e R s m args below meth c D cl Z A H0 nL Q ad C L cells slots (.int y :: .int x :: st) pc :=
  fun H locs ls hW hS hL => lv_isub K.1.1 K.1.2.1 hd (k H locs ls hW hS hL)
theorem mg_imul (K : mg_K p m c cc nL s args Ts own D cl Z tys) {x y : Int32} (hd : decode cc pc = .ok (.imul, 1)) (k : mg_G p l e R s m args below meth c D cl Z A H0 nL Q ad C L cells slots (.int (x * y) :: st) (pc + 1)) : mg_G p l e R s m args below meth c D cl Z A H0 nL Q ad C L cells slots (.int y :: .int x :: st) pc :=
  fun H locs ls hW hS hL => lv_imul K.1.1 K.1.2.1 hd (k H locs ls hW hS hL)
theorem mg_iand (K : mg_K p m c cc nL s args Ts own D cl Z tys) {x y : Int32} (hd : decode cc pc = .ok (.iand, 1)) (k : mg_G p l e R s m args below meth c D cl Z A H0 nL Q ad C L cells slots (.int (x &&& y) :: st) (pc + 1)) : mg_G p l e R s m args below meth c D cl Z A H0 nL Q ad C L cells slots (.int y :: .int x :: st) pc :=
  fun H locs ls hW hS hL => lv_iand K.1.1 K.1.2.1 hd (k H locs ls hW hS hL)
theorem mg_ineg (K : mg_K p m c cc nL s args Ts own D cl Z tys) {x : Int32} (hd : decode cc pc = .ok (.ineg, 1)) (k : mg_G p l e R s m args below meth c D cl Z A H0 nL Q ad C L cells slots (.int (-x) :: st) (pc + 1)) : mg_G p l e R s m args below meth c D cl Z A H0 nL Q ad C L cells slots (.int x :: st) pc :=
  fun H locs ls hW hS hL => lv_ineg K.1.1 K.1.2.1 hd (k H locs ls hW hS hL)
theorem mg_i2l (K : mg_K p m c cc nL s args Ts own D cl Z tys) {x : Int32} (hd : decode cc pc = .ok (.i2l, 1)) (k : mg_G p l e R s m args below meth c D cl Z A H0 nL Q ad C L cells slots (.long x.toInt64 :: st) (pc + 1)) : mg_G p l e R s m args below meth c D cl Z A H0 nL Q ad C L cells slots (.int x :: st) pc :=
  fun H locs ls hW hS hL => lv_i2l K.1.1 K.1.2.1 hd rfl (k H locs ls hW hS hL)
theorem mg_dup (K : mg_K p m c cc nL s args Ts own D cl Z tys) {v : Value} (hd : decode cc pc = .ok (.dup, 1)) (hv : v.category = 1) (k : mg_G p l e R s m args below meth c D cl Z A H0 nL Q ad C L cells slots (v :: v :: st) (pc + 1)) : mg_G p l e R s m args below meth c D cl Z A H0 nL Q ad C L cells slots (v :: st) pc :=
  fun H locs ls hW hS hL => lv_dup K.1.1 K.1.2.1 hd hv (k H locs ls hW hS hL)
theorem mg_pop (K : mg_K p m c cc nL s args Ts own D cl Z tys) {v : Value} (hd : decode cc pc = .ok (.pop, 1)) (hv : v.category = 1) (k : mg_G p l e R s m args below meth c D cl Z A H0 nL Q ad C L cells slots st (pc + 1)) : mg_G p l e R s m args below meth c D cl Z A H0 nL Q ad C L cells slots (v :: st) pc :=
  fun H locs ls hW hS hL => lv_pop K.1.1 K.1.2.1 hd hv (k H locs ls hW hS hL)
theorem mg_null (K : mg_K p m c cc nL s args Ts own D cl Z tys) (hd : decode cc pc = .ok (.aconst_null, 1)) (k : mg_G p l e R s m args below meth c D cl Z A H0 nL Q ad C L cells slots (va_rf none :: st) (pc + 1)) : mg_G p l e R s m args below meth c D cl Z A H0 nL Q ad C L cells slots st pc :=
  fun H locs ls hW hS hL => lv_null K.1.1 K.1.2.1 hd (k H locs ls hW hS hL)
theorem mg_goto (K : mg_K p m c cc nL s args Ts own D cl Z tys) {off : Int} (tgt : Nat) (hd : decode cc pc = .ok (.goto off, 3)) (ht : (pc : Int) + off = (tgt : Int)) (k : mg_G p l e R s m args below meth c D cl Z A H0 nL Q ad C L cells slots st tgt) : mg_G p l e R s m args below meth c D cl Z A H0 nL Q ad C L cells slots st pc :=
  fun H locs ls hW hS hL => lv_goto K.1.1 K.1.2.1 hd ht (k H locs ls hW hS hL)
theorem mg_if_eq (K : mg_K p m c cc nL s args Ts own D cl Z tys) {x : Int32} {off : Int} (tgt : Nat) (hd : decode cc pc = .ok (.ifCond .eq off, 3)) (ht : (pc : Int) + off = (tgt : Int)) (kt : x = 0 → mg_G p l e R s m args below meth c D cl Z A H0 nL Q ad C L cells slots st tgt) (kf : ¬ x = 0 → mg_G p l e R s m args below meth c D cl Z A H0 nL Q ad C L cells slots st (pc + 3)) : mg_G p l e R s m args below meth c D cl Z A H0 nL Q ad C L cells slots (.int x :: st) pc :=
  fun H locs ls hW hS hL => lv_if_eq K.1.1 K.1.2.1 hd ht (fun h => kt h H locs ls hW hS hL) (fun h => kf h H locs ls hW hS hL)
theorem mg_if_ne (K : mg_K p m c cc nL s args Ts own D cl Z tys) {x : Int32} {off : Int} (tgt : Nat) (hd : decode cc pc = .ok (.ifCond .ne off, 3)) (ht : (pc : Int) + off = (tgt : Int)) (kt : ¬ x = 0 → mg_G p l e R s m args below meth c D cl Z A H0 nL Q ad C L cells slots st tgt) (kf : x = 0 → mg_G p l e R s m args below meth c D cl Z A H0 nL Q ad C L cells slots st (pc + 3)) : mg_G p l e R s m args below meth c D cl Z A H0 nL Q ad C L cells slots (.int x :: st) pc :=
  fun H locs ls hW hS hL => lv_if_ne K.1.1 K.1.2.1 hd ht (fun h => kt h H locs ls hW hS hL) (fun h => kf h H locs ls hW hS hL)
theorem mg_if_lt (K : mg_K p m c cc nL s args Ts own D cl Z tys) {x : Int32} {off : Int} (tgt : Nat) (hd : decode cc pc = .ok (.ifCond .lt off, 3)) (ht : (pc : Int) + off = (tgt : Int)) (kt : x < 0 → mg_G p l e R s m args below meth c D cl Z A H0 nL Q ad C L cells slots st tgt) (kf : ¬ x < 0 → mg_G p l e R s m args below meth c D cl Z A H0 nL Q ad C L cells slots st (pc + 3)) : mg_G p l e R s m args below meth c D cl Z A H0 nL Q ad C L cells slots (.int x :: st) pc :=
  fun H locs ls hW hS hL => lv_if_lt K.1.1 K.1.2.1 hd ht (fun h => kt h H locs ls hW hS hL) (fun h => kf h H locs ls hW hS hL)
theorem mg_if_ge (K : mg_K p m c cc nL s args Ts own D cl Z tys) {x : Int32} {off : Int} (tgt : Nat) (hd : decode cc pc = .ok (.ifCond .ge off, 3)) (ht : (pc : Int) + off = (tgt : Int)) (kt : 0 ≤ x → mg_G p l e R s m args below meth c D cl Z A H0 nL Q ad C L cells slots st tgt) (kf : ¬ 0 ≤ x → mg_G p l e R s m args below meth c D cl Z A H0 nL Q ad C L cells slots st (pc + 3)) : mg_G p l e R s m args below meth c D cl Z A H0 nL Q ad C L cells slots (.int x :: st) pc :=
  fun H locs ls hW hS hL => lv_if_ge K.1.1 K.1.2.1 hd ht (fun h => kt h H locs ls hW hS hL) (fun h => kf h H locs ls hW hS hL)
theorem mg_if_gt (K : mg_K p m c cc nL s args Ts own D cl Z tys) {x : Int32} {off : Int} (tgt : Nat) (hd : decode cc pc = .ok (.ifCond .gt off, 3)) (ht : (pc : Int) + off = (tgt : Int)) (kt : 0 < x → mg_G p l e R s m args below meth c D cl Z A H0 nL Q ad C L cells slots st tgt) (kf : ¬ 0 < x → mg_G p l e R s m args below meth c D cl Z A H0 nL Q ad C L cells slots st (pc + 3)) : mg_G p l e R s m args below meth c D cl Z A H0 nL Q ad C L cells slots (.int x :: st) pc :=
  fun H locs ls hW hS hL => lv_if_gt K.1.1 K.1.2.1 hd ht (fun h => kt h H locs ls hW hS hL) (fun h => kf h H locs ls hW hS hL)
theorem mg_if_le (K : mg_K p m c cc nL s args Ts own D cl Z tys) {x : Int32} {off : Int} (tgt : Nat) (hd : decode cc pc = .ok (.ifCond .le off, 3)) (ht : (pc : Int) + off = (tgt : Int)) (kt : x ≤ 0 → mg_G p l e R s m args below meth c D cl Z A H0 nL Q ad C L cells slots st tgt) (kf : ¬ x ≤ 0 → mg_G p l e R s m args below meth c D cl Z A H0 nL Q ad C L cells slots st (pc + 3)) : mg_G p l e R s m args below meth c D cl Z A H0 nL Q ad C L cells slots (.int x :: st) pc :=
  fun H locs ls hW hS hL => lv_if_le K.1.1 K.1.2.1 hd ht (fun h => kt h H locs ls hW hS hL) (fun h => kf h H locs ls hW hS hL)
theorem mg_icmp_eq (K : mg_K p m c cc nL s args Ts own D cl Z tys) {x y : Int32} {off : Int} (tgt : Nat) (hd : decode cc pc = .ok (.if_icmp .eq off, 3)) (ht : (pc : Int) + off = (tgt : Int)) (kt : x = y → mg_G p l e R s m args below meth c D cl Z A H0 nL Q ad C L cells slots st tgt) (kf : ¬ x = y → mg_G p l e R s m args below meth c D cl Z A H0 nL Q ad C L cells slots st (pc + 3)) : mg_G p l e R s m args below meth c D cl Z A H0 nL Q ad C L cells slots (.int y :: .int x :: st) pc :=
  fun H locs ls hW hS hL => lv_icmp_eq K.1.1 K.1.2.1 hd ht (fun h => kt h H locs ls hW hS hL) (fun h => kf h H locs ls hW hS hL)
theorem mg_icmp_ne (K : mg_K p m c cc nL s args Ts own D cl Z tys) {x y : Int32} {off : Int} (tgt : Nat) (hd : decode cc pc = .ok (.if_icmp .ne off, 3)) (ht : (pc : Int) + off = (tgt : Int)) (kt : ¬ x = y → mg_G p l e R s m args below meth c D cl Z A H0 nL Q ad C L cells slots st tgt) (kf : x = y → mg_G p l e R s m args below meth c D cl Z A H0 nL Q ad C L cells slots st (pc + 3)) : mg_G p l e R s m args below meth c D cl Z A H0 nL Q ad C L cells slots (.int y :: .int x :: st) pc :=
  fun H locs ls hW hS hL => lv_icmp_ne K.1.1 K.1.2.1 hd ht (fun h => kt h H locs ls hW hS hL) (fun h => kf h H locs ls hW hS hL)
theorem mg_icmp_lt (K : mg_K p m c cc nL s args Ts own D cl Z tys) {x y : Int32} {off : Int} (tgt : Nat) (hd : decode cc pc = .ok (.if_icmp .lt off, 3)) (ht : (pc : Int) + off = (tgt : Int)) (kt : x < y → mg_G p l e R s m args below meth c D cl Z A H0 nL Q ad C L cells slots st tgt) (kf : ¬ x < y → mg_G p l e R s m args below meth c D cl Z A H0 nL Q ad C L cells slots st (pc + 3)) : mg_G p l e R s m args below meth c D cl Z A H0 nL Q ad C L cells slots (.int y :: .int x :: st) pc :=
  fun H locs ls hW hS hL => lv_icmp_lt K.1.1 K.1.2.1 hd ht (fun h => kt h H locs ls hW hS hL) (fun h => kf h H locs ls hW hS hL)
theorem mg_icmp_ge (K : mg_K p m c cc nL s args Ts own D cl Z tys) {x y : Int32} {off : Int} (tgt : Nat) (hd : decode cc pc = .ok (.if_icmp .ge off, 3)) (ht : (pc : Int) + off = (tgt : Int)) (kt : y ≤ x → mg_G p l e R s m args below meth c D cl Z A H0 nL Q ad C L cells slots st tgt) (kf : ¬ y ≤ x → mg_G p l e R s m args below meth c D cl Z A H0 nL Q ad C L cells slots st (pc + 3)) : mg_G p l e R s m args below meth c D cl Z A H0 nL Q ad C L cells slots (.int y :: .int x :: st) pc :=
  fun H locs ls hW hS hL => lv_icmp_ge K.1.1 K.1.2.1 hd ht (fun h => kt h H locs ls hW hS hL) (fun h => kf h H locs ls hW hS hL)
theorem mg_icmp_gt (K : mg_K p m c cc nL s args Ts own D cl Z tys) {x y : Int32} {off : Int} (tgt : Nat) (hd : decode cc pc = .ok (.if_icmp .gt off, 3)) (ht : (pc : Int) + off = (tgt : Int)) (kt : y < x → mg_G p l e R s m args below meth c D cl Z A H0 nL Q ad C L cells slots st tgt) (kf : ¬ y < x → mg_G p l e R s m args below meth c D cl Z A H0 nL Q ad C L cells slots st (pc + 3)) : mg_G p l e R s m args below meth c D cl Z A H0 nL Q ad C L cells slots (.int y :: .int x :: st) pc :=
  fun H locs ls hW hS hL => lv_icmp_gt K.1.1 K.1.2.1 hd ht (fun h => kt h H locs ls hW hS hL) (fun h => kf h H locs ls hW hS hL)
theorem mg_icmp_le (K : mg_K p m c cc nL s args Ts own D cl Z tys) {x y : Int32} {off : Int} (tgt : Nat) (hd : decode cc pc = .ok (.if_icmp .le off, 3)) (ht : (pc : Int) + off = (tgt : Int)) (kt : x ≤ y → mg_G p l e R s m args below meth c D cl Z A H0 nL Q ad C L cells slots st tgt) (kf : ¬ x ≤ y → mg_G p l e R s m args below meth c D cl Z A H0 nL Q ad C L cells slots st (pc + 3)) : mg_G p l e R s m args below meth c D cl Z A H0 nL Q ad C L cells slots (.int y :: .int x :: st) pc :=
  fun H locs ls hW hS hL => lv_icmp_le K.1.1 K.1.2.1 hd ht (fun h => kt h H locs ls hW hS hL) (fun h => kf h H locs ls hW hS hL)
theorem mg_acmp_eq (K : mg_K p m c cc nL s args Ts own D cl Z tys) {rx ry : Option Nat} {off : Int} (tgt : Nat) (hd : decode cc pc = .ok (.if_acmp .eq off, 3)) (ht : (pc : Int) + off = (tgt : Int)) (kt : rx = ry → mg_G p l e R s m args below meth c D cl Z A H0 nL Q ad C L cells slots st tgt) (kf : ¬ rx = ry → mg_G p l e R s m args below meth c D cl Z A H0 nL Q ad C L cells slots st (pc + 3)) : mg_G p l e R s m args below meth c D cl Z A H0 nL Q ad C L cells slots (va_rf ry :: va_rf rx :: st) pc :=
  fun H locs ls hW hS hL => lv_acmp_eq K.1.1 K.1.2.1 hd ht (fun h => kt h H locs ls hW hS hL) (fun h => kf h H locs ls hW hS hL)
theorem mg_acmp_ne (K : mg_K p m c cc nL s args Ts own D cl Z tys) {rx ry : Option Nat} {off : Int} (tgt : Nat) (hd : decode cc pc = .ok (.if_acmp .ne off, 3)) (ht : (pc : Int) + off = (tgt : Int)) (kt : ¬ rx = ry → mg_G p l e R s m args below meth c D cl Z A H0 nL Q ad C L cells slots st tgt) (kf : rx = ry → mg_G p l e R s m args below meth c D cl Z A H0 nL Q ad C L cells slots st (pc + 3)) : mg_G p l e R s m args below meth c D cl Z A H0 nL Q ad C L cells slots (va_rf ry :: va_rf rx :: st) pc :=
  fun H locs ls hW hS hL => lv_acmp_ne K.1.1 K.1.2.1 hd ht (fun h => kt h H locs ls hW hS hL) (fun h => kf h H locs ls hW hS hL)
theorem mg_ifnull (K : mg_K p m c cc nL s args Ts own D cl Z tys) {r : Option Nat} {off : Int} (tgt : Nat) (hd : decode cc pc = .ok (.ifnull off, 3)) (ht : (pc : Int) + off = (tgt : Int)) (kt : r = none → mg_G p l e R s m args below meth c D cl Z A H0 nL Q ad C L cells slots st tgt) (kf : ¬ r = none → mg_G p l e R s m args below meth c D cl Z A H0 nL Q ad C L cells slots st (pc + 3)) : mg_G p l e R s m args below meth c D cl Z A H0 nL Q ad C L cells slots (va_rf r :: st) pc := by
  intro H locs ls hW hS hL
  cases r with
  | none => exact lv_ifnullN K.1.1 K.1.2.1 hd ht (kt rfl H locs ls hW hS hL)
  | some x => exact lv_ifnull K.1.1 K.1.2.1 hd (kf (fun z => by cases z) H locs ls hW hS hL)
theorem mg_ifnonnull (K : mg_K p m c cc nL s args Ts own D cl Z tys) {r : Option Nat} {off : Int} (tgt : Nat) (hd : decode cc pc = .ok (.ifnonnull off, 3)) (ht : (pc : Int) + off = (tgt : Int)) (kt : ¬ r = none → mg_G p l e R s m args below meth c D cl Z A H0 nL Q ad C L cells slots st tgt) (kf : r = none → mg_G p l e R s m args below meth c D cl Z A H0 nL Q ad C L cells slots st (pc + 3)) : mg_G p l e R s m args below meth c D cl Z A H0 nL Q ad C L cells slots (va_rf r :: st) pc := by
  intro H locs ls hW hS hL
  cases r with
  | none => exact lv_ifnonnullN K.1.1 K.1.2.1 hd (kf rfl H locs ls hW hS hL)
  | some x => exact lv_ifnonnull K.1.1 K.1.2.1 hd ht (kt (fun z => by cases z) H locs ls hW hS hL)
theorem mg_tabIn (K : mg_K p m c cc nL s args Ts own D cl Z tys) {dflt lo hi : Int} {offs : Array Int} {len : Nat} {x : Int32} {off : Int} (v : Int32) (tgt : Nat) (hd : decode cc pc = .ok (.tableswitch dflt lo hi offs, len)) (hx : x = v) (h1 : ¬ v.toInt < lo) (h2 : ¬ hi < v.toInt) (ho : offs[(v.toInt - lo).toNat]? = some off) (ht : (pc : Int) + off = (tgt : Int)) (k : mg_G p l e R s m args below meth c D cl Z A H0 nL Q ad C L cells slots st tgt) : mg_G p l e R s m args below meth c D cl Z A H0 nL Q ad C L cells slots (.int x :: st) pc := by
  subst hx
  exact fun H locs ls hW hS hL => lv_tableIn K.1.1 K.1.2.1 hd h1 h2 ho ht (k H locs ls hW hS hL)
theorem mg_tabOut (K : mg_K p m c cc nL s args Ts own D cl Z tys) {dflt lo hi : Int} {offs : Array Int} {len : Nat} {x : Int32} (tgt : Nat) (hd : decode cc pc = .ok (.tableswitch dflt lo hi offs, len)) (h : x.toInt < lo ∨ hi < x.toInt) (ht : (pc : Int) + dflt = (tgt : Int)) (k : mg_G p l e R s m args below meth c D cl Z A H0 nL Q ad C L cells slots st tgt) : mg_G p l e R s m args below meth c D cl Z A H0 nL Q ad C L cells slots (.int x :: st) pc :=
  fun H locs ls hW hS hL => lv_tableOut K.1.1 K.1.2.1 hd h ht (k H locs ls hW hS hL)
theorem mg_lookup (K : mg_K p m c cc nL s args Ts own D cl Z tys) {dflt : Int} {ps : Array (Int × Int)} {len : Nat} {x : Int32} {off : Int} (tgt : Nat) (hd : decode cc pc = .ok (.lookupswitch dflt ps, len)) (hp : (ps.toList.zip (ps.toList.drop 1)).all (fun (a, next) => a.1 < next.1) = true) (ho : Op.lookupswitch.offset ps.toList dflt x.toInt = off) (ht : (pc : Int) + off = (tgt : Int)) (k : mg_G p l e R s m args below meth c D cl Z A H0 nL Q ad C L cells slots st tgt) : mg_G p l e R s m args below meth c D cl Z A H0 nL Q ad C L cells slots (.int x :: st) pc :=
  fun H locs ls hW hS hL => lv_lookup K.1.1 K.1.2.1 hd hp ho ht (k H locs ls hW hS hL)
theorem mg_weak {L' : List (Option Value)} (hs : ∀ (i : Nat) (v : Value), L'[i]? = some (some v) → L[i]? = some (some v)) (k : mg_G p l e R s m args below meth c D cl Z A H0 nL Q ad C L' cells slots st pc) : mg_G p l e R s m args below meth c D cl Z A H0 nL Q ad C L cells slots st pc :=
  fun H locs ls hW hS hL => k H locs ls hW hS (hL.weak hs)
theorem mg_take (n : Nat) (k : mg_G p l e R s m args below meth c D cl Z A H0 nL Q ad C (L.take n) cells slots st pc) : mg_G p l e R s m args below meth c D cl Z A H0 nL Q ad C L cells slots st pc :=
  mg_weak (fun i v h => by rw [List.getElem?_take] at h; split at h <;> first | exact h | cases h) k
theorem mg_widen {ce sl : Nat} (h1 : cells ≤ ce) (h2 : slots ≤ sl) (k : mg_G p l e R s m args below meth c D cl Z A H0 nL Q ad C L ce sl st pc) : mg_G p l e R s m args below meth c D cl Z A H0 nL Q ad C L cells slots st pc :=
  fun H locs ls hW hS hL => W.widen h1 h2 (k H locs ls hW hS hL)
theorem mg_cg {ad' : mg_Ad} {C' : mg_Ct} (hc : ∀ H, mg_W D cl Z A ad C H → mg_W D cl Z A ad' C' H) (k : mg_G p l e R s m args below meth c D cl Z A H0 nL Q ad' C' L cells slots st pc) : mg_G p l e R s m args below meth c D cl Z A H0 nL Q ad C L cells slots st pc :=
  fun H locs ls hW hS hL => k H locs ls (hc H hW) hS hL
theorem mg_eqC {C' : mg_Ct} (hc : C = C') (k : mg_G p l e R s m args below meth c D cl Z A H0 nL Q ad C' L cells slots st pc) : mg_G p l e R s m args below meth c D cl Z A H0 nL Q ad C L cells slots st pc := hc ▸ k
theorem mg_eqv {st' : List Value} (hc : st = st') (k : mg_G p l e R s m args below meth c D cl Z A H0 nL Q ad C L cells slots st' pc) : mg_G p l e R s m args below meth c D cl Z A H0 nL Q ad C L cells slots st pc := hc ▸ k
/-- the objects' fields -/
theorem mg_get (K : mg_K p m c cc nL s args Ts own D cl Z tys) {k i ci index f N : Nat} {fs : List Value} {v : Value} {Cn ref : String} {T : u_T} (hd : decode cc pc = .ok (.getfield index, 3)) (he : C k i = some (.inr (ci, fs))) (hc : cl[ci]? = some (Cn, T, N)) (hin : ∀ w ∈ u_ws Cn T N, w ∈ Ts) (hf : f < N) (hlink : Cond.fieldLink own index ref (T f).2.1 (T f).2.2.1 ∈ Ts) (hr : ref = (T f).1) (hv : fs[f]? = some v) (kk : mg_G p l e R s m args below meth c D cl Z A H0 nL Q ad C L cells slots (v :: st) (pc + 3)) : mg_G p l e R s m args below meth c D cl Z A H0 nL Q ad C L cells slots (va_rf (some (ad k i)) :: st) pc := by
  intro H locs ls hW hS hL
  have hP : va_P D cl [(ad k i, .inr (ci, fs))] H := fun j q hq => by
    cases j with
    | zero => cases hq; exact hW.1 k i _ he
    | succ j => simp at hq
  subst hr
  exact va_get K.1.1 K.1.2.1 K.1.2.2.2.2 hin K.1.2.2.2.1 K.2.1 hP 0 rfl hc f hf (K.1.2.2.2.2 _ hlink) (fun _ h => h) hv hd (kk H locs ls hW hS hL)
theorem mg_getN (K : mg_K p m c cc nL s args Ts own D cl Z tys) {k i ci index f N : Nat} {fs : List Value} {v : Value} {Cn ref host : String} {T : u_T} (hd : decode cc pc = .ok (.getfield index, 3)) (he : C k i = some (.inr (ci, fs))) (hc : cl[ci]? = some (Cn, T, N)) (hin : ∀ w ∈ u_ws Cn T N, w ∈ Ts) (hf : f < N) (hlink : Cond.fieldLinkNest own index ref (T f).2.1 (T f).2.2.1 host ∈ Ts) (hr : ref = (T f).1) (hv : fs[f]? = some v) (kk : mg_G p l e R s m args below meth c D cl Z A H0 nL Q ad C L cells slots (v :: st) (pc + 3)) : mg_G p l e R s m args below meth c D cl Z A H0 nL Q ad C L cells slots (va_rf (some (ad k i)) :: st) pc := by
  intro H locs ls hW hS hL
  have hP : va_P D cl [(ad k i, .inr (ci, fs))] H := fun j q hq => by
    cases j with
    | zero => cases hq; exact hW.1 k i _ he
    | succ j => simp at hq
  subst hr
  exact va_getN K.1.1 K.1.2.1 K.1.2.2.2.2 hin K.1.2.2.2.1 K.2.1 hP 0 rfl hc f hf (K.1.2.2.2.2 _ hlink) (fun _ h => h) hv hd (kk H locs ls hW hS hL)
theorem mg_put (K : mg_K p m c cc nL s args Ts own D cl Z tys) {k i ci index f N : Nat} {fs : List Value} {v : Value} {Cn ref : String} {T : u_T} {ty0 : Nat → FieldType} {ty : FieldType} (hd : decode cc pc = .ok (.putfield index, 3)) (he : C k i = some (.inr (ci, fs))) (hc : cl[ci]? = some (Cn, T, N)) (hin : ∀ w ∈ u_ws Cn T N, w ∈ Ts) (hty : ∀ k, k < N → parseFieldDescriptor (T k).2.2.1 = some (ty0 k)) (hnm : ∀ a, a < N → ∀ b, b < N → a ≠ b → (T a).2.1 ≠ (T b).2.1) (hf : f < N) (hlink : Cond.fieldLink own index ref (T f).2.1 (T f).2.2.1 ∈ Ts) (hr : ref = (T f).1) (hfin : (T f).2.2.2 = false) (hdt : ty0 f = ty) (hn : narrow ty v = v) (hfit : fits ty v = true) (hl : f < fs.length) (kk : mg_G p l e R s m args below meth c D cl Z A H0 nL Q ad (mg_u C k i (some (.inr (ci, fs.set f v)))) L cells slots st (pc + 3)) : mg_G p l e R s m args below meth c D cl Z A H0 nL Q ad C L cells slots (v :: va_rf (some (ad k i)) :: st) pc := by
  intro H locs ls hW hS0 hL
  subst hr
  subst hdt
  have hts := K.1.2.2.2.2
  have hap := va_apart (own := own) hts hin ty0 hty hnm K.2.1 hc
  obtain ⟨r, h1, cell, q1, q2, q3, q4⟩ := hW.1 k i _ he
  have hr : r = (Cn, T, N) := Option.some.inj (h1.symm.trans hc)
  subst hr
  obtain ⟨hS, hfc, kC, hkC, hkind⟩ := K.2.1.1 ci _ hc
  obtain ⟨cf, kf, fi, fd, hi, hsl⟩ := hS f hf
  have hlay := hts _ (hin _ (u_in_lay hf))
  unfold u_lay at hlay
  rw [if_neg (by rw [hfin]; decide)] at hlay
  have hst := (u_facts hfc hkC (u_lays hts hin hf) hi).1
  have h6 := u_store hfc hkC hkind hlay hi (hty f hf) hn hfit
  refine W.putK K.1.1 K.1.2.1 (f := fd) ⟨K.1.2.2.2.1, hts _ hlink, ⟨_, _, _, hi⟩, hst⟩ (by rw [q2]; exact h6) q1 q3 (by rw [hsl]; exact k2_hasslot (q4 f hf)) rfl rfl hd fun H' e1 e2 e3 => ?_
  rw [hsl] at e1 ⊢
  have hne : C k i ≠ none := by rw [he]; exact fun z => by cases z
  exact kk H' _ ls (hW.put hne ⟨_, hc, t_OB.to (V := updV (vp_V fs) f v) ⟨_, e1, q2, q3, t_set q4 hap hf v⟩ (fun j _ => vp_updV_set hl v j)⟩ e3) (hS0.put e2 e3 (hW.2.2.1 k i hne)) hL
theorem mg_putN (K : mg_K p m c cc nL s args Ts own D cl Z tys) {k i ci index f N : Nat} {fs : List Value} {v : Value} {Cn ref host : String} {T : u_T} {ty0 : Nat → FieldType} {ty : FieldType} (hd : decode cc pc = .ok (.putfield index, 3)) (he : C k i = some (.inr (ci, fs))) (hc : cl[ci]? = some (Cn, T, N)) (hin : ∀ w ∈ u_ws Cn T N, w ∈ Ts) (hty : ∀ k, k < N → parseFieldDescriptor (T k).2.2.1 = some (ty0 k)) (hnm : ∀ a, a < N → ∀ b, b < N → a ≠ b → (T a).2.1 ≠ (T b).2.1) (hf : f < N) (hlink : Cond.fieldLinkNest own index ref (T f).2.1 (T f).2.2.1 host ∈ Ts) (hr : ref = (T f).1) (hfin : (T f).2.2.2 = false) (hdt : ty0 f = ty) (hn : narrow ty v = v) (hfit : fits ty v = true) (hl : f < fs.length) (kk : mg_G p l e R s m args below meth c D cl Z A H0 nL Q ad (mg_u C k i (some (.inr (ci, fs.set f v)))) L cells slots st (pc + 3)) : mg_G p l e R s m args below meth c D cl Z A H0 nL Q ad C L cells slots (v :: va_rf (some (ad k i)) :: st) pc := by
  intro H locs ls hW hS0 hL
  subst hr
  subst hdt
  have hts := K.1.2.2.2.2
  have hap := va_apart (own := own) hts hin ty0 hty hnm K.2.1 hc
  obtain ⟨r, h1, cell, q1, q2, q3, q4⟩ := hW.1 k i _ he
  have hr : r = (Cn, T, N) := Option.some.inj (h1.symm.trans hc)
  subst hr
  obtain ⟨hS, hfc, kC, hkC, hkind⟩ := K.2.1.1 ci _ hc
  obtain ⟨cf, kf, fi, fd, hi, hsl⟩ := hS f hf
  have hlay := hts _ (hin _ (u_in_lay hf))
  unfold u_lay at hlay
  rw [if_neg (by rw [hfin]; decide)] at hlay
  have hst := (u_facts hfc hkC (u_lays hts hin hf) hi).1
  have h6 := u_store hfc hkC hkind hlay hi (hty f hf) hn hfit
  refine va_WputK K.1.1 K.1.2.1 (f := fd) K.1.2.2.2.1 (hts _ hlink) hi hst (by rw [q2]; exact h6) q1 q3 (by rw [hsl]; exact k2_hasslot (q4 f hf)) rfl rfl hd fun H' e1 e2 e3 => ?_
  rw [hsl] at e1 ⊢
  have hne : C k i ≠ none := by rw [he]; exact fun z => by cases z
  exact kk H' _ ls (hW.put hne ⟨_, hc, t_OB.to (V := updV (vp_V fs) f v) ⟨_, e1, q2, q3, t_set q4 hap hf v⟩ (fun j _ => vp_updV_set hl v j)⟩ e3) (hS0.put e2 e3 (hW.2.2.1 k i hne)) hL
/-- a final field, in its class's constructor -/
theorem mg_putF (K : mg_K p m c cc nL s args Ts own D cl Z tys) {k i ci index f N : Nat} {fs : List Value} {v : Value} {Cn ref : String} {T : u_T} {ty0 : Nat → FieldType} {ty : FieldType} (hin2 : meth.name = "<init>") (hd : decode cc pc = .ok (.putfield index, 3)) (he : C k i = some (.inr (ci, fs))) (hc : cl[ci]? = some (Cn, T, N)) (hin : ∀ w ∈ u_ws Cn T N, w ∈ Ts) (hty : ∀ k, k < N → parseFieldDescriptor (T k).2.2.1 = some (ty0 k)) (hnm : ∀ a, a < N → ∀ b, b < N → a ≠ b → (T a).2.1 ≠ (T b).2.1) (hf : f < N) (hlink : Cond.fieldLink own index ref (T f).2.1 (T f).2.2.1 ∈ Ts) (hr : ref = (T f).1) (hfin : (T f).2.2.2 = true) (hdecl : (T f).1 = own) (hdt : ty0 f = ty) (hn : narrow ty v = v) (hfit : fits ty v = true) (hl : f < fs.length) (kk : mg_G p l e R s m args below meth c D cl Z A H0 nL Q ad (mg_u C k i (some (.inr (ci, fs.set f v)))) L cells slots st (pc + 3)) : mg_G p l e R s m args below meth c D cl Z A H0 nL Q ad C L cells slots (v :: va_rf (some (ad k i)) :: st) pc := by
  intro H locs ls hW hS0 hL
  subst hr
  subst hdt
  have hts := K.1.2.2.2.2
  have hown := K.1.2.2.2.1
  have hap := va_apart (own := own) hts hin ty0 hty hnm K.2.1 hc
  obtain ⟨r, h1, cell, q1, q2, q3, q4⟩ := hW.1 k i _ he
  have hr : r = (Cn, T, N) := Option.some.inj (h1.symm.trans hc)
  subst hr
  obtain ⟨hS, hfc, kC, hkC, hkind⟩ := K.2.1.1 ci _ hc
  obtain ⟨cf, kf, fi, fd, hi, hsl⟩ := hS f hf
  have hlay := hts _ (hin _ (u_in_lay hf))
  unfold u_lay at hlay
  rw [if_pos hfin] at hlay
  have hst := (u_facts hfc hkC (u_lays hts hin hf) hi).1
  have hcf : m.cls = cf := by
    obtain ⟨_, _, c', _, _, _, -, -, hf', -, -, -, hown2, -⟩ := Cond.laysFinal_spec hlay
    have e1 : c' = cf := by have := hi.symm.trans hf'; simp at this; exact this.1.symm
    rw [hdecl] at hown2
    rw [← e1]; exact Option.some.inj (hown.symm.trans hown2)
  have h6 := u_fits hfc hkC hkind (Or.inr hlay) hi (hty f hf) hn hfit
  refine W.putFinK K.1.1 K.1.2.1 hown (hts _ hlink) hi hst hcf hin2 (by rw [q2]; exact h6) q1 q3 (by rw [hsl]; exact k2_hasslot (q4 f hf)) rfl rfl hd fun H' e1 e2 e3 => ?_
  rw [hsl] at e1 ⊢
  have hne : C k i ≠ none := by rw [he]; exact fun z => by cases z
  exact kk H' _ ls (hW.put hne ⟨_, hc, t_OB.to (V := updV (vp_V fs) f v) ⟨_, e1, q2, q3, t_set q4 hap hf v⟩ (fun j _ => vp_updV_set hl v j)⟩ e3) (hS0.put e2 e3 (hW.2.2.1 k i hne)) hL
/-- arrays -/
theorem mg_P1 {H : Heap} {k i : Nat} {x : va_E} (hW : mg_W D cl Z A ad C H) (he : C k i = some x) : va_P D cl [(ad k i, x)] H := fun j q hq => by
  cases j with
  | zero => cases hq; exact hW.1 k i _ he
  | succ j => simp at hq
theorem mg_aald (K : mg_K p m c cc nL s args Ts own D cl Z tys) {k i n : Nat} {cA : ClassId} {Cn : String} {f : Nat → Option Nat} {x : Int32} (t0 : Nat) (hd : decode cc pc = .ok (.aaload, 1)) (he : C k i = some (.inl (cA, n, .inr (.inr (.inr (.inr f)))))) (ht : tys[t0]? = some (cA, .object Cn)) (hin : vp_in x n) (kk : mg_G p l e R s m args below meth c D cl Z A H0 nL Q ad C L cells slots (va_rf (f x.toNatClampNeg) :: st) (pc + 1)) : mg_G p l e R s m args below meth c D cl Z A H0 nL Q ad C L cells slots (.int x :: va_rf (some (ad k i)) :: st) pc :=
  fun H locs ls hW hS hL => va_aldq K.1.1 K.1.2.1 K.2.1 (mg_P1 hW he) 0 t0 rfl ht hin hd (kk H locs ls hW hS hL)
theorem mg_iald (K : mg_K p m c cc nL s args Ts own D cl Z tys) {k i n : Nat} {cA : ClassId} {f : Nat → Int32} {x : Int32} (t0 : Nat) (hd : decode cc pc = .ok (.iaload, 1)) (he : C k i = some (.inl (cA, n, .inl f))) (ht : tys[t0]? = some (cA, .int)) (hin : vp_in x n) (kk : mg_G p l e R s m args below meth c D cl Z A H0 nL Q ad C L cells slots (.int (f x.toNatClampNeg) :: st) (pc + 1)) : mg_G p l e R s m args below meth c D cl Z A H0 nL Q ad C L cells slots (.int x :: va_rf (some (ad k i)) :: st) pc :=
  fun H locs ls hW hS hL => va_iald K.1.1 K.1.2.1 K.2.1 (mg_P1 hW he) 0 t0 rfl ht hin hd (kk H locs ls hW hS hL)
theorem mg_zald (K : mg_K p m c cc nL s args Ts own D cl Z tys) {k i n : Nat} {cA : ClassId} {f : Nat → Int32} {x : Int32} (t0 : Nat) (hd : decode cc pc = .ok (.baload, 1)) (he : C k i = some (.inl (cA, n, .inl f))) (ht : tys[t0]? = some (cA, .boolean)) (hin : vp_in x n) (kk : mg_G p l e R s m args below meth c D cl Z A H0 nL Q ad C L cells slots (.int (f x.toNatClampNeg) :: st) (pc + 1)) : mg_G p l e R s m args below meth c D cl Z A H0 nL Q ad C L cells slots (.int x :: va_rf (some (ad k i)) :: st) pc :=
  fun H locs ls hW hS hL => va_zald K.1.1 K.1.2.1 K.2.1 (mg_P1 hW he) 0 t0 rfl ht hin hd (kk H locs ls hW hS hL)
theorem mg_lald (K : mg_K p m c cc nL s args Ts own D cl Z tys) {k i n : Nat} {cA : ClassId} {f : Nat → Int64} {x : Int32} (t0 : Nat) (hd : decode cc pc = .ok (.laload, 1)) (he : C k i = some (.inl (cA, n, .inr (.inl f)))) (ht : tys[t0]? = some (cA, .long)) (hin : vp_in x n) (kk : mg_G p l e R s m args below meth c D cl Z A H0 nL Q ad C L cells slots (.long (f x.toNatClampNeg) :: st) (pc + 1)) : mg_G p l e R s m args below meth c D cl Z A H0 nL Q ad C L cells slots (.int x :: va_rf (some (ad k i)) :: st) pc :=
  fun H locs ls hW hS hL => va_lald K.1.1 K.1.2.1 K.2.1 (mg_P1 hW he) 0 t0 rfl ht hin hd (kk H locs ls hW hS hL)
theorem mg_alen (K : mg_K p m c cc nL s args Ts own D cl Z tys) {k i n : Nat} {cA : ClassId} {g : (Nat → Int32) ⊕ (Nat → Int64) ⊕ (Nat → UInt32) ⊕ (Nat → UInt64) ⊕ (Nat → Option Nat)} {ty : FieldType} {v : Int32} (t0 : Nat) (hd : decode cc pc = .ok (.arraylength, 1)) (he : C k i = some (.inl (cA, n, g))) (ht : tys[t0]? = some (cA, ty)) (hv : Int32.ofNat n = v) (kk : mg_G p l e R s m args below meth c D cl Z A H0 nL Q ad C L cells slots (.int v :: st) (pc + 1)) : mg_G p l e R s m args below meth c D cl Z A H0 nL Q ad C L cells slots (va_rf (some (ad k i)) :: st) pc := by
  intro H locs ls hW hS hL
  exact va_alen K.1.1 K.1.2.1 K.2.1 (mg_P1 hW he) 0 t0 rfl ht hv hd (kk H locs ls hW hS hL)

theorem mg_iast (K : mg_K p m c cc nL s args Ts own D cl Z tys) {k i n : Nat} {cA : ClassId} {f : Nat → Int32} {x y : Int32} (t0 : Nat) (hd : decode cc pc = .ok (.iastore, 1)) (he : C k i = some (.inl (cA, n, .inl f))) (ht : tys[t0]? = some (cA, .int)) (hin : vp_in x n) (kk : mg_G p l e R s m args below meth c D cl Z A H0 nL Q ad (mg_u C k i (some (.inl (cA, n, .inl (upd f x.toNatClampNeg y))))) L cells slots st (pc + 1)) : mg_G p l e R s m args below meth c D cl Z A H0 nL Q ad C L cells slots (.int y :: .int x :: va_rf (some (ad k i)) :: st) pc := by
  intro H locs ls hW hS hL
  have hne : C k i ≠ none := by rw [he]; exact fun z => by cases z
  refine W.iast K.1.1 K.1.2.1 (hW.1 k i _ he) ((K.2.1.2 t0 _ ht).1 n (fun j => .int (f j))) (fun q => by cases q) (by show ¬ (x < 0 ∨ (arrV _ _ _).slots.size ≤ _); rw [arrV_size]; exact hin) rfl rfl hd fun H1 e1 z oq => ?_
  refine kk H1 _ ls (hW.put hne ?_ oq) (hS.put z oq (hW.2.2.1 k i hne)) hL
  show H1[ad k i]? = some (vp_cell _ _)
  rw [e1]
  rw [vp_cell_i, vp_cell_i, arrV_store]
  congr 2
  funext q
  by_cases hq : q = x.toNatClampNeg
  · subst hq
    simp [updV, upd]
  · simp [updV, upd, hq]
theorem mg_zast (K : mg_K p m c cc nL s args Ts own D cl Z tys) {k i n : Nat} {cA : ClassId} {f : Nat → Int32} {x y : Int32} (t0 : Nat) (hd : decode cc pc = .ok (.bastore, 1)) (he : C k i = some (.inl (cA, n, .inl f))) (ht : tys[t0]? = some (cA, .boolean)) (hin : vp_in x n) (kk : mg_G p l e R s m args below meth c D cl Z A H0 nL Q ad (mg_u C k i (some (.inl (cA, n, .inl (upd f x.toNatClampNeg (vp_nar .boolean y)))))) L cells slots st (pc + 1)) : mg_G p l e R s m args below meth c D cl Z A H0 nL Q ad C L cells slots (.int y :: .int x :: va_rf (some (ad k i)) :: st) pc := by
  intro H locs ls hW hS hL
  have hne : C k i ≠ none := by rw [he]; exact fun z => by cases z
  refine W.zast K.1.1 K.1.2.1 (hW.1 k i _ he) ((K.2.1.2 t0 _ ht).1 n (fun j => .int (f j))) (fun q => by cases q) (by show ¬ (x < 0 ∨ (arrV _ _ _).slots.size ≤ _); rw [arrV_size]; exact hin) rfl rfl hd fun H1 e1 z oq => ?_
  refine kk H1 _ ls (hW.put hne ?_ oq) (hS.put z oq (hW.2.2.1 k i hne)) hL
  show H1[ad k i]? = some (vp_cell _ _)
  rw [e1]
  rw [vp_cell_i, vp_cell_i, arrV_store]
  congr 2
  funext q
  by_cases hq : q = x.toNatClampNeg
  · subst hq
    simp [updV, upd, vp_nar]
    try rfl
  · simp [updV, upd, hq]
theorem mg_last (K : mg_K p m c cc nL s args Ts own D cl Z tys) {k i n : Nat} {cA : ClassId} {f : Nat → Int64} {x : Int32} {y : Int64} (t0 : Nat) (hd : decode cc pc = .ok (.lastore, 1)) (he : C k i = some (.inl (cA, n, .inr (.inl f)))) (ht : tys[t0]? = some (cA, .long)) (hin : vp_in x n) (kk : mg_G p l e R s m args below meth c D cl Z A H0 nL Q ad (mg_u C k i (some (.inl (cA, n, .inr (.inl (vp_updL f x.toNatClampNeg y)))))) L cells slots st (pc + 1)) : mg_G p l e R s m args below meth c D cl Z A H0 nL Q ad C L cells slots (.long y :: .int x :: va_rf (some (ad k i)) :: st) pc := by
  intro H locs ls hW hS hL
  have hne : C k i ≠ none := by rw [he]; exact fun z => by cases z
  refine W.last K.1.1 K.1.2.1 (hW.1 k i _ he) ((K.2.1.2 t0 _ ht).1 n (fun j => .long (f j))) (fun q => by cases q) (by show ¬ (x < 0 ∨ (arrV _ _ _).slots.size ≤ _); rw [arrV_size]; exact hin) rfl rfl hd fun H1 e1 z oq => ?_
  refine kk H1 _ ls (hW.put hne ?_ oq) (hS.put z oq (hW.2.2.1 k i hne)) hL
  show H1[ad k i]? = some (vp_cell _ _)
  rw [e1]
  rw [vp_cell_l, vp_cell_l, arrV_store]
  congr 2
  funext q
  by_cases hq : q = x.toNatClampNeg
  · subst hq
    simp [updV, vp_updL]
  · simp [updV, vp_updL, hq]
theorem mg_aast (K : mg_K p m c cc nL s args Ts own D cl Z tys) {k i n k2 i2 ci : Nat} {cA : ClassId} {r : vw_C} {vs : List Value} {f : Nat → Option Nat} {x : Int32} (t0 : Nat) (hd : decode cc pc = .ok (.aastore, 1)) (he : C k i = some (.inl (cA, n, .inr (.inr (.inr (.inr f)))))) (ht : tys[t0]? = some (cA, .object r.1)) (hv : C k2 i2 = some (.inr (ci, vs))) (hc : cl[ci]? = some r) (hin : vp_in x n) (kk : mg_G p l e R s m args below meth c D cl Z A H0 nL Q ad (mg_u C k i (some (.inl (cA, n, .inr (.inr (.inr (.inr (va_up f x.toNatClampNeg (some (ad k2 i2)))))))))) L cells slots st (pc + 1)) : mg_G p l e R s m args below meth c D cl Z A H0 nL Q ad C L cells slots (va_rf (some (ad k2 i2)) :: .int x :: va_rf (some (ad k i)) :: st) pc := by
  intro H locs ls hW hS hL
  have hne : C k i ≠ none := by rw [he]; exact fun z => by cases z
  have hlt : x.toNatClampNeg < n := Nat.not_le.mp fun q => hin (Or.inr q)
  have h0 : ¬ x < 0 := fun q => hin (Or.inl q)
  obtain ⟨r', hr', cellV, g1, g2, g3, -⟩ := hW.1 k2 i2 _ hv
  have hcls := (K.2.1.1 ci r hc).2
  obtain ⟨kA, comp, k1, kk2, k3, -⟩ := (K.2.1.2 t0 _ ht).2
  have hcomp : comp = D.1 ci := Option.some.inj (k3.symm.trans hcls.1)
  subst hcomp
  obtain ⟨kC, hkC, -⟩ := hcls.2
  refine W.aast K.1.1 K.1.2.1 (hW.1 k i _ he) (fun q h => by cases h) (fun h => by cases h) k1 kk2 rfl hkC ⟨h0, by show _ < (arrV _ _ _).slots.size; rw [arrV_size]; exact hlt⟩ g1 (fun q h => by rw [g3] at h; cases h) (by rw [g2]; exact hkC) (by rw [g2]; exact va_assign hcls) rfl rfl hd fun H1 e1 z oq => ?_
  refine kk H1 _ ls (hW.put hne ?_ oq) (hS.put z oq (hW.2.2.1 k i hne)) hL
  show H1[ad k i]? = some (vp_cell _ _)
  rw [e1]
  rw [vp_cell_q, vp_cell_q, arrV_store]
  congr 2
  funext q
  by_cases hq : q = x.toNatClampNeg
  · subst hq
    simp [updV, va_up, va_rf]
  · simp [updV, va_up, hq]
theorem mg_aastN (K : mg_K p m c cc nL s args Ts own D cl Z tys) {k i n : Nat} {cA : ClassId} {Cn : String} {f : Nat → Option Nat} {x : Int32} (t0 : Nat) (hd : decode cc pc = .ok (.aastore, 1)) (he : C k i = some (.inl (cA, n, .inr (.inr (.inr (.inr f)))))) (ht : tys[t0]? = some (cA, .object Cn)) (hin : vp_in x n) (kk : mg_G p l e R s m args below meth c D cl Z A H0 nL Q ad (mg_u C k i (some (.inl (cA, n, .inr (.inr (.inr (.inr (va_up f x.toNatClampNeg none)))))))) L cells slots st (pc + 1)) : mg_G p l e R s m args below meth c D cl Z A H0 nL Q ad C L cells slots (va_rf none :: .int x :: va_rf (some (ad k i)) :: st) pc := by
  intro H locs ls hW hS hL
  have hne : C k i ≠ none := by rw [he]; exact fun z => by cases z
  refine va_WaastN (C := Cn) K.1.1 K.1.2.1 (hW.1 k i _ he) ((K.2.1.2 t0 _ ht).1 n (fun j => va_rf (f j))) (fun h => by cases h) (by show ¬ (x < 0 ∨ (arrV _ _ _).slots.size ≤ _); rw [arrV_size]; exact hin) rfl rfl hd fun H1 e1 z oq => ?_
  refine kk H1 _ ls (hW.put hne ?_ oq) (hS.put z oq (hW.2.2.1 k i hne)) hL
  show H1[ad k i]? = some (vp_cell _ _)
  rw [e1]
  rw [vp_cell_q, vp_cell_q, arrV_store]
  congr 2
  funext q
  by_cases hq : q = x.toNatClampNeg
  · subst hq
    simp [updV, va_up, va_rf]
  · simp [updV, va_up, hq]
/-- new cells -/
theorem mg_new (K : mg_K p m c cc nL s args Ts own D cl Z tys) {index N ci : Nat} {Cn : String} {T : u_T} {ty : Nat → FieldType} {fs : List Value} (k i : Nat) (hA : ∀ q, H0.size ≤ q → A q) (hd : decode cc pc = .ok (.new index, 3)) (hk : C k i = none) (hc : cl[ci]? = some (Cn, T, N)) (hin : ∀ w ∈ u_ws Cn T N, w ∈ Ts) (hty : ∀ k, k < N → parseFieldDescriptor (T k).2.2.1 = some (ty k)) (hcl : Cond.classLink own index Cn ∈ Ts) (hinst : Cond.instantiable Cn N ∈ Ts) (hini : Cond.initialized Cn ∈ Ts) (hfs : ∀ j, j < N → defaultValue (ty j) = vp_V fs j) (hcells : cells + 1 ≤ R.cells) (hslots : slots + N ≤ R.slots) (kk : ∀ q : Nat, mg_G p l e R s m args below meth c D cl Z A H0 nL Q (mg_u ad k i q) (mg_u C k i (some (.inr (ci, fs)))) L (cells + 1) (slots + N) (va_rf (some q) :: st) (pc + 3)) : mg_G p l e R s m args below meth c D cl Z A H0 nL Q ad C L cells slots st pc := by
  intro H locs ls hW hS hL
  have hts := K.1.2.2.2.2
  have hKn := K.2.1.1 ci _ hc
  refine W.newcK K.1.1 K.1.2.1 K.1.2.2.2.1 (hts _ hcl) (hts _ hinst) (hts _ hini) rfl hd hcells hslots hKn.2.1 rfl fun H1 kC hkC e1 z1 o1 => ?_
  exact kk H.size H1 locs ls (hW.new hk rfl (hA _ hS.1) ⟨_, hc, (u_born ty hts hin hKn hkC e1 hty).to hfs⟩ o1) ⟨Nat.le_trans hS.1 (by omega), fun x h1 h2 => (o1 x (Nat.lt_of_lt_of_le h1 hS.1)).trans (hS.2.1 x h1 h2), hS.2.2⟩ hL
theorem mg_newa (K : mg_K p m c cc nL s args Ts own D cl Z tys) {atype : ArrayType} {ty : FieldType} {cA : ClassId} {n : Int32} {N' : Nat} {a0 : vp_A} (k i t0 : Nat) (hA : ∀ q, H0.size ≤ q → A q) (hd : decode cc pc = .ok (.newarray atype, 2)) (hk : C k i = none) (harr : Cond.arrayClass (newarray.typeOf atype) ∈ Ts) (hty : newarray.typeOf atype = ty) (ht : tys[t0]? = some (cA, ty)) (ha : vp_cell cA a0 = arrV cA N' (fun _ => defaultValue ty)) (hn : ¬ n < 0) (hN : n.toNatClampNeg = N') (hbytes : N' * componentBytes ty ≤ 536870912) (hcells : cells + 1 ≤ R.cells) (hslots : slots + N' ≤ R.slots) (kk : ∀ q : Nat, mg_G p l e R s m args below meth c D cl Z A H0 nL Q (mg_u ad k i q) (mg_u C k i (some (.inl (cA, a0)))) L (cells + 1) (slots + N') (va_rf (some q) :: st) (pc + 2)) : mg_G p l e R s m args below meth c D cl Z A H0 nL Q ad C L cells slots (.int n :: st) pc := by
  intro H locs ls hW hS hL
  subst hty
  refine va_newaK K.1.1 K.1.2.1 (K.1.2.2.2.2 _ harr) rfl hd rfl hn hN hbytes hcells hslots rfl fun H1 cA' e1 z1 o1 hAr hNm => ?_
  have hcA : cA' = cA := by
    have h2 := (K.2.1.2 t0 _ ht).2
    cases atype <;> exact Option.some.inj (hNm.symm.trans h2)
  subst hcA
  refine kk H.size H1 locs ls (hW.new hk rfl (hA _ hS.1) ?_ o1) ⟨Nat.le_trans hS.1 (by omega), fun x h1 h2 => (o1 x (Nat.lt_of_lt_of_le h1 hS.1)).trans (hS.2.1 x h1 h2), hS.2.2⟩ hL
  show H1[H.size]? = some (vp_cell _ _)
  rw [ha]
  exact e1
theorem mg_newq (K : mg_K p m c cc nL s args Ts own D cl Z tys) {index : Nat} {Cn : String} {cA : ClassId} {n : Int32} {N' : Nat} (k i t0 : Nat) (hA : ∀ q, H0.size ≤ q → A q) (hd : decode cc pc = .ok (.anewarray index, 3)) (hk : C k i = none) (hcl : Cond.classLink own index Cn ∈ Ts) (hov : Cond.arrayOver (.object Cn) ∈ Ts) (ht : tys[t0]? = some (cA, .object Cn)) (hn : ¬ n < 0) (hN : n.toNatClampNeg = N') (hbytes : N' * 4 ≤ 536870912) (hcells : cells + 1 ≤ R.cells) (hslots : slots + N' ≤ R.slots) (kk : ∀ q : Nat, mg_G p l e R s m args below meth c D cl Z A H0 nL Q (mg_u ad k i q) (mg_u C k i (some (.inl (cA, N', .inr (.inr (.inr (.inr (fun _ => none)))))))) L (cells + 1) (slots + N') (va_rf (some q) :: st) (pc + 3)) : mg_G p l e R s m args below meth c D cl Z A H0 nL Q ad C L cells slots (.int n :: st) pc := by
  intro H locs ls hW hS hL
  subst hN
  have hts := K.1.2.2.2.2
  refine W.anew K.1.1 K.1.2.1 K.1.2.2.2.1 (hts _ hcl) (hts _ hov) rfl hd rfl hn hbytes hcells hslots fun cA' kA comp f1 f2 f3 f4 => ?_
  obtain ⟨kA0, comp0, k1, k2, k3, k4⟩ := (K.2.1.2 t0 _ ht).2
  have hcA : cA' = cA := Option.some.inj (f1.symm.trans k4)
  subst hcA
  generalize hH1 : H.push ({ cls := cA', slots := Array.replicate n.toNatClampNeg .null, vm := .none } : Cell) = H1
  have z1 : H1.size = H.size + 1 := by rw [← hH1, Array.size_push]
  have e1 : H1[H.size]? = some (arrV cA' n.toNatClampNeg (fun _ => .null)) := by rw [← hH1, Array.getElem?_push_size, ← arrV_new]
  have o1 : ∀ q : Nat, q < H.size → H1[q]? = H[q]? := fun q hq => by rw [← hH1, Array.getElem?_push, if_neg (Nat.ne_of_lt hq)]
  refine kk H.size H1 locs ls (hW.new hk rfl (hA _ hS.1) ?_ o1) ⟨Nat.le_trans hS.1 (by omega), fun x h1 h2 => (o1 x (Nat.lt_of_lt_of_le h1 hS.1)).trans (hS.2.1 x h1 h2), hS.2.2⟩ hL
  exact e1
theorem mg_objInit (K : mg_K p m c cc nL s args Ts own D cl Z tys) {idx : Nat} {a : Nat} (hd : decode cc pc = .ok (.invokespecial idx, 3)) (hlink : Cond.methodLink own idx Lib.objectInit ∈ Ts) (hinst : Cond.instanceMethod Lib.objectInit ∈ Ts) (hcode : Cond.code Lib.objectInit ⟨#[0xb1]⟩ 1 none ∈ Ts) (hfr : 1 ≤ R.frames) (hlo : (st.map fun v => v.category).sum + 12 ≤ R.locals) (kk : mg_G p l e R s m args below meth c D cl Z A H0 nL Q ad C L cells slots st (pc + 3)) : mg_G p l e R s m args below meth c D cl Z A H0 nL Q ad C L cells slots (va_rf (some a) :: st) pc := by
  intro H locs ls hW hS hL
  have hts := K.1.2.2.2.2
  refine W.objInit (g := F0 m pc ls (va_rf (some a) :: st)) K.1.1 K.1.2.1 K.1.2.2.2.1 (hts _ hlink) (hts _ hinst) (hts _ hcode) rfl (by rw [K.1.2.2.1]; exact hL.1) rfl hd hfr (by simpa [JFrame.monitorRoom] using hlo) ?_
  exact kk H locs ls hW hS hL
end MG1
/-- what a method may change: its world's cells, and those that it makes -/
def mg_A (ad : mg_Ad) (C : mg_Ct) (sz : Nat) : Nat → Prop := fun q => (∃ k i : Nat, C k i ≠ none ∧ q = ad k i) ∨ sz ≤ q
def mg_Pc (D : va_G) (cl : List vw_C) (Z : Nat × Cell) (B : List Cond) (tys : List (ClassId × FieldType)) (av : List Value) (ad : mg_Ad) (C : mg_Ct) (sz : Nat) : Array Value → State → Prop := va_Pc av (fun U => U.heap.size = sz ∧ mg_W D cl Z (fun _ => True) ad C U.heap ∧ va_K D cl tys U ∧ mg_Zk B Z U)
def mg_Qc (D : va_G) (cl : List vw_C) (Z : Nat × Cell) (ad : mg_Ad) (C : mg_Ct) (sz : Nat) (post : Option Value → mg_Ad → mg_Ct → Prop) : Array Value → State → Outcome → State → Prop := fun _ s0 oc t => (∃ (r : Option Value) (ad' : mg_Ad) (C' : mg_Ct), oc = .returned r ∧ post r ad' C' ∧ mg_W D cl Z (mg_A ad C sz) ad' C' t.heap) ∧ va_F (mg_A ad C sz) s0 t
/-- A CONTRACT: from any heap that holds the world ad, C: y returns, 'post answer ad' C'', and the heap holds the world ad', C' -/
def mg_M (l : Launch) (y : MethodName) (ws : List Cond) (rm : Room) (D : va_G) (cl : List vw_C) (Z : Nat × Cell) (B : List Cond) (tys : List (ClassId × FieldType)) (av : List Value) (ad : mg_Ad) (C : mg_Ct) (mc ms : Nat) (post : Option Value → mg_Ad → mg_Ct → Prop) : Prop :=
  ∀ sz : Nat, Met l y ws rm (mg_Pc D cl Z B tys av ad C sz) (mg_Qc D cl Z ad C sz post) mc ms (mg_A ad C sz)
theorem mg_Pc.blind {D : va_G} {cl : List vw_C} {Z : Nat × Cell} {B : List Cond} {tys : List (ClassId × FieldType)} {av : List Value} {ad : mg_Ad} {C : mg_Ct} {sz : Nat} : FrameBlind (mg_Pc D cl Z B tys av ad C sz) := fun a U g mk q => by
  obtain ⟨q0, q1, qW, qK, qZ⟩ := q
  exact ⟨q0, q1, qW, va_K.moved (u := U) (U := U.calling g mk a) (Vm.Alike.refl U.vm) qK, fun V hV hz => qZ V hV hz⟩
section MG2
variable {p : Program} {l : Launch} {e : Env} {R : Room} {s : State} {m : MethodId} {args : Array Value} {below : List Frame} {meth : Method} {c : Code} {Q : State → Prop}
variable {D : va_G} {cl : List vw_C} {Z : Nat × Cell} {tys : List (ClassId × FieldType)} {A : Nat → Prop} {H0 : Heap} {nL : Nat} {cc : ByteArray} {Ts : List Cond} {own : String}
variable {ad : mg_Ad} {C : mg_Ct} {L : List (Option Value)} {cells slots pc mc ms : Nat} {st rest st0 : List Value} {post : Option Value → mg_Ad → mg_Ct → Prop}
theorem mg_A.up {H : Heap} {locs : List Loc} (hW : mg_W D cl Z A ad C H) (hS : va_S A H0 H locs) (hA : ∀ q, H0.size ≤ q → A q) : ∀ q, mg_A ad C H.size q → A q := by
  intro q h
  rcases h with ⟨k, i, h1, rfl⟩ | h
  · exact hW.2.2.1 k i h1
  · exact hA q (Nat.le_trans hS.1 h)
theorem mg_run {H : Heap} {locs : List Loc} {ls : Array Slot} {a : Array Value} (hr : va_Run p l e R s m args below meth c H locs cells slots mc ms (F0 m pc ls st0) rest (mg_Qc D cl Z ad C H.size post a) (mg_A ad C H.size)) (hW : mg_W D cl Z A ad C H) (hS : va_S A H0 H locs) (hA : ∀ q, H0.size ≤ q → A q) (hL : mg_L ls nL L)
    (kk : ∀ (r : Option Value) (ad' : mg_Ad) (C' : mg_Ct), post r ad' C' → mg_G p l e R s m args below meth c D cl Z A H0 nL Q ad' C' L (cells + mc) (slots + ms) (r.toList ++ rest) (pc + 3)) : W p l e R s m args below meth c H locs cells slots Q (F0 m pc ls st0) := by
  have hAA := mg_A.up hW hS hA
  intro T hT X
  obtain ⟨v, st₀, t, T', Lc, h0, X', hLc, e1, e2, ⟨⟨r, ad', C', hv, hp, hb⟩, hz, hk⟩, sT⟩ := hr T hT X
  cases hv
  rw [h0] at hz hk
  obtain ⟨t2, a1, b1⟩ := kk v ad' C' hp T'.heap (locs ++ Lc) ls (by rw [e1]; exact hb.mono hAA)
    ⟨Nat.le_trans hS.1 (by rw [e1]; exact hz), fun q h1 h2 => by rw [e1, hk q (Nat.lt_of_lt_of_le h1 hS.1) (fun z => h2 (hAA q z))]; exact hS.2.1 q h1 h2, fun q hq => by
      rcases List.mem_append.mp hq with h | h
      · exact hS.2.2 q h
      · exact hAA _ (hLc q h)⟩ hL T' rfl X'
  exact ⟨t2, sT t2 a1, b1⟩
theorem mg_pre {H : Heap} {av : List Value} (K : mg_K p m c cc nL s args Ts own D cl Z tys) (hW : mg_W D cl Z A ad C H) : ∀ U : State, U.heap = H → s.WarmedH U.vm → mg_Pc D cl Z Ts tys av ad C H.size av.toArray U :=
  fun U hU hWm => ⟨rfl, by rw [hU], by rw [hU]; exact hW.mono (fun _ _ => trivial), va_K.moved hWm.alike K.2.1, K.2.2.moved hWm⟩

theorem mg_callV (K : mg_K p m c cc nL s args Ts own D cl Z tys) (hA : ∀ q, H0.size ≤ q → A q) {y : MethodName} {ws : List Cond} {rm : Room} {bytes : ByteArray} {maxL n index ci N k i : Nat} {ret : Option FieldType} {Cn : String} {T : u_T} {fs As : List Value} (hM : mg_M l y ws rm D cl Z Ts tys (va_rf (some (ad k i)) :: As) ad C mc ms post) (cw : CallW R s args own Cn index y bytes maxL ret ws rm mc ms n) (hd : decode cc pc = .ok (.invokevirtual index, 3)) (hst : st0 = As.reverse ++ va_rf (some (ad k i)) :: rest) (he : C k i = some (.inr (ci, fs))) (hc : cl[ci]? = some (Cn, T, N)) (hn : As.length = n) (hrm : (rest.map fun v => v.category).sum ≤ 8) (hf : cells + mc ≤ R.cells ∧ slots + ms ≤ R.slots)
    (kk : ∀ (r : Option Value) (ad' : mg_Ad) (C' : mg_Ct), post r ad' C' → mg_G p l e R s m args below meth c D cl Z A H0 nL Q ad' C' L (cells + mc) (slots + ms) (r.toList ++ rest) (pc + 3)) : mg_G p l e R s m args below meth c D cl Z A H0 nL Q ad C L cells slots st0 pc := by
  intro H locs ls hW hS hL
  exact mg_run (va_runV (As := As) (rest := rest) K.1 (hM H.size) cw ⟨mg_Pc.blind, va_recv K.2.1 (mg_P1 hW he) hc (q0 := 0) rfl, mg_pre K hW⟩ rfl hn hL.1 hst (lv_room hrm) hd hf) hW hS hA hL kk
theorem mg_callS (K : mg_K p m c cc nL s args Ts own D cl Z tys) (hA : ∀ q, H0.size ≤ q → A q) {y : MethodName} {ws : List Cond} {rm : Room} {bytes : ByteArray} {maxL n index : Nat} {ret : Option FieldType} {As : List Value} (hM : mg_M l y ws rm D cl Z Ts tys As ad C mc ms post) (cw : CallB R s args own index y bytes maxL ret ws rm mc ms n ∧ (Cond.static y).before args s = true) (hd : decode cc pc = .ok (.invokestatic index, 3)) (hst : st0 = As.reverse ++ rest) (hn : As.length = n) (hrm : (rest.map fun v => v.category).sum ≤ 8) (hf : cells + mc ≤ R.cells ∧ slots + ms ≤ R.slots)
    (kk : ∀ (r : Option Value) (ad' : mg_Ad) (C' : mg_Ct), post r ad' C' → mg_G p l e R s m args below meth c D cl Z A H0 nL Q ad' C' L (cells + mc) (slots + ms) (r.toList ++ rest) (pc + 3)) : mg_G p l e R s m args below meth c D cl Z A H0 nL Q ad C L cells slots st0 pc := by
  intro H locs ls hW hS hL
  exact mg_run (va_runS (As := As) (rest := rest) K.1 (hM H.size) cw ⟨mg_Pc.blind, mg_pre K hW⟩ rfl hn hL.1 hst (lv_room hrm) hd hf) hW hS hA hL kk
theorem mg_callI (K : mg_K p m c cc nL s args Ts own D cl Z tys) (hA : ∀ q, H0.size ≤ q → A q) {y : MethodName} {ws : List Cond} {rm : Room} {bytes : ByteArray} {maxL n index b : Nat} {As : List Value} (hM : mg_M l y ws rm D cl Z Ts tys (va_rf (some b) :: As) ad C mc ms post) (cw : CallB R s args own index y bytes maxL none ws rm mc ms n ∧ y.name = "<init>" ∧ (Cond.instanceMethod y).before args s = true) (hd : decode cc pc = .ok (.invokespecial index, 3)) (hst : st0 = As.reverse ++ va_rf (some b) :: rest) (hn : As.length = n) (hrm : (rest.map fun v => v.category).sum ≤ 8) (hf : cells + mc ≤ R.cells ∧ slots + ms ≤ R.slots)
    (kk : ∀ (r : Option Value) (ad' : mg_Ad) (C' : mg_Ct), post r ad' C' → mg_G p l e R s m args below meth c D cl Z A H0 nL Q ad' C' L (cells + mc) (slots + ms) (r.toList ++ rest) (pc + 3)) : mg_G p l e R s m args below meth c D cl Z A H0 nL Q ad C L cells slots st0 pc := by
  intro H locs ls hW hS hL
  exact mg_run (va_runI (As := As) (rest := rest) K.1 (hM H.size) cw ⟨mg_Pc.blind, mg_pre K hW⟩ rfl hn hL.1 hst (lv_room hrm) hd hf) hW hS hA hL kk
theorem mg_callVN (K : mg_K p m c cc nL s args Ts own D cl Z tys) (hA : ∀ q, H0.size ≤ q → A q) {y : MethodName} {ws : List Cond} {rm : Room} {bytes : ByteArray} {maxL n index ci N k i : Nat} {ret : Option FieldType} {Cn host : String} {T : u_T} {fs As : List Value} (hM : mg_M l y ws rm D cl Z Ts tys (va_rf (some (ad k i)) :: As) ad C mc ms post) (cw : va_CN R s args own index y host bytes maxL ret ws rm mc ms n ∧ (Cond.instanceMethod y).before args s = true ∧ (Cond.selects Cn y y).before args s = true) (hd : decode cc pc = .ok (.invokevirtual index, 3)) (hst : st0 = As.reverse ++ va_rf (some (ad k i)) :: rest) (he : C k i = some (.inr (ci, fs))) (hc : cl[ci]? = some (Cn, T, N)) (hn : As.length = n) (hrm : (rest.map fun v => v.category).sum ≤ 8) (hf : cells + mc ≤ R.cells ∧ slots + ms ≤ R.slots)
    (kk : ∀ (r : Option Value) (ad' : mg_Ad) (C' : mg_Ct), post r ad' C' → mg_G p l e R s m args below meth c D cl Z A H0 nL Q ad' C' L (cells + mc) (slots + ms) (r.toList ++ rest) (pc + 3)) : mg_G p l e R s m args below meth c D cl Z A H0 nL Q ad C L cells slots st0 pc := by
  intro H locs ls hW hS hL
  exact mg_run (va_runVN (As := As) (rest := rest) K.1 (hM H.size) cw ⟨mg_Pc.blind, va_recv K.2.1 (mg_P1 hW he) hc (q0 := 0) rfl, mg_pre K hW⟩ rfl hn hL.1 hst (lv_room hrm) hd hf) hW hS hA hL kk
theorem mg_callSN (K : mg_K p m c cc nL s args Ts own D cl Z tys) (hA : ∀ q, H0.size ≤ q → A q) {y : MethodName} {ws : List Cond} {rm : Room} {bytes : ByteArray} {maxL n index : Nat} {host : String} {ret : Option FieldType} {As : List Value} (hM : mg_M l y ws rm D cl Z Ts tys As ad C mc ms post) (cw : va_CN R s args own index y host bytes maxL ret ws rm mc ms n ∧ (Cond.static y).before args s = true ∧ True) (hd : decode cc pc = .ok (.invokestatic index, 3)) (hst : st0 = As.reverse ++ rest) (hn : As.length = n) (hrm : (rest.map fun v => v.category).sum ≤ 8) (hf : cells + mc ≤ R.cells ∧ slots + ms ≤ R.slots)
    (kk : ∀ (r : Option Value) (ad' : mg_Ad) (C' : mg_Ct), post r ad' C' → mg_G p l e R s m args below meth c D cl Z A H0 nL Q ad' C' L (cells + mc) (slots + ms) (r.toList ++ rest) (pc + 3)) : mg_G p l e R s m args below meth c D cl Z A H0 nL Q ad C L cells slots st0 pc := by
  intro H locs ls hW hS hL
  exact mg_run (va_runSN (As := As) (rest := rest) K.1 (hM H.size) cw ⟨mg_Pc.blind, mg_pre K hW⟩ rfl hn hL.1 hst (lv_room hrm) hd hf) hW hS hA hL kk
theorem mg_callIN (K : mg_K p m c cc nL s args Ts own D cl Z tys) (hA : ∀ q, H0.size ≤ q → A q) {y : MethodName} {ws : List Cond} {rm : Room} {bytes : ByteArray} {maxL n index b : Nat} {host : String} {As : List Value} (hM : mg_M l y ws rm D cl Z Ts tys (va_rf (some b) :: As) ad C mc ms post) (cw : va_CN R s args own index y host bytes maxL none ws rm mc ms n ∧ y.name = "<init>" ∧ (Cond.instanceMethod y).before args s = true) (hd : decode cc pc = .ok (.invokespecial index, 3)) (hst : st0 = As.reverse ++ va_rf (some b) :: rest) (hn : As.length = n) (hrm : (rest.map fun v => v.category).sum ≤ 8) (hf : cells + mc ≤ R.cells ∧ slots + ms ≤ R.slots)
    (kk : ∀ (r : Option Value) (ad' : mg_Ad) (C' : mg_Ct), post r ad' C' → mg_G p l e R s m args below meth c D cl Z A H0 nL Q ad' C' L (cells + mc) (slots + ms) (r.toList ++ rest) (pc + 3)) : mg_G p l e R s m args below meth c D cl Z A H0 nL Q ad C L cells slots st0 pc := by
  intro H locs ls hW hS hL
  exact mg_run (va_runIN (As := As) (rest := rest) K.1 (hM H.size) cw ⟨mg_Pc.blind, mg_pre K hW⟩ rfl hn hL.1 hst (lv_room hrm) hd hf) hW hS hA hL kk
end MG2
/-! a method's start and end -/
theorem mg_args_in : ∀ (av : List Value) (i j : Nat) (v : Value), (∀ w ∈ av, w.category = 1) → av[j]? = some v → (i + j, v) ∈ lv_args i av
  | [], _, _, _, _, h => by simp at h
  | w :: av, i, 0, v, _, h => by
    simp at h
    subst h
    simp [lv_args]
  | w :: av, i, j + 1, v, hc, h => by
    rw [List.getElem?_cons_succ] at h
    have h1 := mg_args_in av (i + 1) j v (fun x hx => hc x (List.mem_cons_of_mem _ hx)) h
    have hw : w.category = 1 := hc w List.mem_cons_self
    have e1 : i + (j + 1) = i + 1 + j := by omega
    rw [e1]
    show (i + 1 + j, v) ∈ (i, w) :: lv_args (if w.category = 2 then i + 2 else i + 1) av
    rw [if_neg (by rw [hw]; decide)]
    exact List.mem_cons_of_mem _ h1
theorem mg_L.entry {ls : Array Slot} {n : Nat} {av : List Value} (hc : ∀ w ∈ av, w.category = 1) (h : lv_has ls n (lv_args 0 av)) : mg_L ls n (av.map some) := by
  refine ⟨h.1, h.2.1, fun i v hv => ?_, fun i v hv => ?_⟩
  · rw [List.getElem?_map] at hv
    cases hq : av[i]? with
    | none => rw [hq] at hv; cases hv
    | some w =>
      rw [hq] at hv
      cases hv
      have h1 := mg_args_in av 0 i _ hc hq
      rw [Nat.zero_add] at h1
      exact h.2.2 (i, _) h1
  · rw [List.getElem?_map] at hv
    cases hq : av[i]? with
    | none => rw [hq] at hv; cases hv
    | some w =>
      rw [hq] at hv
      cases hv
      exact hc _ (List.mem_of_getElem? hq)
theorem mg_M.of {l : Launch} {y : MethodName} {ws ws' : List Cond} {rm : Room} {D : va_G} {cl : List vw_C} {Z : Nat × Cell} {B : List Cond} {tys : List (ClassId × FieldType)} {av : List Value} {ad : mg_Ad} {C : mg_Ct} {mc ms maxL : Nat} {cc : ByteArray} {ret : Option FieldType} {post : Option Value → mg_Ad → mg_Ct → Prop}
    (hy : plainName y.cls = true) (hw : ws = Cond.code y cc maxL ret :: ws') (hcap : (lg_sl av).length ≤ maxL) (hcat : ∀ w ∈ av, w.category = 1)
    (body : ∀ (p : Program) (e : Env) (s : State) (m : MethodId) (args : Array Value) (below : List Frame) (meth : Method) (c : Code), mg_K p m c cc maxL s args B y.cls D cl Z tys → meth.sig.returnType = ret → meth.locks = false → meth.name = y.name → (∀ q, s.heap.size ≤ q → mg_A ad C s.heap.size q) →
      mg_G p l e rm s m args below meth c D cl Z (mg_A ad C s.heap.size) s.heap maxL (MQ below (mg_Qc D cl Z ad C s.heap.size post) args s mc ms (mg_A ad C s.heap.size)) ad C (av.map some) 0 0 [] 0) : mg_M l y ws rm D cl Z B tys av ad C mc ms post := by
  intro sz
  refine Met.ofW (cc := cc) (maxL := maxL) (ret := ret) hy hw ?_
  intro p e s m args below meth c s₁ Bd hml hv
  obtain ⟨rfl, hsz, hW, hK, hZk⟩ := hv
  subst hsz
  have hts : ∀ w ∈ B, w.before av.toArray s = true := fun w h => hZk s (State.WarmedH.refl s) hW.2.2.2.1 w h _
  have hown := findClass_of_methodNamed Bd.named
  have hl := lv_entry av (n := maxL) hcap
  rw [lg_entry_eq]
  generalize (lg_sl av ++ List.replicate (maxL - (lg_sl av).length) Slot.unset).toArray = ls at hl ⊢
  exact body p e s m _ below meth c ⟨⟨Bd.exec, Bd.bytes, hml, hown, hts⟩, hK, hZk⟩ Bd.returns Bd.notSynchronized (name_of_methodNamed Bd.named Bd.method).1 (fun q h => Or.inr h) _ [] ls ⟨hW.1, hW.2.1, fun k i h => Or.inl ⟨k, i, h, rfl⟩, hW.2.2.2⟩ va_S.rf (mg_L.entry hcat hl)
section MG3
variable {p : Program} {l : Launch} {e : Env} {R : Room} {s : State} {m : MethodId} {args : Array Value} {below : List Frame} {meth : Method} {c : Code}
variable {D : va_G} {cl : List vw_C} {Z : Nat × Cell} {tys : List (ClassId × FieldType)} {nL : Nat} {cc : ByteArray} {Ts : List Cond} {own : String}
variable {ad ad0 : mg_Ad} {C C0 : mg_Ct} {L : List (Option Value)} {cells slots pc mc ms sz : Nat} {post : Option Value → mg_Ad → mg_Ct → Prop}
theorem mg_iret {v : Int32} (K : mg_K p m c cc nL s args Ts own D cl Z tys) (hr : meth.sig.returnType = some .int) (hk : meth.locks = false) (hd : decode cc pc = .ok (.ireturn, 1)) (h1 : cells ≤ mc) (h2 : slots ≤ ms) (hp : post (some (.int v)) ad C) : mg_G p l e R s m args below meth c D cl Z (mg_A ad0 C0 sz) s.heap nL (MQ below (mg_Qc D cl Z ad0 C0 sz post) args s mc ms (mg_A ad0 C0 sz)) ad C L cells slots [.int v] pc := by
  intro H locs ls hW hS hL
  refine W.widen h1 h2 ?_
  exact W.iret K.1.1 K.1.2.1 hr (fun t ht hWm => ⟨⟨_, ad, C, rfl, hp, by rw [ht]; exact hW⟩, hS.F ht⟩) hS.2.2 hd hk
theorem mg_zret {v : Int32} (K : mg_K p m c cc nL s args Ts own D cl Z tys) (hr : meth.sig.returnType = some .boolean) (hk : meth.locks = false) (hd : decode cc pc = .ok (.ireturn, 1)) (hn : narrow .boolean (.int v) = .int v) (h1 : cells ≤ mc) (h2 : slots ≤ ms) (hp : post (some (.int v)) ad C) : mg_G p l e R s m args below meth c D cl Z (mg_A ad0 C0 sz) s.heap nL (MQ below (mg_Qc D cl Z ad0 C0 sz post) args s mc ms (mg_A ad0 C0 sz)) ad C L cells slots [.int v] pc := by
  intro H locs ls hW hS hL
  refine W.widen h1 h2 ?_
  exact W.zret K.1.1 K.1.2.1 hr hn (fun t ht hWm => ⟨⟨_, ad, C, rfl, hp, by rw [ht]; exact hW⟩, hS.F ht⟩) hS.2.2 hd hk
theorem mg_vret (K : mg_K p m c cc nL s args Ts own D cl Z tys) (hr : meth.sig.returnType = none) (hk : meth.locks = false) (hd : decode cc pc = .ok (.return_, 1)) (h1 : cells ≤ mc) (h2 : slots ≤ ms) (hp : post none ad C) : mg_G p l e R s m args below meth c D cl Z (mg_A ad0 C0 sz) s.heap nL (MQ below (mg_Qc D cl Z ad0 C0 sz post) args s mc ms (mg_A ad0 C0 sz)) ad C L cells slots [] pc := by
  intro H locs ls hW hS hL
  refine W.widen h1 h2 ?_
  exact W.vret K.1.1 K.1.2.1 hr (fun t ht hWm => ⟨⟨_, ad, C, rfl, hp, by rw [ht]; exact hW⟩, hS.F ht⟩) hS.2.2 hd hk
theorem mg_aret {r : Option Nat} {nm : String} (K : mg_K p m c cc nL s args Ts own D cl Z tys) (hr : meth.sig.returnType = some (.object nm)) (hk : meth.locks = false) (hd : decode cc pc = .ok (.areturn, 1)) (h1 : cells ≤ mc) (h2 : slots ≤ ms) (hp : post (some (va_rf r)) ad C) : mg_G p l e R s m args below meth c D cl Z (mg_A ad0 C0 sz) s.heap nL (MQ below (mg_Qc D cl Z ad0 C0 sz post) args s mc ms (mg_A ad0 C0 sz)) ad C L cells slots [va_rf r] pc := by
  intro H locs ls hW hS hL
  refine W.widen h1 h2 ?_
  exact W.aret K.1.1 K.1.2.1 hr (Or.inl ⟨nm, rfl⟩) (by cases r <;> simp [va_rf]) (fun t ht hWm => ⟨⟨_, ad, C, rfl, hp, by rw [ht]; exact hW⟩, hS.F ht⟩) hS.2.2 hd hk
end MG3
end
section
/-! a method that throws: mg_T; its making of an exception, its passing on, its catching -/
def mg_FT (first : State) (o : Outcome) (t : State) (L : List Loc) (k n : Nat) : Prop := (∃ x, o = .threw x) ∧ first.WarmedH t.vm ∧ first.sameButNew ({ t with vm := first.vm } : State) L k n
def mg_MT (l : Launch) (y : MethodName) (ws : List Cond) (rm : Room) (Pc : Array Value → State → Prop) (Qc : Array Value → State → Outcome → State → Prop) (mc ms : Nat) (free : Addr → Prop) : Prop :=
  MetFree l y (headSpec ws rm) Pc (fun _ _ _ _ _ => True) (fun a st o t => Qc a st o t ∧ ∃ L, mg_FT st o t L mc ms ∧ ∀ q ∈ L, free q.base)
section MT1
variable {l : Launch} {R : Room} {p : Program} {e : Env} {below : List Frame} {s : State} {args : Array Value} {y : MethodName} {W len : Nat} {m : MethodId} {meth : Method} {c : Code} {U : State} {Ls : List Loc} {c0 s0 : Nat}
theorem mg_backT {ws : List Cond} {rm : Room} {Pc : Array Value → State → Prop} {Qc : Array Value → State → Outcome → State → Prop} {mc ms : Nat} {free : Addr → Prop} {bytes : ByteArray} {maxL : Nat} {ret : Option FieldType}
    (hM : mg_MT l y ws rm Pc Qc mc ms free) (hblind : FrameBlind Pc) (hrc : rm.cells = mc) (hrs : rm.slots = ms)
    (hframes : rm.frames + 1 ≤ R.frames) (hlocals : W + (maxL + 11) + rm.locals ≤ R.locals)
    (hws : ∀ w ∈ ws, ∀ a' U, s.WarmedH U.vm → w.before a' U = true) (hcode : Cond.code y bytes maxL ret ∈ ws) (hinit : ∀ a' U, s.WarmedH U.vm → (Cond.initialized y.cls).before a' U = true)
    (X : Stand p l e R s m args below meth c U Ls c0 s0) {g : JFrame} {ig : Instr} {mk : MethodId} {a : Array Value} (hg : g.method = m) (hsize : g.locals.size = c.maxLocals) (hdg : decode c.code g.pc = .ok (ig, len))
    (hW : 2 * g.monitorRoom + (g.stack.map fun v => v.category).sum ≤ W) (hn : U.methodNamed? y = some mk) (hp : c0 + mc ≤ R.cells ∧ s0 + ms ≤ R.slots ∧ Pc a U) :
    ∃ (x : Addr) (t T' : State) (L : List Loc), Stand p l e R s m args below meth c T' (Ls ++ L) (c0 + mc) (s0 + ms) ∧ T'.heap = t.heap ∧ T'.vm = t.vm ∧ (∀ q ∈ L, free q.base) ∧ Qc a (U.calling g mk a) (.threw x) t ∧
      Steps p.tables e below (doInvoke e (U.setTop g) [] mk a).1 ((T'.setTop g).pushFrame (.throwing x)) := by
  have hc1 := hws _ hcode a _ X.warmed
  obtain ⟨methY, cY, hmY, hcY, -, hlY, -, -, -, -⟩ := Cond.code_spec hn hc1
  obtain ⟨kY, hkY, -⟩ := className_of_methodNamed hn
  have hinitY : kY.init = .initialized := Cond.initialized_spec (findClass_of_methodNamed hn) hkY (hinit a _ X.warmed)
  have h : At U g.method c below := by rw [hg]; exact X.here
  have happ : (headSpec ws rm).appliesLoose y e.platform (U.calling g mk a) = true :=
    Spec.appliesLoose_calling (g := g) h hdg hn hkY hinitY
      (X.room_calling (g := g) (R' := (headSpec ws rm).room) hsize hmY hcY hframes (by rw [hlY]; show _ + _ + rm.locals ≤ _; omega) (by show c0 + rm.cells ≤ _; rw [hrc]; exact hp.1) (by show s0 + rm.slots ≤ _; rw [hrs]; exact hp.2.1)) (atoms_intro fun w hw => hws w hw _ _ X.warmed)
  obtain ⟨mid, hmid⟩ := h.above
  have hfr : (U.setTop g).frames = (.java g :: mid) ++ below := by rw [State.frames_setTop' g h.top, hmid]; rfl
  obtain ⟨o, s₂, hsteps, -, hend, hq⟩ := Steps.callFree hM p X.admits X.cas X.clock (acts := []) hfr happ (hblind _ _ g mk hp.2.2) trivial
  obtain ⟨hq1, L, hfe, hL⟩ : Qc a (U.calling g mk a) o s₂ ∧ ∃ L, mg_FT (U.calling g mk a) o s₂ L mc ms ∧ ∀ q ∈ L, free q.base := hq
  rw [State.frames_setTop' g h.top] at hend
  obtain ⟨⟨v, rfl⟩, hW₂, e2, q2, q3, q4, q5, q6⟩ := hfe
  have e3 : s₂ = ({ (U.calling g mk a).setFrames s₂.frames with heap := s₂.heap, slotsUsed := s₂.slotsUsed } : State).setVm s₂.vm := by
    have : s₂ = ({ s₂ with vm := (U.calling g mk a).vm } : State).setVm s₂.vm := rfl
    rw [e2] at this
    exact this
  have hf₂ : s₂.frames = .throwing v :: .java g :: U.frames.tail := hend
  have hW' : U.WarmedH s₂.vm := hW₂
  obtain ⟨g₀, hg0⟩ := Option.isSome_iff_exists.mp h.top
  obtain ⟨r, hr⟩ := State.topJava?_eq_some.mp hg0
  have hs₂ : s₂ = ((({ U with heap := s₂.heap, slotsUsed := s₂.slotsUsed } : State).setVm s₂.vm).setTop g).pushFrame (.throwing v) := by
    have hr' : (({ U with heap := s₂.heap, slotsUsed := s₂.slotsUsed } : State).setVm s₂.vm).frames = .java g₀ :: r := hr
    refine e3.trans ?_
    rw [hf₂, State.calling_eq h.top, State.setFrames_setFrames, State.pushFrame, State.frames_setTop _ hr', State.setTop_of_frames _ hr', State.setFrames_setFrames, hr]
    rfl
  have hsame : U.sameButNew ({ U with heap := s₂.heap, slotsUsed := s₂.slotsUsed } : State) L mc ms := by
    refine ⟨?_, q2, q3, q4, q5, q6⟩
    obtain ⟨t, ht, -⟩ := State.frames_cons hr
    show ({ U with heap := s₂.heap, slotsUsed := s₂.slotsUsed } : State) = { U.setFrames U.frames with heap := s₂.heap, slotsUsed := s₂.slotsUsed }
    rw [State.setFrames_self ht]
  subst hg
  refine ⟨v, s₂, ({ U with heap := s₂.heap, slotsUsed := s₂.slotsUsed } : State).setVm s₂.vm, L,
    ⟨X.admits, X.cas, X.clock, X.frames, X.room, X.hears, X.method, X.code, (X.here.setHeapUsed s₂.heap s₂.slotsUsed).setVm hW'.alike, X.tail, State.WarmedH.trans X.warmed hW', X.limits, X.bytes, X.same.trans (hsame.setVm s.vm)⟩,
    rfl, rfl, hL, hq1, ?_⟩
  rw [← hs₂]
  exact hsteps
end MT1
section MT2
variable {p : Program} {l : Launch} {e : Env} {R : Room} {s : State} {m : MethodId} {args : Array Value} {below : List Frame} {meth : Method} {c : Code} {H : Heap} {locs : List Loc} {cells slots : Nat}
/-- a call that throws -/
def mg_RunT (p : Program) (l : Launch) (e : Env) (R : Room) (s : State) (m : MethodId) (args : Array Value) (below : List Frame) (meth : Method) (c : Code) (H : Heap) (locs : List Loc) (cells slots mc ms : Nat) (g : JFrame) (rest : List Value) (Qa : State → Outcome → State → Prop) (free : Addr → Prop) : Prop :=
  ∀ T : State, T.heap = H → Stand p l e R s m args below meth c T locs cells slots → ∃ (x : Addr) (st₀ t T' : State) (L : List Loc), st₀.heap = H ∧ Stand p l e R s m args below meth c T' (locs ++ L) (cells + mc) (slots + ms) ∧ (∀ q ∈ L, free q.base) ∧ T'.heap = t.heap ∧ T'.vm = t.vm ∧ Qa st₀ (.threw x) t ∧
    ∀ tg, Steps p.tables e below ((T'.setTop { g with stack := rest }).pushFrame (.throwing x)) tg → Steps p.tables e below (T.setTop g) tg
variable {y : MethodName} {bytes cc : ByteArray} {maxL nL mc ms n index : Nat} {ret : Option FieldType} {ws : List Cond} {rm : Room} {Pc : Array Value → State → Prop} {Qc : Array Value → State → Outcome → State → Prop} {free : Addr → Prop} {Ts : List Cond} {own C : String} {b : Addr} {As rest : List Value} {g : JFrame}
theorem mg_runST (S : CallFix p m c cc nL s args Ts own) (hM : mg_MT l y ws rm Pc Qc mc ms free) (cw : CallB R s args own index y bytes maxL ret ws rm mc ms n ∧ (Cond.static y).before args s = true) (hp : PreS s H Pc As)
    (hg : g.method = m) (hn : As.length = n) (hsize : g.locals.size = nL) (hstack : g.stack = As.reverse ++ rest) (hW : 2 * g.monitorRoom + (rest.map fun v => v.category).sum ≤ 8) (hdg : decode cc g.pc = .ok (.invokestatic index, 3)) (hf : cells + mc ≤ R.cells ∧ slots + ms ≤ R.slots) :
    mg_RunT p l e R s m args below meth c H locs cells slots mc ms g rest (Qc As.toArray) free := by
  obtain ⟨⟨hrc, hrs, hfr, hlo, hws, hcw, hcode, hini, hy, hlen, hl⟩, hstt⟩ := cw
  obtain ⟨hx, hb, hml, ho, -⟩ := S
  intro T hT X
  obtain ⟨mk, hnamed⟩ := Cond.code_named hcode
  obtain ⟨methM, cM, hmethM, -, -, -, -, -, -, hsigM⟩ := Cond.code_spec hnamed hcode
  have hstatic : methM.isStatic = true := Cond.static_spec hnamed hmethM hstt
  obtain ⟨kP, hkP, -⟩ := className_of_methodNamed hnamed
  have hinitP : kP.init = .initialized := Cond.initialized_spec (findClass_of_methodNamed hnamed) hkP hini
  have hdg' : decode c.code g.pc = .ok (.invokestatic index, 3) := by rw [hb]; exact hdg
  obtain ⟨vm₁, X₁, hstep₁⟩ := X.invokestatic hx ho hl hnamed hmethM hstatic hkP hinitP hy (g := g) hg (argsL := As) (rest := rest) (hn.trans (hlen _ hsigM)) hstack hdg'
  obtain ⟨x, t, T', L, X', e1, e2, hL, hq, hsteps⟩ := mg_backT (g := { g with stack := rest }) (mk := mk) (a := As.toArray) (W := 8) hM hp.1 hrc hrs hfr hlo hws hcw (fun a' U hW => word_at hW (Or.inl (by first | rfl | simp [Cond.onTables, Cond.keeps, Cond.steady])) hini) X₁ hg (hsize.trans hml.symm) hdg' hW (X₁.named hnamed) ⟨hf.1, hf.2, hp.2 (T.setVm vm₁) hT X₁.warmed⟩
  exact ⟨x, (T.setVm vm₁).calling { g with stack := rest } mk As.toArray, t, T', L, hT, X', hL, e1, e2, hq, fun tg h => hstep₁ _ fun acts => by rw [doInvoke_state]; exact hsteps.trans h⟩
theorem mg_runVT (S : CallFix p m c cc nL s args Ts own) (hM : mg_MT l y ws rm Pc Qc mc ms free) (cw : CallW R s args own C index y bytes maxL ret ws rm mc ms n) (hp : PreV s H C b Pc As)
    (hg : g.method = m) (hn : As.length = n) (hsize : g.locals.size = nL) (hstack : g.stack = As.reverse ++ .ref b :: rest) (hW : 2 * g.monitorRoom + (rest.map fun v => v.category).sum ≤ 8) (hdg : decode cc g.pc = .ok (.invokevirtual index, 3)) (hf : cells + mc ≤ R.cells ∧ slots + ms ≤ R.slots) :
    mg_RunT p l e R s m args below meth c H locs cells slots mc ms g rest (Qc (Value.ref b :: As).toArray) free := by
  obtain ⟨⟨hrc, hrs, hfr, hlo, hws, hcw, hcode, hini, hy, hlen, hl⟩, hinst, hsel⟩ := cw
  obtain ⟨hx, hb, hml, ho, -⟩ := S
  obtain ⟨hbl, ⟨cellB, hcB, hoB, hclB⟩, hPc⟩ := hp
  intro T hT X
  obtain ⟨mk, methM, hnamed, hmethM, hstM, habM⟩ := Cond.instanceMethod_spec hinst
  obtain ⟨methM', cM, hmethM', -, -, -, -, -, -, hsigM⟩ := Cond.code_spec hnamed hcode
  cases hmethM.symm.trans hmethM'
  obtain ⟨c2, r2, m2, q1, q2, q3, q4, kP, hkP, hkPi⟩ := Cond.selects_spec hsel
  cases hclB.symm.trans q1
  cases (State.methodFound?_of_named hnamed hy).symm.trans q2
  cases hnamed.symm.trans q3
  have hselP : selectMethod e.platform s.vm cellB.cls mk = .method mk := by rw [Launch.admits_selectMethod X.admits]; exact q4
  have hdg' : decode c.code g.pc = .ok (.invokevirtual index, 3) := by rw [hb]; exact hdg
  obtain ⟨vm₁, X₁, hstep₁⟩ := X.invokevirtual hx ho hl hnamed hmethM hstM hkP hkPi hy (a := b) (cell := cellB) (by rw [hT]; exact hcB)
    (fun z h => by rw [h] at hoB; cases hoB) hselP hmethM habM hkP hkPi (g := g) hg (argsL := As) (rest := rest) (hn.trans (hlen _ hsigM)) hstack hdg'
  obtain ⟨x, t, T', L, X', e1, e2, hL, hq, hsteps⟩ := mg_backT (g := { g with stack := rest }) (mk := mk) (a := (Value.ref b :: As).toArray) (W := 8) hM hbl hrc hrs hfr hlo hws hcw (fun a' U hW => word_at hW (Or.inl (by first | rfl | simp [Cond.onTables, Cond.keeps, Cond.steady])) hini) X₁ hg (hsize.trans hml.symm) hdg' hW (X₁.named hnamed) ⟨hf.1, hf.2, hPc (T.setVm vm₁) hT X₁.warmed⟩
  exact ⟨x, (T.setVm vm₁).calling { g with stack := rest } mk (Value.ref b :: As).toArray, t, T', L, hT, X', hL, e1, e2, hq, fun tg h => hstep₁ _ fun acts => by rw [doInvoke_state]; exact hsteps.trans h⟩
end MT2
/-- nothing of the world is told: the road of a throw -/
def mg_0 : mg_Ct := fun _ _ => none
def mg_fr (sz : Nat) : Nat → Prop := fun q => sz ≤ q
def mg_QT (sz : Nat) (Xn : String) : Array Value → State → Outcome → State → Prop := fun _ s0 oc t => (∃ (x : Addr) (cell : Cell), oc = .threw x ∧ t.heap[x]? = some cell ∧ t.vm.findClass Xn = some cell.cls ∧ cell.vm.isStatics = false) ∧ va_F (mg_fr sz) s0 t
/-- A CONTRACT of a method that throws an Xn, and changes nothing -/
def mg_T (l : Launch) (y : MethodName) (ws : List Cond) (rm : Room) (D : va_G) (cl : List vw_C) (Z : Nat × Cell) (B : List Cond) (tys : List (ClassId × FieldType)) (av : List Value) (ad : mg_Ad) (C : mg_Ct) (Xn : String) : Prop :=
  ∀ sz : Nat, mg_MT l y ws rm (mg_Pc D cl Z B tys av ad C sz) (mg_QT sz Xn) 1 6 (mg_fr sz)
def mg_MQT (below : List Frame) (Qc : Array Value → State → Outcome → State → Prop) (a : Array Value) (s : State) (mc ms : Nat) (free : Addr → Prop) : State → Prop := fun t =>
  ∃ o, t.status = .running ∧ Ended t below o ∧ Qc a s o t ∧ ∃ L, mg_FT s o t L mc ms ∧ ∀ q ∈ L, free q.base
theorem mg_W.zero {D : va_G} {cl : List vw_C} {Z : Nat × Cell} {A : Nat → Prop} {ad : mg_Ad} {H : Heap} (h : H[Z.1]? = some Z.2) : mg_W D cl Z A ad mg_0 H :=
  ⟨fun _ _ _ h => (by cases h), fun _ _ _ _ h => absurd rfl h, fun _ _ h => absurd rfl h, h, fun _ _ h => absurd rfl h⟩
theorem mg_A.zero {ad : mg_Ad} {sz : Nat} : ∀ q, mg_A ad mg_0 sz q → mg_fr sz q := fun q h => by
  rcases h with ⟨_, _, h, -⟩ | h
  · exact absurd rfl h
  · exact h
theorem mg_T.of {l : Launch} {y : MethodName} {ws ws' : List Cond} {rm : Room} {D : va_G} {cl : List vw_C} {Z : Nat × Cell} {B : List Cond} {tys : List (ClassId × FieldType)} {av : List Value} {ad : mg_Ad} {C : mg_Ct} {maxL : Nat} {cc : ByteArray} {ret : Option FieldType} {Xn : String}
    (hfl : l.flags = pinnedFlags ++ [noTraceFlag]) (hy : plainName y.cls = true) (hw : ws = Cond.code y cc maxL ret :: ws') (hcap : (lg_sl av).length ≤ maxL) (hcat : ∀ w ∈ av, w.category = 1)
    (body : ∀ (p : Program) (e : Env) (s : State) (m : MethodId) (args : Array Value) (below : List Frame) (meth : Method) (c : Code), mg_K p m c cc maxL s args B y.cls D cl Z tys → meth.locks = false → c.exceptionTable.isEmpty = true → e.platform.stackTraces = false → mg_W D cl Z (fun _ => True) ad C s.heap →
      mg_G p l e rm s m args below meth c D cl Z (mg_fr s.heap.size) s.heap maxL (mg_MQT below (mg_QT s.heap.size Xn) args s 1 6 (mg_fr s.heap.size)) ad mg_0 (av.map some) 0 0 [] 0) : mg_T l y ws rm D cl Z B tys av ad C Xn := by
  intro sz
  refine MetFree.of_bodyS (code := cc) (maxLocals := maxL) (ret := ret) hy ?_ ?_
  · intro args s m h hn
    obtain ⟨meth, c, h1, h2, h3, h4, h5, h6, -, -⟩ := Cond.code_spec hn (atoms_spec (ws := ws) h _ (by rw [hw]; exact List.mem_cons_self))
    exact ⟨meth, c, h1, h2, h3, h4, h5, h6⟩
  · intro p e s m args below meth c s₁ Bd hml hP _
    have hh0 : s₁.heap = s.heap := by rw [Bd.state]; rfl
    obtain ⟨rfl, hsz, hW, hK, hZk⟩ := hP
    subst hsz
    have hts : ∀ w ∈ B, w.before av.toArray s = true := fun w h => hZk s (State.WarmedH.refl s) hW.2.2.2.1 w h _
    have hown := findClass_of_methodNamed Bd.named
    have hno := Bd.noHandlers (atoms_spec (ws := ws) Bd.pre _ (by rw [hw]; exact List.mem_cons_self))
    have hl := lv_entry av (n := maxL) hcap
    have hb := body p e s m av.toArray below meth c ⟨⟨Bd.exec, Bd.bytes, hml, hown, hts⟩, hK, hZk⟩ Bd.notSynchronized hno (Launch.traces_off hfl Bd.admits) hW
    rw [lg_entry_eq]
    generalize (lg_sl av ++ List.replicate (maxL - (lg_sl av).length) Slot.unset).toArray = ls at hl ⊢
    obtain ⟨t, a1, o, b1, b2, b3⟩ := hb s.heap [] ls (mg_W.zero hW.2.2.2.1) va_S.rf (mg_L.entry hcat hl) s₁ hh0 (Stand.of_body Bd)
    exact ⟨t, o, a1, b1, b2, ⟨b3.1, b3.2⟩⟩
section MT3
variable {p : Program} {l : Launch} {e : Env} {R : Room} {s : State} {m : MethodId} {args : Array Value} {below : List Frame} {meth : Method} {c : Code} {Q : State → Prop}
variable {D : va_G} {cl : List vw_C} {Z : Nat × Cell} {tys : List (ClassId × FieldType)} {A : Nat → Prop} {H0 : Heap} {nL : Nat} {cc : ByteArray} {Ts : List Cond} {own : String}
variable {ad : mg_Ad} {C : mg_Ct} {L : List (Option Value)} {cells slots pc mc ms : Nat} {st rest st0 : List Value}
/-- new Xn(text) is made, and thrown -/
theorem mg_throw (K : mg_K p m c cc nL s args Ts own D cl Z tys) (hlocks : meth.locks = false) (hno : c.exceptionTable.isEmpty = true) (htr : e.platform.stackTraces = false) {i0 i1 i2 : Nat} {Xn tx : String} (names : List String)
    (h0 : decode cc pc = .ok (.new i0, 3)) (h3 : decode cc (pc + 3) = .ok (.dup, 1)) (h4 : decode cc (pc + 4) = .ok (.ldc i1, 2)) (h6 : decode cc (pc + 6) = .ok (.invokespecial i2, 3)) (h9 : decode cc (pc + 9) = .ok (.athrow, 1))
    (hcl : Cond.classLink own i0 Xn ∈ Ts) (hini : Cond.initialized Xn ∈ Ts) (hfit : Bundle.fit Xn = true) (hnames : ∀ n ∈ names, Bundle.fit n = true) (hw : ∀ a ∈ Bundle.ownAtoms own i2 Xn names, a ∈ Ts) (hstr : Cond.stringRef own i1 tx ∈ Ts)
    (hRf : names.length + 3 < R.frames) (hRl : 1 + (13 * (names.length + 1) + 42) ≤ R.locals) (hRc : 1 ≤ R.cells) (hRs : 6 ≤ R.slots) :
    mg_G p l e R s m args below meth c D cl Z (mg_fr s.heap.size) s.heap nL (mg_MQT below (mg_QT s.heap.size Xn) args s 1 6 (mg_fr s.heap.size)) ad mg_0 L 0 0 [] pc := by
  intro H locs ls hW hS hL
  have hts := K.1.2.2.2.2
  have hall : ∀ a ∈ Bundle.ownAtoms own i2 Xn names, a.before args s = true := fun a ha => hts a (hw a ha)
  have hinst := hall (.instantiable Xn 6) (by simp [Bundle.ownAtoms])
  refine W.newc K.1.1 K.1.2.1 K.1.2.2.2.1 (hts _ hcl) hinst (hts _ hini) rfl h0 (by omega) (by omega) fun cC kC hfC hkC hord hn6 => ?_
  refine lv_dup K.1.1 K.1.2.1 h3 rfl ?_
  obtain ⟨k1, cf1, i1', a1, hk1, hcf1, hcp1, hx1, hr1, hev1⟩ := Cond.stringRef_spec K.1.2.2.2.1 (hts _ hstr)
  intro T hT X
  obtain ⟨U, hst, hrun, hend, hWm, hsame, ce, hce, hown⟩ := X.ctorThrowS K.1.1 htr (own := own) (cls := Xn) (names := names) (ic := i2) K.1.2.2.2.1 hfit hnames hall
    (fun x hx cell hcell => absurd (Array.getElem?_eq_some_iff.mp hcell).1 (Nat.not_lt.mpr (hS.2.2 x hx))) (a := H.size) (cX := cC) (kX := kC) hfC hkC (by rw [hT, Array.getElem?_push_size]) hS.1
    (msg := .ref a1) rfl (g := F0 m (pc + 6) ls [.ref a1, .ref H.size, .ref H.size]) rfl (by rw [K.1.2.2.1]; exact hL.1) rfl rfl (rest := []) rfl (by rw [K.1.2.1]; exact h6) (by rw [K.1.2.1]; exact h9)
    (fun x hx => by have := Array.isEmpty_iff.mp hno; rw [this] at hx; simp at hx) hRf (by simpa [JFrame.monitorRoom, Value.category] using hRl) hlocks
  refine ⟨U, X.ldcString K.1.1 K.1.2.2.2.1 (hts _ hstr) hev1 rfl (by rw [K.1.2.1]; exact h4) _ hst, .threw H.size, hrun, hend, ⟨⟨H.size, ce, rfl, hce, ?_, by rw [hown.vm]; rfl⟩, ?_, ?_⟩, locs, ⟨⟨_, rfl⟩, hWm, hsame.mono (by omega) (by omega)⟩, hS.2.2⟩
  · rw [hWm.alike.findClass]; exact hown.cls
  · exact hsame.2.1
  · intro q hq _
    have hs0 := hsame.weaken (l' := []) (fun x hx hlt => absurd hlt (Nat.not_lt.mpr (hS.2.2 x hx))) (Nat.le_refl _) (Nat.le_refl _)
    rw [Array.getElem?_eq_getElem hq]
    exact State.sameButNew.old_cell hs0 (Array.getElem?_eq_getElem hq)
/-- a static callee throws, and so does this method -/
theorem mg_passS (K : mg_K p m c cc nL s args Ts own D cl Z tys) (hlocks : meth.locks = false) (hno : c.exceptionTable.isEmpty = true) {y : MethodName} {ws : List Cond} {rm : Room} {bytes : ByteArray} {maxL n index : Nat} {ret : Option FieldType} {As : List Value} {ad0 : mg_Ad} {Xn : String}
    (hM : mg_T l y ws rm D cl Z Ts tys As ad0 mg_0 Xn) (cw : CallB R s args own index y bytes maxL ret ws rm 1 6 n ∧ (Cond.static y).before args s = true) (hd : decode cc pc = .ok (.invokestatic index, 3)) (hst : st0 = As.reverse ++ rest) (hn : As.length = n) (hrm : (rest.map fun v => v.category).sum ≤ 8) (hf : 1 ≤ R.cells ∧ 6 ≤ R.slots) :
    mg_G p l e R s m args below meth c D cl Z (mg_fr s.heap.size) s.heap nL (mg_MQT below (mg_QT s.heap.size Xn) args s 1 6 (mg_fr s.heap.size)) ad mg_0 L 0 0 st0 pc := by
  intro H locs ls hW hS hL
  have hW0 : mg_W D cl Z (mg_fr s.heap.size) ad0 mg_0 H := mg_W.zero hW.2.2.2.1
  have hr := mg_runST (l := l) (e := e) (below := below) (meth := meth) (locs := locs) (cells := 0) (slots := 0) (g := F0 m pc ls st0) (As := As) (rest := rest) K.1 (hM H.size) cw ⟨mg_Pc.blind, mg_pre K hW0⟩ rfl hn hL.1 hst (lv_room hrm) hd (by omega)
  intro T hT X
  obtain ⟨x, st₀, t, T', Lc, h0, X', hLc, e1, e2, ⟨⟨x', cell, hx, hcell, hfc, hvm⟩, hz, hk⟩, sT⟩ := hr T hT X
  cases hx
  rw [h0] at hz hk
  obtain ⟨hwalk, hrun, hend, hWm, hsame⟩ := X'.leaveThrown x (g := F0 m pc ls rest) rfl rfl rfl (fun x hx => by have := Array.isEmpty_iff.mp hno; rw [this] at hx; simp at hx) hlocks
  refine ⟨_, sT _ hwalk, .threw x, hrun, hend, ⟨⟨x, cell, rfl, ?_, ?_, hvm⟩, ?_, ?_⟩, locs ++ Lc, ⟨⟨_, rfl⟩, hWm, hsame.mono (by omega) (by omega)⟩, ?_⟩
  · show T'.heap[x]? = _
    rw [e1]; exact hcell
  · show T'.vm.findClass Xn = _
    rw [e2]; exact hfc
  · show _ ≤ T'.heap.size
    rw [e1]; exact Nat.le_trans hS.1 hz
  · intro q h1 h2
    show T'.heap[q]? = _
    rw [e1, hk q (Nat.lt_of_lt_of_le h1 hS.1) (Nat.not_le.mpr (Nat.lt_of_lt_of_le h1 hS.1))]
    exact hS.2.1 q h1 h2
  · intro q hq
    rcases List.mem_append.mp hq with h | h
    · exact hS.2.2 q h
    · exact Nat.le_trans hS.1 (hLc q h)
/-- reading a cell of the method's entry on the road of a throw -/
theorem mg_old {B : Nat → Prop} {H : Heap} {locs : List Loc} {C0 : mg_Ct} (hW0 : mg_W D cl Z B ad C0 s.heap) (hS : va_S (mg_fr s.heap.size) s.heap H locs) {k i : Nat} {x : va_E} (he : C0 k i = some x) : va_P D cl [(ad k i, x)] H := fun j q hq => by
  cases j with
  | zero =>
    cases hq
    have hl := (hW0.1 k i _ he).lt
    exact (hW0.1 k i _ he).kept (hS.2.1 _ hl (Nat.not_le.mpr hl))
  | succ j => simp at hq
theorem mg_getO {B : Nat → Prop} {C0 : mg_Ct} (K : mg_K p m c cc nL s args Ts own D cl Z tys) (hW0 : mg_W D cl Z B ad C0 s.heap) {k i ci index f N : Nat} {fs : List Value} {v : Value} {Cn ref : String} {T : u_T} (hd : decode cc pc = .ok (.getfield index, 3)) (he : C0 k i = some (.inr (ci, fs))) (hc : cl[ci]? = some (Cn, T, N)) (hin : ∀ w ∈ u_ws Cn T N, w ∈ Ts) (hf : f < N) (hlink : Cond.fieldLink own index ref (T f).2.1 (T f).2.2.1 ∈ Ts) (hr : ref = (T f).1) (hv : fs[f]? = some v) (kk : mg_G p l e R s m args below meth c D cl Z (mg_fr s.heap.size) s.heap nL Q ad C L cells slots (v :: st) (pc + 3)) : mg_G p l e R s m args below meth c D cl Z (mg_fr s.heap.size) s.heap nL Q ad C L cells slots (va_rf (some (ad k i)) :: st) pc := by
  intro H locs ls hW hS hL
  subst hr
  exact va_get K.1.1 K.1.2.1 K.1.2.2.2.2 hin K.1.2.2.2.1 K.2.1 (mg_old hW0 hS he) 0 rfl hc f hf (K.1.2.2.2.2 _ hlink) (fun _ h => h) hv hd (kk H locs ls hW hS hL)
theorem mg_aaldO {B : Nat → Prop} {C0 : mg_Ct} (K : mg_K p m c cc nL s args Ts own D cl Z tys) (hW0 : mg_W D cl Z B ad C0 s.heap) {k i n : Nat} {cA : ClassId} {Cn : String} {f : Nat → Option Nat} {x : Int32} (t0 : Nat) (hd : decode cc pc = .ok (.aaload, 1)) (he : C0 k i = some (.inl (cA, n, .inr (.inr (.inr (.inr f)))))) (ht : tys[t0]? = some (cA, .object Cn)) (hin : vp_in x n) (kk : mg_G p l e R s m args below meth c D cl Z (mg_fr s.heap.size) s.heap nL Q ad C L cells slots (va_rf (f x.toNatClampNeg) :: st) (pc + 1)) : mg_G p l e R s m args below meth c D cl Z (mg_fr s.heap.size) s.heap nL Q ad C L cells slots (.int x :: va_rf (some (ad k i)) :: st) pc :=
  fun H locs ls hW hS hL => va_aldq K.1.1 K.1.2.1 K.2.1 (mg_old hW0 hS he) 0 t0 rfl ht hin hd (kk H locs ls hW hS hL)
end MT3
end
section
/-! the raw state: int fields and elements, long elements, references as (kind, index), how many there are of a kind; a kind's shape -/
abbrev mr_Sh : Type := (Nat × List Nat) ⊕ (Nat × Nat × Nat)
abbrev mr_St : Type := (Nat → Nat → Nat → Int32) × (Nat → Nat → Nat → Int64) × (Nat → Nat → Nat → Option (Nat × Nat)) × (Nat → Nat)
def mr_iv (r : mr_St) (k i f : Nat) : Int32 := r.1 k i f
def mr_lv (r : mr_St) (k i f : Nat) : Int64 := r.2.1 k i f
def mr_rv (r : mr_St) (k i f : Nat) : Option (Nat × Nat) := r.2.2.1 k i f
def mr_pn (r : mr_St) (k : Nat) : Nat := r.2.2.2 k
def mr_a (ad : mg_Ad) (x : Option (Nat × Nat)) : Option Nat := x.map (fun q => ad q.1 q.2)
def mr_F : List Nat → Nat → (Nat → Int32) → (Nat → Option Nat) → List Value
  | [], _, _, _ => []
  | t :: r, j, f, g => (if t = 1 then va_rf (g j) else .int (f j)) :: mr_F r (j + 1) f g
def mr_E (tys : List (ClassId × FieldType)) : mr_Sh → (Nat → Int32) → (Nat → Int64) → (Nat → Option Nat) → va_E
  | .inl (ci, fl), f, _, g => .inr (ci, mr_F fl 0 f g)
  | .inr (t0, n, 0), f, _, _ => .inl ((tys.getD t0 (0, .int)).1, n, .inl f)
  | .inr (t0, n, 1), _, h, _ => .inl ((tys.getD t0 (0, .int)).1, n, .inr (.inl h))
  | .inr (t0, n, _ + 2), _, _, g => .inl ((tys.getD t0 (0, .int)).1, n, .inr (.inr (.inr (.inr g))))
def mr_C (tys : List (ClassId × FieldType)) (sh : Nat → mr_Sh) (ad : mg_Ad) (r : mr_St) : mg_Ct := fun k i =>
  if i < mr_pn r k then some (mr_E tys (sh k) (mr_iv r k i) (mr_lv r k i) (fun j => mr_a ad (mr_rv r k i j))) else none
def mr_u3 {α : Type} (f : Nat → Nat → Nat → α) (k i j : Nat) (v : α) : Nat → Nat → Nat → α := fun a b c => if a = k ∧ b = i ∧ c = j then v else f a b c
theorem mr_u3_s {α : Type} (f : Nat → Nat → Nat → α) (k i j : Nat) (v : α) : mr_u3 f k i j v k i j = v := by simp [mr_u3]
theorem mr_u3_n {α : Type} (f : Nat → Nat → Nat → α) (k i j : Nat) (v : α) {a b c : Nat} (h : ¬ (a = k ∧ b = i ∧ c = j)) : mr_u3 f k i j v a b c = f a b c := if_neg h
def mr_sI (r : mr_St) (k i f : Nat) (v : Int32) : mr_St := (mr_u3 r.1 k i f v, r.2)
def mr_sL (r : mr_St) (k i f : Nat) (v : Int64) : mr_St := (r.1, mr_u3 r.2.1 k i f v, r.2.2)
def mr_sR (r : mr_St) (k i f : Nat) (v : Option (Nat × Nat)) : mr_St := (r.1, r.2.1, mr_u3 r.2.2.1 k i f v, r.2.2.2)
/-- one more of a kind, with its defaults -/
def mr_nw (r : mr_St) (k : Nat) : mr_St := (fun a b c => if a = k ∧ b = mr_pn r k then 0 else r.1 a b c, fun a b c => if a = k ∧ b = mr_pn r k then 0 else r.2.1 a b c, fun a b c => if a = k ∧ b = mr_pn r k then none else r.2.2.1 a b c, fun a => if a = k then mr_pn r k + 1 else r.2.2.2 a)
/-- references lead to what is there -/
def mr_wf (r : mr_St) : Prop := ∀ (k i f : Nat) (q : Nat × Nat), i < mr_pn r k → mr_rv r k i f = some q → q.2 < mr_pn r q.1
theorem mr_F_len : ∀ (fl : List Nat) (j : Nat) (f : Nat → Int32) (g : Nat → Option Nat), (mr_F fl j f g).length = fl.length
  | [], _, _, _ => rfl
  | t :: r, j, f, g => by simp [mr_F, mr_F_len r]
theorem mr_F_cg : ∀ (fl : List Nat) (j : Nat) (f f' : Nat → Int32) (g g' : Nat → Option Nat), (∀ x, j ≤ x → f x = f' x) → (∀ x, j ≤ x → g x = g' x) → mr_F fl j f g = mr_F fl j f' g'
  | [], _, _, _, _, _, _, _ => rfl
  | t :: r, j, f, f', g, g', h1, h2 => by
    simp only [mr_F]
    rw [h1 j (Nat.le_refl _), h2 j (Nat.le_refl _), mr_F_cg r (j + 1) f f' g g' (fun x hx => h1 x (by omega)) (fun x hx => h2 x (by omega))]
theorem mr_F_setI : ∀ (fl : List Nat) (j k : Nat) (f : Nat → Int32) (g : Nat → Option Nat) (v : Int32) (f' : Nat → Int32), fl[k]? = some 0 → f' (j + k) = v → (∀ x, x ≠ j + k → f' x = f x) → (mr_F fl j f g).set k (.int v) = mr_F fl j f' g
  | [], _, _, _, _, _, _, h, _, _ => by simp at h
  | t :: r, j, 0, f, g, v, f', h, h1, h2 => by
    simp at h
    subst h
    simp only [mr_F, List.set_cons_zero]
    rw [mr_F_cg r (j + 1) f f' g g (fun x hx => (h2 x (by omega)).symm) (fun _ _ => rfl)]
    rw [Nat.add_zero] at h1
    simp [h1]
  | t :: r, j, k + 1, f, g, v, f', h, h1, h2 => by
    simp at h
    simp only [mr_F, List.set_cons_succ]
    rw [h2 j (by omega), mr_F_setI r (j + 1) k f g v f' h (by rw [← h1]; congr 1; omega) (fun x hx => h2 x (by omega))]
theorem mr_F_setR : ∀ (fl : List Nat) (j k : Nat) (f : Nat → Int32) (g : Nat → Option Nat) (v : Option Nat) (g' : Nat → Option Nat), fl[k]? = some 1 → g' (j + k) = v → (∀ x, x ≠ j + k → g' x = g x) → (mr_F fl j f g).set k (va_rf v) = mr_F fl j f g'
  | [], _, _, _, _, _, _, h, _, _ => by simp at h
  | t :: r, j, 0, f, g, v, g', h, h1, h2 => by
    simp at h
    subst h
    simp only [mr_F, List.set_cons_zero]
    rw [mr_F_cg r (j + 1) f f g g' (fun _ _ => rfl) (fun x hx => (h2 x (by omega)).symm)]
    rw [Nat.add_zero] at h1
    simp [h1]
  | t :: r, j, k + 1, f, g, v, g', h, h1, h2 => by
    simp at h
    simp only [mr_F, List.set_cons_succ]
    rw [h2 j (by omega), mr_F_setR r (j + 1) k f g v g' h (by rw [← h1]; congr 1; omega) (fun x hx => h2 x (by omega))]
section MR1
variable {tys : List (ClassId × FieldType)} {sh : Nat → mr_Sh} {ad : mg_Ad} {r : mr_St} {k i f : Nat}
theorem mr_at (hi : i < mr_pn r k) : mr_C tys sh ad r k i = some (mr_E tys (sh k) (mr_iv r k i) (mr_lv r k i) (fun j => mr_a ad (mr_rv r k i j))) := if_pos hi
theorem mr_no (hi : ¬ i < mr_pn r k) : mr_C tys sh ad r k i = none := if_neg hi
theorem mr_obj {ci : Nat} {fl : List Nat} (hk : sh k = .inl (ci, fl)) (hi : i < mr_pn r k) : mr_C tys sh ad r k i = some (.inr (ci, mr_F fl 0 (mr_iv r k i) (fun j => mr_a ad (mr_rv r k i j)))) := by rw [mr_at hi, hk]; rfl
theorem mr_arI {t0 n : Nat} (hk : sh k = .inr (t0, n, 0)) (hi : i < mr_pn r k) : mr_C tys sh ad r k i = some (.inl ((tys.getD t0 (0, .int)).1, n, .inl (mr_iv r k i))) := by rw [mr_at hi, hk]; rfl
theorem mr_arL {t0 n : Nat} (hk : sh k = .inr (t0, n, 1)) (hi : i < mr_pn r k) : mr_C tys sh ad r k i = some (.inl ((tys.getD t0 (0, .int)).1, n, .inr (.inl (mr_lv r k i)))) := by rw [mr_at hi, hk]; rfl
theorem mr_arR {t0 n : Nat} (hk : sh k = .inr (t0, n, 2)) (hi : i < mr_pn r k) : mr_C tys sh ad r k i = some (.inl ((tys.getD t0 (0, .int)).1, n, .inr (.inr (.inr (.inr (fun j => mr_a ad (mr_rv r k i j))))))) := by rw [mr_at hi, hk]; rfl
theorem mr_tys {t0 : Nat} {ty : FieldType} (h : (tys[t0]?).map (·.2) = some ty) : tys[t0]? = some ((tys.getD t0 (0, .int)).1, ty) := by
  cases hq : tys[t0]? with
  | none => rw [hq] at h; cases h
  | some q =>
    rw [hq] at h
    obtain ⟨a, b⟩ := q
    cases h
    rw [List.getD_eq_getElem?_getD, hq]
    rfl
/-- a cell that is written: the world of the raw state that is written -/
theorem mr_upd {e : va_E} {r' : mr_St} (hi : i < mr_pn r k) (hp : mr_pn r' = mr_pn r) (he : e = mr_E tys (sh k) (mr_iv r' k i) (mr_lv r' k i) (fun j => mr_a ad (mr_rv r' k i j)))
    (ho : ∀ a b, ¬ (a = k ∧ b = i) → mr_iv r' a b = mr_iv r a b ∧ mr_lv r' a b = mr_lv r a b ∧ mr_rv r' a b = mr_rv r a b) : mg_u (mr_C tys sh ad r) k i (some e) = mr_C tys sh ad r' := by
  funext a b
  by_cases h : a = k ∧ b = i
  · obtain ⟨rfl, rfl⟩ := h
    rw [mg_u_s, mr_at (by rw [hp]; exact hi), he]
  · rw [mg_u_n _ _ _ _ h]
    obtain ⟨h1, h2, h3⟩ := ho a b h
    unfold mr_C
    rw [hp, h1, h2, h3]
theorem mr_setI {ci : Nat} {fl : List Nat} {v : Int32} (hk : sh k = .inl (ci, fl)) (hi : i < mr_pn r k) (hf : fl[f]? = some 0) : mg_u (mr_C tys sh ad r) k i (some (.inr (ci, (mr_F fl 0 (mr_iv r k i) (fun j => mr_a ad (mr_rv r k i j))).set f (.int v)))) = mr_C tys sh ad (mr_sI r k i f v) := by
  refine mr_upd hi rfl ?_ ?_
  · rw [hk]
    show _ = Sum.inr (ci, mr_F fl 0 _ _)
    rw [mr_F_setI fl 0 f (mr_iv r k i) (fun j => mr_a ad (mr_rv r k i j)) v (mr_iv (mr_sI r k i f v) k i) hf (by rw [Nat.zero_add]; exact mr_u3_s _ _ _ _ _) (fun x hx => mr_u3_n _ _ _ _ _ (fun h => hx (by rw [Nat.zero_add]; exact h.2.2)))]
    rfl
  · intro a b h
    exact ⟨funext fun x => mr_u3_n _ _ _ _ _ (fun z => h ⟨z.1, z.2.1⟩), rfl, rfl⟩
theorem mr_setR {ci : Nat} {fl : List Nat} {v : Option (Nat × Nat)} (hk : sh k = .inl (ci, fl)) (hi : i < mr_pn r k) (hf : fl[f]? = some 1) : mg_u (mr_C tys sh ad r) k i (some (.inr (ci, (mr_F fl 0 (mr_iv r k i) (fun j => mr_a ad (mr_rv r k i j))).set f (va_rf (mr_a ad v))))) = mr_C tys sh ad (mr_sR r k i f v) := by
  refine mr_upd hi rfl ?_ ?_
  · rw [hk]
    show _ = Sum.inr (ci, mr_F fl 0 _ _)
    rw [mr_F_setR fl 0 f (mr_iv r k i) (fun j => mr_a ad (mr_rv r k i j)) (mr_a ad v) (fun j => mr_a ad (mr_rv (mr_sR r k i f v) k i j)) hf (by rw [Nat.zero_add]; exact congrArg (mr_a ad) (mr_u3_s _ _ _ _ _)) (fun x hx => congrArg (mr_a ad) (mr_u3_n _ _ _ _ _ (fun h => hx (by rw [Nat.zero_add]; exact h.2.2))))]
    rfl
  · intro a b h
    exact ⟨rfl, rfl, funext fun x => mr_u3_n _ _ _ _ _ (fun z => h ⟨z.1, z.2.1⟩)⟩
theorem mr_staI {t0 n x : Nat} {v : Int32} (hk : sh k = .inr (t0, n, 0)) (hi : i < mr_pn r k) : mg_u (mr_C tys sh ad r) k i (some (.inl ((tys.getD t0 (0, .int)).1, n, .inl (upd (mr_iv r k i) x v)))) = mr_C tys sh ad (mr_sI r k i x v) := by
  refine mr_upd hi rfl ?_ ?_
  · rw [hk]
    show _ = Sum.inl (_, n, Sum.inl _)
    congr 4
    funext j
    by_cases hj : j = x
    · subst hj
      exact (by simp [upd] : upd (mr_iv r k i) j v j = v).trans (mr_u3_s _ _ _ _ _).symm
    · exact (by simp [upd, hj] : upd (mr_iv r k i) x v j = mr_iv r k i j).trans (mr_u3_n _ _ _ _ _ (fun h => hj h.2.2)).symm
  · intro a b h
    exact ⟨funext fun x => mr_u3_n _ _ _ _ _ (fun z => h ⟨z.1, z.2.1⟩), rfl, rfl⟩
theorem mr_staL {t0 n x : Nat} {v : Int64} (hk : sh k = .inr (t0, n, 1)) (hi : i < mr_pn r k) : mg_u (mr_C tys sh ad r) k i (some (.inl ((tys.getD t0 (0, .int)).1, n, .inr (.inl (vp_updL (mr_lv r k i) x v))))) = mr_C tys sh ad (mr_sL r k i x v) := by
  refine mr_upd hi rfl ?_ ?_
  · rw [hk]
    show _ = Sum.inl (_, n, Sum.inr (Sum.inl _))
    congr 5
    funext j
    by_cases hj : j = x
    · subst hj
      exact (by simp [vp_updL] : vp_updL (mr_lv r k i) j v j = v).trans (mr_u3_s _ _ _ _ _).symm
    · exact (by simp [vp_updL, hj] : vp_updL (mr_lv r k i) x v j = mr_lv r k i j).trans (mr_u3_n _ _ _ _ _ (fun h => hj h.2.2)).symm
  · intro a b h
    exact ⟨rfl, funext fun x => mr_u3_n _ _ _ _ _ (fun z => h ⟨z.1, z.2.1⟩), rfl⟩
theorem mr_staR {t0 n x : Nat} {v : Option (Nat × Nat)} (hk : sh k = .inr (t0, n, 2)) (hi : i < mr_pn r k) : mg_u (mr_C tys sh ad r) k i (some (.inl ((tys.getD t0 (0, .int)).1, n, .inr (.inr (.inr (.inr (va_up (fun j => mr_a ad (mr_rv r k i j)) x (mr_a ad v)))))))) = mr_C tys sh ad (mr_sR r k i x v) := by
  refine mr_upd hi rfl ?_ ?_
  · rw [hk]
    show _ = Sum.inl (_, n, Sum.inr (Sum.inr (Sum.inr (Sum.inr _))))
    congr 7
    funext j
    by_cases hj : j = x
    · subst hj
      exact (by simp [va_up] : va_up (fun j => mr_a ad (mr_rv r k i j)) j (mr_a ad v) j = mr_a ad v).trans (congrArg (mr_a ad) (mr_u3_s _ _ _ _ _)).symm
    · exact (by simp [va_up, hj] : va_up (fun j => mr_a ad (mr_rv r k i j)) x (mr_a ad v) j = mr_a ad (mr_rv r k i j)).trans (congrArg (mr_a ad) (mr_u3_n _ _ _ _ _ (fun h => hj h.2.2))).symm
  · intro a b h
    exact ⟨rfl, rfl, funext fun x => mr_u3_n _ _ _ _ _ (fun z => h ⟨z.1, z.2.1⟩)⟩
theorem mr_wf.a {ad' : mg_Ad} (h : mr_wf r) (ha : ∀ a b, b < mr_pn r a → ad' a b = ad a b) {a b c : Nat} (hb : b < mr_pn r a) : mr_a ad' (mr_rv r a b c) = mr_a ad (mr_rv r a b c) := by
  cases hq : mr_rv r a b c with
  | none => rfl
  | some q => exact congrArg some (ha _ _ (h a b c q hb hq))
/-- other addresses of what isn't there -/
theorem mr_adC {ad' : mg_Ad} (h : mr_wf r) (ha : ∀ a b, b < mr_pn r a → ad' a b = ad a b) : mr_C tys sh ad' r = mr_C tys sh ad r := by
  funext a b
  by_cases hb : b < mr_pn r a
  · rw [mr_at hb, mr_at hb]
    congr 2
    funext c
    exact h.a ha hb
  · rw [mr_no hb, mr_no hb]
/-- a cell that is made -/
theorem mr_made {q : Nat} {e : va_E} (h : mr_wf r) (he : e = mr_E tys (sh k) (fun _ => 0) (fun _ => 0) (fun _ => none)) : mg_u (mr_C tys sh ad r) k (mr_pn r k) (some e) = mr_C tys sh (mg_u ad k (mr_pn r k) q) (mr_nw r k) := by
  have ha : ∀ a b, b < mr_pn r a → mg_u ad k (mr_pn r k) q a b = ad a b := fun a b hb => mg_u_n _ _ _ _ (fun z => by obtain ⟨rfl, rfl⟩ := z; exact Nat.lt_irrefl _ hb)
  funext a b
  by_cases hab : a = k ∧ b = mr_pn r k
  · obtain ⟨rfl, rfl⟩ := hab
    have hp : mr_pn r a < mr_pn (mr_nw r a) a := by simp [mr_pn, mr_nw]
    rw [mg_u_s, mr_at hp, he]
    congr 2
    · funext c; simp [mr_iv, mr_nw]
    · funext c; simp [mr_lv, mr_nw]
    · funext c; simp [mr_rv, mr_nw, mr_a]
  · rw [mg_u_n _ _ _ _ hab]
    have hpe : (b < mr_pn (mr_nw r k) a) = (b < mr_pn r a) := by
      by_cases hak : a = k
      · subst hak
        have hb : b ≠ mr_pn r a := fun z => hab ⟨rfl, z⟩
        have : mr_pn (mr_nw r a) a = mr_pn r a + 1 := by simp [mr_pn, mr_nw]
        rw [this]
        exact propext ⟨fun _ => by omega, fun _ => by omega⟩
      · have : mr_pn (mr_nw r k) a = mr_pn r a := by simp [mr_pn, mr_nw, hak]
        rw [this]
    have hI : mr_iv (mr_nw r k) a b = mr_iv r a b := by funext c; simp only [mr_iv, mr_nw]; rw [if_neg hab]
    have hL : mr_lv (mr_nw r k) a b = mr_lv r a b := by funext c; simp only [mr_lv, mr_nw]; rw [if_neg hab]
    have hR : mr_rv (mr_nw r k) a b = mr_rv r a b := by funext c; simp only [mr_rv, mr_nw]; rw [if_neg hab]
    by_cases hb : b < mr_pn r a
    · rw [mr_at hb, mr_at (by rw [hpe]; exact hb), hI, hL, hR]
      congr 2
      funext c
      exact (h.a ha hb).symm
    · rw [mr_no hb, mr_no (by rw [hpe]; exact hb)]
theorem mr_nw_pn (r : mr_St) (k a : Nat) : mr_pn (mr_nw r k) a = if a = k then mr_pn r k + 1 else mr_pn r a := rfl
theorem mr_wf.nw (h : mr_wf r) (k : Nat) : mr_wf (mr_nw r k) := by
  intro a b c q hb hq
  rw [mr_nw_pn] at hb ⊢
  simp only [mr_rv, mr_nw] at hq
  by_cases hab : a = k ∧ b = mr_pn r k
  · rw [if_pos hab] at hq; cases hq
  · rw [if_neg hab] at hq
    have hb' : b < mr_pn r a := by
      by_cases hak : a = k
      · subst hak
        rw [if_pos rfl] at hb
        have : b ≠ mr_pn r a := fun z => hab ⟨rfl, z⟩
        omega
      · rwa [if_neg hak] at hb
    have := h a b c q hb' hq
    split
    · next he => rw [he] at this; omega
    · exact this
theorem mr_wf.sI (h : mr_wf r) (k i f : Nat) (v : Int32) : mr_wf (mr_sI r k i f v) := h
theorem mr_wf.sL (h : mr_wf r) (k i f : Nat) (v : Int64) : mr_wf (mr_sL r k i f v) := h
theorem mr_wf.sR (h : mr_wf r) (k i f : Nat) (v : Option (Nat × Nat)) (hv : ∀ q, v = some q → q.2 < mr_pn r q.1) : mr_wf (mr_sR r k i f v) := by
  intro a b c q hb hq
  by_cases hz : a = k ∧ b = i ∧ c = f
  · obtain ⟨rfl, rfl, rfl⟩ := hz
    exact hv q ((mr_u3_s _ _ _ _ _).symm.trans hq)
  · exact h a b c q hb ((mr_u3_n _ _ _ _ _ hz).symm.trans hq)
end MR1
end
section
/-! rows over the raw state -/
theorem mr_F_getI : ∀ (fl : List Nat) (j k t : Nat) (f : Nat → Int32) (g : Nat → Option Nat), fl[k]? = some t → t ≠ 1 → (mr_F fl j f g)[k]? = some (.int (f (j + k)))
  | [], _, _, _, _, _, h, _ => by simp at h
  | t :: r, j, 0, _, f, g, h, ht => by
    simp at h
    subst h
    simp [mr_F, ht]
  | t :: r, j, k + 1, u, f, g, h, ht => by
    simp at h
    simp only [mr_F, List.getElem?_cons_succ]
    rw [mr_F_getI r (j + 1) k u f g h ht]
    congr 3
    omega
theorem mr_F_getR : ∀ (fl : List Nat) (j k : Nat) (f : Nat → Int32) (g : Nat → Option Nat), fl[k]? = some 1 → (mr_F fl j f g)[k]? = some (va_rf (g (j + k)))
  | [], _, _, _, _, h => by simp at h
  | t :: r, j, 0, f, g, h => by
    simp at h
    subst h
    simp [mr_F]
  | t :: r, j, k + 1, f, g, h => by
    simp at h
    simp only [mr_F, List.getElem?_cons_succ]
    rw [mr_F_getR r (j + 1) k f g h]
    congr 3
    omega
/-- a field, as an instruction of the class own names it: of the kind k, in place f, t 0 an int, 1 a reference -/
def mr_Fd (B : List Cond) (cl : List vw_C) (sh : Nat → mr_Sh) (own : String) (index k f t : Nat) (ty : FieldType) (fin : Bool) : Prop :=
  ∃ (ci : Nat) (fl : List Nat) (Cn : String) (T : u_T) (N : Nat) (ty0 : Nat → FieldType), sh k = .inl (ci, fl) ∧ cl[ci]? = some (Cn, T, N) ∧ (∀ w ∈ u_ws Cn T N, w ∈ B) ∧ (∀ j, j < N → parseFieldDescriptor (T j).2.2.1 = some (ty0 j)) ∧
    (∀ a, a < N → ∀ b, b < N → a ≠ b → (T a).2.1 ≠ (T b).2.1) ∧ f < N ∧ Cond.fieldLink own index (T f).1 (T f).2.1 (T f).2.2.1 ∈ B ∧ fl[f]? = some t ∧ fl.length = N ∧ (T f).2.2.2 = fin ∧ (fin = true → (T f).1 = own) ∧ ty0 f = ty
/-- a class that an instruction of the class own makes -/
def mr_Nd (B : List Cond) (cl : List vw_C) (sh : Nat → mr_Sh) (own : String) (index k N : Nat) : Prop :=
  ∃ (ci : Nat) (fl : List Nat) (Cn : String) (T : u_T) (ty0 : Nat → FieldType), sh k = .inl (ci, fl) ∧ cl[ci]? = some (Cn, T, N) ∧ (∀ w ∈ u_ws Cn T N, w ∈ B) ∧ (∀ j, j < N → parseFieldDescriptor (T j).2.2.1 = some (ty0 j)) ∧
    Cond.classLink own index Cn ∈ B ∧ Cond.instantiable Cn N ∈ B ∧ Cond.initialized Cn ∈ B ∧ ∀ j, j < N → defaultValue (ty0 j) = vp_V (mr_F fl 0 (fun _ => 0) (fun _ => none)) j
section MR2
variable {p : Program} {l : Launch} {e : Env} {R : Room} {s : State} {m : MethodId} {args : Array Value} {below : List Frame} {meth : Method} {c : Code} {Q : State → Prop}
variable {D : va_G} {cl : List vw_C} {Z : Nat × Cell} {tys : List (ClassId × FieldType)} {A : Nat → Prop} {H0 : Heap} {nL : Nat} {cc : ByteArray} {Ts : List Cond} {own : String}
variable {ad : mg_Ad} {sh : Nat → mr_Sh} {r : mr_St} {L : List (Option Value)} {cells slots pc : Nat} {st : List Value}
theorem mr_getI (K : mg_K p m c cc nL s args Ts own D cl Z tys) {k i index f t : Nat} {ty : FieldType} {fin : Bool} {v : Int32} (hF : mr_Fd Ts cl sh own index k f t ty fin) (hd : decode cc pc = .ok (.getfield index, 3)) (ht : t ≠ 1) (hi : i < mr_pn r k) (hv : mr_iv r k i f = v) (kk : mg_G p l e R s m args below meth c D cl Z A H0 nL Q ad (mr_C tys sh ad r) L cells slots (.int v :: st) (pc + 3)) : mg_G p l e R s m args below meth c D cl Z A H0 nL Q ad (mr_C tys sh ad r) L cells slots (va_rf (some (ad k i)) :: st) pc := by
  obtain ⟨ci, fl, Cn, T, N, ty0, h1, h2, h3, h4, h5, h6, h7, h8, h9, h10, h11, h12⟩ := hF
  subst hv
  exact mg_get K hd (mr_obj h1 hi) h2 h3 h6 h7 rfl ((mr_F_getI fl 0 f t _ _ h8 ht).trans (by rw [Nat.zero_add])) kk
theorem mr_getR (K : mg_K p m c cc nL s args Ts own D cl Z tys) {k i index f : Nat} {ty : FieldType} {fin : Bool} {v : Option (Nat × Nat)} (hF : mr_Fd Ts cl sh own index k f 1 ty fin) (hd : decode cc pc = .ok (.getfield index, 3)) (hi : i < mr_pn r k) (hv : mr_rv r k i f = v) (kk : mg_G p l e R s m args below meth c D cl Z A H0 nL Q ad (mr_C tys sh ad r) L cells slots (va_rf (mr_a ad v) :: st) (pc + 3)) : mg_G p l e R s m args below meth c D cl Z A H0 nL Q ad (mr_C tys sh ad r) L cells slots (va_rf (some (ad k i)) :: st) pc := by
  obtain ⟨ci, fl, Cn, T, N, ty0, h1, h2, h3, h4, h5, h6, h7, h8, h9, h10, h11, h12⟩ := hF
  subst hv
  exact mg_get K hd (mr_obj h1 hi) h2 h3 h6 h7 rfl ((mr_F_getR fl 0 f _ _ h8).trans (by rw [Nat.zero_add])) kk
theorem mr_putI (K : mg_K p m c cc nL s args Ts own D cl Z tys) {k i index f : Nat} {v : Int32} (hF : mr_Fd Ts cl sh own index k f 0 .int false) (hd : decode cc pc = .ok (.putfield index, 3)) (hi : i < mr_pn r k) (kk : mg_G p l e R s m args below meth c D cl Z A H0 nL Q ad (mr_C tys sh ad (mr_sI r k i f v)) L cells slots st (pc + 3)) : mg_G p l e R s m args below meth c D cl Z A H0 nL Q ad (mr_C tys sh ad r) L cells slots (.int v :: va_rf (some (ad k i)) :: st) pc := by
  obtain ⟨ci, fl, Cn, T, N, ty0, h1, h2, h3, h4, h5, h6, h7, h8, h9, h10, h11, h12⟩ := hF
  exact mg_put K hd (mr_obj h1 hi) h2 h3 h4 h5 h6 h7 rfl h10 h12 rfl rfl (by rw [mr_F_len, h9]; exact h6) (mg_eqC (mr_setI h1 hi h8) kk)
theorem mr_putZ (K : mg_K p m c cc nL s args Ts own D cl Z tys) {k i index f : Nat} {v : Int32} (hF : mr_Fd Ts cl sh own index k f 0 .boolean false) (hd : decode cc pc = .ok (.putfield index, 3)) (hi : i < mr_pn r k) (hn : narrow .boolean (.int v) = .int v) (hfit : fits .boolean (.int v) = true) (kk : mg_G p l e R s m args below meth c D cl Z A H0 nL Q ad (mr_C tys sh ad (mr_sI r k i f v)) L cells slots st (pc + 3)) : mg_G p l e R s m args below meth c D cl Z A H0 nL Q ad (mr_C tys sh ad r) L cells slots (.int v :: va_rf (some (ad k i)) :: st) pc := by
  obtain ⟨ci, fl, Cn, T, N, ty0, h1, h2, h3, h4, h5, h6, h7, h8, h9, h10, h11, h12⟩ := hF
  exact mg_put K hd (mr_obj h1 hi) h2 h3 h4 h5 h6 h7 rfl h10 h12 hn hfit (by rw [mr_F_len, h9]; exact h6) (mg_eqC (mr_setI h1 hi h8) kk)
theorem mr_putR (K : mg_K p m c cc nL s args Ts own D cl Z tys) {k i index f : Nat} {ty : FieldType} {v : Option (Nat × Nat)} (hF : mr_Fd Ts cl sh own index k f 1 ty false) (hd : decode cc pc = .ok (.putfield index, 3)) (hi : i < mr_pn r k) (hty : ∀ x, narrow ty (va_rf x) = va_rf x ∧ fits ty (va_rf x) = true) (kk : mg_G p l e R s m args below meth c D cl Z A H0 nL Q ad (mr_C tys sh ad (mr_sR r k i f v)) L cells slots st (pc + 3)) : mg_G p l e R s m args below meth c D cl Z A H0 nL Q ad (mr_C tys sh ad r) L cells slots (va_rf (mr_a ad v) :: va_rf (some (ad k i)) :: st) pc := by
  obtain ⟨ci, fl, Cn, T, N, ty0, h1, h2, h3, h4, h5, h6, h7, h8, h9, h10, h11, h12⟩ := hF
  exact mg_put K hd (mr_obj h1 hi) h2 h3 h4 h5 h6 h7 rfl h10 h12 (hty _).1 (hty _).2 (by rw [mr_F_len, h9]; exact h6) (mg_eqC (mr_setR h1 hi h8) kk)
theorem mr_putFI (K : mg_K p m c cc nL s args Ts own D cl Z tys) {k i index f : Nat} {v : Int32} (hin2 : meth.name = "<init>") (hF : mr_Fd Ts cl sh own index k f 0 .int true) (hd : decode cc pc = .ok (.putfield index, 3)) (hi : i < mr_pn r k) (kk : mg_G p l e R s m args below meth c D cl Z A H0 nL Q ad (mr_C tys sh ad (mr_sI r k i f v)) L cells slots st (pc + 3)) : mg_G p l e R s m args below meth c D cl Z A H0 nL Q ad (mr_C tys sh ad r) L cells slots (.int v :: va_rf (some (ad k i)) :: st) pc := by
  obtain ⟨ci, fl, Cn, T, N, ty0, h1, h2, h3, h4, h5, h6, h7, h8, h9, h10, h11, h12⟩ := hF
  exact mg_putF K hin2 hd (mr_obj h1 hi) h2 h3 h4 h5 h6 h7 rfl h10 (h11 rfl) h12 rfl rfl (by rw [mr_F_len, h9]; exact h6) (mg_eqC (mr_setI h1 hi h8) kk)
theorem mr_putFR (K : mg_K p m c cc nL s args Ts own D cl Z tys) {k i index f : Nat} {ty : FieldType} {v : Option (Nat × Nat)} (hin2 : meth.name = "<init>") (hF : mr_Fd Ts cl sh own index k f 1 ty true) (hd : decode cc pc = .ok (.putfield index, 3)) (hi : i < mr_pn r k) (hty : ∀ x, narrow ty (va_rf x) = va_rf x ∧ fits ty (va_rf x) = true) (kk : mg_G p l e R s m args below meth c D cl Z A H0 nL Q ad (mr_C tys sh ad (mr_sR r k i f v)) L cells slots st (pc + 3)) : mg_G p l e R s m args below meth c D cl Z A H0 nL Q ad (mr_C tys sh ad r) L cells slots (va_rf (mr_a ad v) :: va_rf (some (ad k i)) :: st) pc := by
  obtain ⟨ci, fl, Cn, T, N, ty0, h1, h2, h3, h4, h5, h6, h7, h8, h9, h10, h11, h12⟩ := hF
  exact mg_putF K hin2 hd (mr_obj h1 hi) h2 h3 h4 h5 h6 h7 rfl h10 (h11 rfl) h12 (hty _).1 (hty _).2 (by rw [mr_F_len, h9]; exact h6) (mg_eqC (mr_setR h1 hi h8) kk)
theorem mr_iald (K : mg_K p m c cc nL s args Ts own D cl Z tys) {k i n t0 : Nat} {x v : Int32} (hk : sh k = .inr (t0, n, 0)) (ht : (tys[t0]?).map (·.2) = some .int) (hd : decode cc pc = .ok (.iaload, 1)) (hi : i < mr_pn r k) (hin : vp_in x n) (hv : mr_iv r k i x.toNatClampNeg = v) (kk : mg_G p l e R s m args below meth c D cl Z A H0 nL Q ad (mr_C tys sh ad r) L cells slots (.int v :: st) (pc + 1)) : mg_G p l e R s m args below meth c D cl Z A H0 nL Q ad (mr_C tys sh ad r) L cells slots (.int x :: va_rf (some (ad k i)) :: st) pc := by
  subst hv
  exact mg_iald K t0 hd (mr_arI hk hi) (mr_tys ht) hin kk
theorem mr_zald (K : mg_K p m c cc nL s args Ts own D cl Z tys) {k i n t0 : Nat} {x v : Int32} (hk : sh k = .inr (t0, n, 0)) (ht : (tys[t0]?).map (·.2) = some .boolean) (hd : decode cc pc = .ok (.baload, 1)) (hi : i < mr_pn r k) (hin : vp_in x n) (hv : mr_iv r k i x.toNatClampNeg = v) (kk : mg_G p l e R s m args below meth c D cl Z A H0 nL Q ad (mr_C tys sh ad r) L cells slots (.int v :: st) (pc + 1)) : mg_G p l e R s m args below meth c D cl Z A H0 nL Q ad (mr_C tys sh ad r) L cells slots (.int x :: va_rf (some (ad k i)) :: st) pc := by
  subst hv
  exact mg_zald K t0 hd (mr_arI hk hi) (mr_tys ht) hin kk
theorem mr_lald (K : mg_K p m c cc nL s args Ts own D cl Z tys) {k i n t0 : Nat} {x : Int32} (hk : sh k = .inr (t0, n, 1)) (ht : (tys[t0]?).map (·.2) = some .long) (hd : decode cc pc = .ok (.laload, 1)) (hi : i < mr_pn r k) (hin : vp_in x n) (kk : mg_G p l e R s m args below meth c D cl Z A H0 nL Q ad (mr_C tys sh ad r) L cells slots (.long (mr_lv r k i x.toNatClampNeg) :: st) (pc + 1)) : mg_G p l e R s m args below meth c D cl Z A H0 nL Q ad (mr_C tys sh ad r) L cells slots (.int x :: va_rf (some (ad k i)) :: st) pc :=
  mg_lald K t0 hd (mr_arL hk hi) (mr_tys ht) hin kk
theorem mr_aald (K : mg_K p m c cc nL s args Ts own D cl Z tys) {k i n t0 : Nat} {Cn : String} {x : Int32} {v : Option (Nat × Nat)} (hk : sh k = .inr (t0, n, 2)) (ht : (tys[t0]?).map (·.2) = some (.object Cn)) (hd : decode cc pc = .ok (.aaload, 1)) (hi : i < mr_pn r k) (hin : vp_in x n) (hv : mr_rv r k i x.toNatClampNeg = v) (kk : mg_G p l e R s m args below meth c D cl Z A H0 nL Q ad (mr_C tys sh ad r) L cells slots (va_rf (mr_a ad v) :: st) (pc + 1)) : mg_G p l e R s m args below meth c D cl Z A H0 nL Q ad (mr_C tys sh ad r) L cells slots (.int x :: va_rf (some (ad k i)) :: st) pc := by
  subst hv
  exact mg_aald K t0 hd (mr_arR hk hi) (mr_tys ht) hin kk
theorem mr_alenI (K : mg_K p m c cc nL s args Ts own D cl Z tys) {k i n t0 : Nat} {ty : FieldType} {v : Int32} (hk : sh k = .inr (t0, n, 0)) (ht : (tys[t0]?).map (·.2) = some ty) (hd : decode cc pc = .ok (.arraylength, 1)) (hi : i < mr_pn r k) (hv : Int32.ofNat n = v) (kk : mg_G p l e R s m args below meth c D cl Z A H0 nL Q ad (mr_C tys sh ad r) L cells slots (.int v :: st) (pc + 1)) : mg_G p l e R s m args below meth c D cl Z A H0 nL Q ad (mr_C tys sh ad r) L cells slots (va_rf (some (ad k i)) :: st) pc :=
  mg_alen K t0 hd (mr_arI hk hi) (mr_tys ht) hv kk
theorem mr_alenR (K : mg_K p m c cc nL s args Ts own D cl Z tys) {k i n t0 : Nat} {ty : FieldType} {v : Int32} (hk : sh k = .inr (t0, n, 2)) (ht : (tys[t0]?).map (·.2) = some ty) (hd : decode cc pc = .ok (.arraylength, 1)) (hi : i < mr_pn r k) (hv : Int32.ofNat n = v) (kk : mg_G p l e R s m args below meth c D cl Z A H0 nL Q ad (mr_C tys sh ad r) L cells slots (.int v :: st) (pc + 1)) : mg_G p l e R s m args below meth c D cl Z A H0 nL Q ad (mr_C tys sh ad r) L cells slots (va_rf (some (ad k i)) :: st) pc :=
  mg_alen K t0 hd (mr_arR hk hi) (mr_tys ht) hv kk
theorem mr_iast (K : mg_K p m c cc nL s args Ts own D cl Z tys) {k i n t0 : Nat} {x y : Int32} (hk : sh k = .inr (t0, n, 0)) (ht : (tys[t0]?).map (·.2) = some .int) (hd : decode cc pc = .ok (.iastore, 1)) (hi : i < mr_pn r k) (hin : vp_in x n) (kk : mg_G p l e R s m args below meth c D cl Z A H0 nL Q ad (mr_C tys sh ad (mr_sI r k i x.toNatClampNeg y)) L cells slots st (pc + 1)) : mg_G p l e R s m args below meth c D cl Z A H0 nL Q ad (mr_C tys sh ad r) L cells slots (.int y :: .int x :: va_rf (some (ad k i)) :: st) pc :=
  mg_iast K t0 hd (mr_arI hk hi) (mr_tys ht) hin (mg_eqC (mr_staI hk hi) kk)
theorem mr_zast (K : mg_K p m c cc nL s args Ts own D cl Z tys) {k i n t0 : Nat} {x y v : Int32} (hk : sh k = .inr (t0, n, 0)) (ht : (tys[t0]?).map (·.2) = some .boolean) (hd : decode cc pc = .ok (.bastore, 1)) (hi : i < mr_pn r k) (hin : vp_in x n) (hv : vp_nar .boolean y = v) (kk : mg_G p l e R s m args below meth c D cl Z A H0 nL Q ad (mr_C tys sh ad (mr_sI r k i x.toNatClampNeg v)) L cells slots st (pc + 1)) : mg_G p l e R s m args below meth c D cl Z A H0 nL Q ad (mr_C tys sh ad r) L cells slots (.int y :: .int x :: va_rf (some (ad k i)) :: st) pc := by
  subst hv
  exact mg_zast K t0 hd (mr_arI hk hi) (mr_tys ht) hin (mg_eqC (mr_staI hk hi) kk)
theorem mr_last (K : mg_K p m c cc nL s args Ts own D cl Z tys) {k i n t0 : Nat} {x : Int32} {y : Int64} (hk : sh k = .inr (t0, n, 1)) (ht : (tys[t0]?).map (·.2) = some .long) (hd : decode cc pc = .ok (.lastore, 1)) (hi : i < mr_pn r k) (hin : vp_in x n) (kk : mg_G p l e R s m args below meth c D cl Z A H0 nL Q ad (mr_C tys sh ad (mr_sL r k i x.toNatClampNeg y)) L cells slots st (pc + 1)) : mg_G p l e R s m args below meth c D cl Z A H0 nL Q ad (mr_C tys sh ad r) L cells slots (.long y :: .int x :: va_rf (some (ad k i)) :: st) pc :=
  mg_last K t0 hd (mr_arL hk hi) (mr_tys ht) hin (mg_eqC (mr_staL hk hi) kk)
theorem mr_aast (K : mg_K p m c cc nL s args Ts own D cl Z tys) {k i n t0 k2 i2 ci N : Nat} {fl : List Nat} {Cn : String} {T : u_T} {x : Int32} (hk : sh k = .inr (t0, n, 2)) (ht : (tys[t0]?).map (·.2) = some (.object Cn)) (hk2 : sh k2 = .inl (ci, fl)) (hc : cl[ci]? = some (Cn, T, N)) (hd : decode cc pc = .ok (.aastore, 1)) (hi : i < mr_pn r k) (hi2 : i2 < mr_pn r k2) (hin : vp_in x n) (kk : mg_G p l e R s m args below meth c D cl Z A H0 nL Q ad (mr_C tys sh ad (mr_sR r k i x.toNatClampNeg (some (k2, i2)))) L cells slots st (pc + 1)) : mg_G p l e R s m args below meth c D cl Z A H0 nL Q ad (mr_C tys sh ad r) L cells slots (va_rf (some (ad k2 i2)) :: .int x :: va_rf (some (ad k i)) :: st) pc :=
  mg_aast K t0 hd (mr_arR hk hi) (mr_tys ht) (mr_obj hk2 hi2) hc hin (mg_eqC (mr_staR (v := some (k2, i2)) hk hi) kk)
theorem mr_aastN (K : mg_K p m c cc nL s args Ts own D cl Z tys) {k i n t0 : Nat} {Cn : String} {x : Int32} (hk : sh k = .inr (t0, n, 2)) (ht : (tys[t0]?).map (·.2) = some (.object Cn)) (hd : decode cc pc = .ok (.aastore, 1)) (hi : i < mr_pn r k) (hin : vp_in x n) (kk : mg_G p l e R s m args below meth c D cl Z A H0 nL Q ad (mr_C tys sh ad (mr_sR r k i x.toNatClampNeg none)) L cells slots st (pc + 1)) : mg_G p l e R s m args below meth c D cl Z A H0 nL Q ad (mr_C tys sh ad r) L cells slots (va_rf none :: .int x :: va_rf (some (ad k i)) :: st) pc :=
  mg_aastN K t0 hd (mr_arR hk hi) (mr_tys ht) hin (mg_eqC (mr_staR (v := none) hk hi) kk)
theorem mr_new (K : mg_K p m c cc nL s args Ts own D cl Z tys) {index N : Nat} (k : Nat) (hA : ∀ q, H0.size ≤ q → A q) (hwf : mr_wf r) (hN : mr_Nd Ts cl sh own index k N) (hd : decode cc pc = .ok (.new index, 3)) (hcells : cells + 1 ≤ R.cells) (hslots : slots + N ≤ R.slots) (kk : ∀ ad' : mg_Ad, (∀ a b, b < mr_pn r a → ad' a b = ad a b) → mg_G p l e R s m args below meth c D cl Z A H0 nL Q ad' (mr_C tys sh ad' (mr_nw r k)) L (cells + 1) (slots + N) (va_rf (some (ad' k (mr_pn r k))) :: st) (pc + 3)) : mg_G p l e R s m args below meth c D cl Z A H0 nL Q ad (mr_C tys sh ad r) L cells slots st pc := by
  obtain ⟨ci, fl, Cn, T, ty0, h1, h2, h3, h4, h5, h6, h7, h8⟩ := hN
  refine mg_new K k (mr_pn r k) hA hd (mr_no (Nat.lt_irrefl _)) h2 h3 h4 h5 h6 h7 h8 hcells hslots fun q => ?_
  have k2 := kk (mg_u ad k (mr_pn r k) q) (fun a b hb => mg_u_n _ _ _ _ (fun z => by obtain ⟨rfl, rfl⟩ := z; exact Nat.lt_irrefl _ hb))
  rw [mg_u_s] at k2
  exact mg_eqC (mr_made hwf (by rw [h1]; rfl)) k2
theorem mr_newI (K : mg_K p m c cc nL s args Ts own D cl Z tys) {n : Int32} {N' t0 : Nat} {ty : FieldType} {atype : ArrayType} (k : Nat) (hA : ∀ q, H0.size ≤ q → A q) (hwf : mr_wf r) (hk : sh k = .inr (t0, N', 0)) (ht : (tys[t0]?).map (·.2) = some ty) (hd : decode cc pc = .ok (.newarray atype, 2)) (harr : Cond.arrayClass (newarray.typeOf atype) ∈ Ts) (hty : newarray.typeOf atype = ty) (hdf : defaultValue ty = .int 0) (hn : ¬ n < 0) (hN : n.toNatClampNeg = N') (hbytes : N' * componentBytes ty ≤ 536870912) (hcells : cells + 1 ≤ R.cells) (hslots : slots + N' ≤ R.slots) (kk : ∀ ad' : mg_Ad, (∀ a b, b < mr_pn r a → ad' a b = ad a b) → mg_G p l e R s m args below meth c D cl Z A H0 nL Q ad' (mr_C tys sh ad' (mr_nw r k)) L (cells + 1) (slots + N') (va_rf (some (ad' k (mr_pn r k))) :: st) (pc + 2)) : mg_G p l e R s m args below meth c D cl Z A H0 nL Q ad (mr_C tys sh ad r) L cells slots (.int n :: st) pc := by
  refine mg_newa (a0 := (N', .inl (fun _ => 0))) K k (mr_pn r k) t0 hA hd (mr_no (Nat.lt_irrefl _)) harr hty (mr_tys ht) (by rw [vp_cell_i, hdf]) hn hN hbytes hcells hslots fun q => ?_
  have k2 := kk (mg_u ad k (mr_pn r k) q) (fun a b hb => mg_u_n _ _ _ _ (fun z => by obtain ⟨rfl, rfl⟩ := z; exact Nat.lt_irrefl _ hb))
  rw [mg_u_s] at k2
  exact mg_eqC (mr_made hwf (by rw [hk]; rfl)) k2
theorem mr_newL (K : mg_K p m c cc nL s args Ts own D cl Z tys) {n : Int32} {N' t0 : Nat} {atype : ArrayType} (k : Nat) (hA : ∀ q, H0.size ≤ q → A q) (hwf : mr_wf r) (hk : sh k = .inr (t0, N', 1)) (ht : (tys[t0]?).map (·.2) = some .long) (hd : decode cc pc = .ok (.newarray atype, 2)) (harr : Cond.arrayClass (newarray.typeOf atype) ∈ Ts) (hty : newarray.typeOf atype = .long) (hn : ¬ n < 0) (hN : n.toNatClampNeg = N') (hbytes : N' * componentBytes .long ≤ 536870912) (hcells : cells + 1 ≤ R.cells) (hslots : slots + N' ≤ R.slots) (kk : ∀ ad' : mg_Ad, (∀ a b, b < mr_pn r a → ad' a b = ad a b) → mg_G p l e R s m args below meth c D cl Z A H0 nL Q ad' (mr_C tys sh ad' (mr_nw r k)) L (cells + 1) (slots + N') (va_rf (some (ad' k (mr_pn r k))) :: st) (pc + 2)) : mg_G p l e R s m args below meth c D cl Z A H0 nL Q ad (mr_C tys sh ad r) L cells slots (.int n :: st) pc := by
  refine mg_newa (a0 := (N', .inr (.inl (fun _ => 0)))) K k (mr_pn r k) t0 hA hd (mr_no (Nat.lt_irrefl _)) harr hty (mr_tys ht) (by rw [vp_cell_l]; rfl) hn hN hbytes hcells hslots fun q => ?_
  have k2 := kk (mg_u ad k (mr_pn r k) q) (fun a b hb => mg_u_n _ _ _ _ (fun z => by obtain ⟨rfl, rfl⟩ := z; exact Nat.lt_irrefl _ hb))
  rw [mg_u_s] at k2
  exact mg_eqC (mr_made hwf (by rw [hk]; rfl)) k2
theorem mr_newR (K : mg_K p m c cc nL s args Ts own D cl Z tys) {n : Int32} {N' t0 index : Nat} {Cn : String} (k : Nat) (hA : ∀ q, H0.size ≤ q → A q) (hwf : mr_wf r) (hk : sh k = .inr (t0, N', 2)) (ht : (tys[t0]?).map (·.2) = some (.object Cn)) (hd : decode cc pc = .ok (.anewarray index, 3)) (hcl : Cond.classLink own index Cn ∈ Ts) (hov : Cond.arrayOver (.object Cn) ∈ Ts) (hn : ¬ n < 0) (hN : n.toNatClampNeg = N') (hbytes : N' * 4 ≤ 536870912) (hcells : cells + 1 ≤ R.cells) (hslots : slots + N' ≤ R.slots) (kk : ∀ ad' : mg_Ad, (∀ a b, b < mr_pn r a → ad' a b = ad a b) → mg_G p l e R s m args below meth c D cl Z A H0 nL Q ad' (mr_C tys sh ad' (mr_nw r k)) L (cells + 1) (slots + N') (va_rf (some (ad' k (mr_pn r k))) :: st) (pc + 3)) : mg_G p l e R s m args below meth c D cl Z A H0 nL Q ad (mr_C tys sh ad r) L cells slots (.int n :: st) pc := by
  refine mg_newq K k (mr_pn r k) t0 hA hd (mr_no (Nat.lt_irrefl _)) hcl hov (mr_tys ht) hn hN hbytes hcells hslots fun q => ?_
  have k2 := kk (mg_u ad k (mr_pn r k) q) (fun a b hb => mg_u_n _ _ _ _ (fun z => by obtain ⟨rfl, rfl⟩ := z; exact Nat.lt_irrefl _ hb))
  rw [mg_u_s] at k2
  exact mg_eqC (mr_made hwf (by rw [hk]; rfl)) k2
theorem mr_getS (K : mg_K p m c cc nL s args Ts own D cl Z tys) {k i index f k2 i2 : Nat} {ty : FieldType} {fin : Bool} (hF : mr_Fd Ts cl sh own index k f 1 ty fin) (hd : decode cc pc = .ok (.getfield index, 3)) (hi : i < mr_pn r k) (hv : mr_rv r k i f = some (k2, i2)) (kk : mg_G p l e R s m args below meth c D cl Z A H0 nL Q ad (mr_C tys sh ad r) L cells slots (va_rf (some (ad k2 i2)) :: st) (pc + 3)) : mg_G p l e R s m args below meth c D cl Z A H0 nL Q ad (mr_C tys sh ad r) L cells slots (va_rf (some (ad k i)) :: st) pc := mr_getR K hF hd hi hv kk
theorem mr_getN (K : mg_K p m c cc nL s args Ts own D cl Z tys) {k i index f : Nat} {ty : FieldType} {fin : Bool} (hF : mr_Fd Ts cl sh own index k f 1 ty fin) (hd : decode cc pc = .ok (.getfield index, 3)) (hi : i < mr_pn r k) (hv : mr_rv r k i f = none) (kk : mg_G p l e R s m args below meth c D cl Z A H0 nL Q ad (mr_C tys sh ad r) L cells slots (va_rf none :: st) (pc + 3)) : mg_G p l e R s m args below meth c D cl Z A H0 nL Q ad (mr_C tys sh ad r) L cells slots (va_rf (some (ad k i)) :: st) pc := mr_getR K hF hd hi hv kk
theorem mr_putS (K : mg_K p m c cc nL s args Ts own D cl Z tys) {k i index f k2 i2 : Nat} {ty : FieldType} (hF : mr_Fd Ts cl sh own index k f 1 ty false) (hd : decode cc pc = .ok (.putfield index, 3)) (hi : i < mr_pn r k) (hty : ∀ x, narrow ty (va_rf x) = va_rf x ∧ fits ty (va_rf x) = true) (kk : mg_G p l e R s m args below meth c D cl Z A H0 nL Q ad (mr_C tys sh ad (mr_sR r k i f (some (k2, i2)))) L cells slots st (pc + 3)) : mg_G p l e R s m args below meth c D cl Z A H0 nL Q ad (mr_C tys sh ad r) L cells slots (va_rf (some (ad k2 i2)) :: va_rf (some (ad k i)) :: st) pc := mr_putR (v := some (k2, i2)) K hF hd hi hty kk
theorem mr_putFS (K : mg_K p m c cc nL s args Ts own D cl Z tys) {k i index f k2 i2 : Nat} {ty : FieldType} (hin2 : meth.name = "<init>") (hF : mr_Fd Ts cl sh own index k f 1 ty true) (hd : decode cc pc = .ok (.putfield index, 3)) (hi : i < mr_pn r k) (hty : ∀ x, narrow ty (va_rf x) = va_rf x ∧ fits ty (va_rf x) = true) (kk : mg_G p l e R s m args below meth c D cl Z A H0 nL Q ad (mr_C tys sh ad (mr_sR r k i f (some (k2, i2)))) L cells slots st (pc + 3)) : mg_G p l e R s m args below meth c D cl Z A H0 nL Q ad (mr_C tys sh ad r) L cells slots (va_rf (some (ad k2 i2)) :: va_rf (some (ad k i)) :: st) pc := mr_putFR (v := some (k2, i2)) K hin2 hF hd hi hty kk
theorem mr_aaldS (K : mg_K p m c cc nL s args Ts own D cl Z tys) {k i n t0 k2 i2 : Nat} {Cn : String} {x : Int32} (hk : sh k = .inr (t0, n, 2)) (ht : (tys[t0]?).map (·.2) = some (.object Cn)) (hd : decode cc pc = .ok (.aaload, 1)) (hi : i < mr_pn r k) (hin : vp_in x n) (hv : mr_rv r k i x.toNatClampNeg = some (k2, i2)) (kk : mg_G p l e R s m args below meth c D cl Z A H0 nL Q ad (mr_C tys sh ad r) L cells slots (va_rf (some (ad k2 i2)) :: st) (pc + 1)) : mg_G p l e R s m args below meth c D cl Z A H0 nL Q ad (mr_C tys sh ad r) L cells slots (.int x :: va_rf (some (ad k i)) :: st) pc := mr_aald K hk ht hd hi hin hv kk
theorem mr_aaldN (K : mg_K p m c cc nL s args Ts own D cl Z tys) {k i n t0 : Nat} {Cn : String} {x : Int32} (hk : sh k = .inr (t0, n, 2)) (ht : (tys[t0]?).map (·.2) = some (.object Cn)) (hd : decode cc pc = .ok (.aaload, 1)) (hi : i < mr_pn r k) (hin : vp_in x n) (hv : mr_rv r k i x.toNatClampNeg = none) (kk : mg_G p l e R s m args below meth c D cl Z A H0 nL Q ad (mr_C tys sh ad r) L cells slots (va_rf none :: st) (pc + 1)) : mg_G p l e R s m args below meth c D cl Z A H0 nL Q ad (mr_C tys sh ad r) L cells slots (.int x :: va_rf (some (ad k i)) :: st) pc := mr_aald K hk ht hd hi hin hv kk
theorem mr_eqr {r' : mr_St} (h : r = r') (kk : mg_G p l e R s m args below meth c D cl Z A H0 nL Q ad (mr_C tys sh ad r') L cells slots st pc) : mg_G p l e R s m args below meth c D cl Z A H0 nL Q ad (mr_C tys sh ad r) L cells slots st pc := h ▸ kk
theorem mg_eqL {C : mg_Ct} {L' : List (Option Value)} (h : L = L') (kk : mg_G p l e R s m args below meth c D cl Z A H0 nL Q ad C L' cells slots st pc) : mg_G p l e R s m args below meth c D cl Z A H0 nL Q ad C L cells slots st pc := h ▸ kk
end MR2
end
section
/-! a catch whose class is named by a link, cold or warm -/
def mg_Fi (e : Env) (s : State) (f : JFrame) (a : Addr) (pc : Nat) (v : Vm) : Prop := ∀ (Q : Handler → Pre) (E : CtlPost) (d : Bool) (acts : List Action), wp (findHandler f a) Q E e d acts s ↔ Q (.found pc) d acts (s.setVm v)
theorem mg_Fi.one {e : Env} {s : State} {f : JFrame} {a : Addr} {meth : Method} {code : Code} {x : ExceptionTableEntry} {k : ClassId} {cell : Cell} (hm : s.vm.method? f.method = some meth) (hc : meth.code = some code) (h1 : code.exceptionTable.toList = [x]) (hx : covers x f.pc = true) (h0 : x.catchType ≠ 0)
    (hl : s.vm.ClassLinks e.platform f.method.cls x.catchType k) (hcell : s.heap[a]? = some cell) (hobj : ∀ j, cell.vm ≠ .statics j) (hA : ∃ j, s.vm.classes[cell.cls]? = some j) (hB : ∃ j, s.vm.classes[k]? = some j) (hfit : s.vm.assignable cell.cls k = true) :
    mg_Fi e s f a x.handlerPc (s.vm.noted f.method.cls x.catchType (.cls k)) := by
  intro Q E d acts
  rw [W.findHandler_eq hm hc, h1]
  simp only [covers] at hx
  obtain ⟨ha, ht⟩ := (resolveClass_links e.toSetting hl).op (op := VmOp.resolveClass f.method.cls x.catchType) rfl
  have hal : s.vm.Alike (s.vm.noted f.method.cls x.catchType (.cls k)) := (Vm.Alike.refl s.vm).noted _ _ _
  obtain ⟨a1, ha1⟩ := hA
  obtain ⟨b1, hb1⟩ := hB
  obtain ⟨a2, ha2, -⟩ := hal.2.2 _ _ ha1
  obtain ⟨b2, hb2, -⟩ := hal.2.2 _ _ hb1
  have hf2 : (s.vm.noted f.method.cls x.catchType (.cls k)).assignable cell.cls k = true := by rw [hal.assignable]; exact hfit
  simp [findHandler.go, hx, h0, ha, ht, hcell, hobj, ha2, hb2, hf2, VmOp.dirties, VmOp.acts]
theorem mg_Fi.step {e : Env} {s : State} {f : JFrame} {a : Addr} {pc : Nat} {v : Vm} (h : mg_Fi e s f a pc v) (r : List Frame) : (stepThrowing e s a (.java f :: r)).Is ((s.setVm v).setFrames (.java { f with pc := pc, stack := [.ref a] } :: r)) [] := by
  simp only [stepThrowing, searchFrame, vmDo]
  generalize hr : Sem.go _ e false [] s = res
  obtain ⟨as, rfl, ha⟩ := Sem.eq_ok_of hr (a := Handler.found pc) (s' := s.setVm v) (acts' := []) (by simp [h _ _ _ _])
  exact ⟨rfl, ha⟩
theorem mg_Fi.goes {tb : Tables} {e : Env} {s target : State} {g : JFrame} {c : Code} {below : List Frame} {a : Addr} (h : At s g.method c below) {pc : Nat} {v : Vm} (hf : mg_Fi e ((s.setTop g).pushFrame (.throwing a)) g a pc v) (hrest : Steps tb e below ((s.setVm v).setTop { g with pc := pc, stack := [.ref a] }) target) :
    Steps tb e below ((s.setTop g).pushFrame (.throwing a)) target := by
  obtain ⟨hgo, hw⟩ := h.throwing a
  refine Steps.head hgo hw ?_
  rw [stepThread_throwing (frames_entered h.top _), (hf.step _).1]
  obtain ⟨g₀, hg⟩ := Option.isSome_iff_exists.mp h.top
  obtain ⟨r, hr⟩ := State.topJava?_eq_some.mp hg
  have hr' : (s.setVm v).frames = .java g₀ :: r := hr
  have key : ∀ (u : State) (F G : List Frame), ((u.setFrames F).setVm v).setFrames G = (u.setVm v).setFrames G := fun u F G => by
    have h1 : (u.setFrames F).setVm v = (u.setVm v).setFrames F := rfl
    rw [h1, State.setFrames_setFrames]
  rw [State.setTop_of_frames _ hr'] at hrest
  rw [hr, List.tail_cons, State.pushFrame, key, State.setTop_of_frames _ hr, key]
  exact hrest
theorem mg_caught {p : Program} {l : Launch} {e : Env} {R : Room} {s : State} {m : MethodId} {args : Array Value} {below : List Frame} {meth : Method} {c : Code} {T : State} {locs : List Loc} {cells slots : Nat} (X : Stand p l e R s m args below meth c T locs cells slots) {a : Addr} {g : JFrame} (hg : g.method = m) {own nm : String} (hown : s.vm.findClass own = some m.cls) {x : ExceptionTableEntry}
    (h1 : c.exceptionTable.toList = [x]) (hx : covers x g.pc = true) (h0 : x.catchType ≠ 0) (hlink : (Cond.classLink own x.catchType nm).before args s = true) {k : ClassId} {cell : Cell} (hk : s.vm.findClass nm = some k) (hcell : T.heap[a]? = some cell) (hobj : cell.vm.isStatics = false) (hfit : s.vm.assignable cell.cls k = true) :
    ∃ v, Stand p l e R s m args below meth c (T.setVm v) locs cells slots ∧ ∀ target, Steps p.tables e below ((T.setVm v).setTop { g with pc := x.handlerPc, stack := [.ref a] }) target → Steps p.tables e below ((T.setTop g).pushFrame (.throwing a)) target := by
  have hpl : e.platform.magicAccessors = ({} : Platform).magicAccessors := by rw [X.admits.platform]
  obtain ⟨k', hk', hcl⟩ := Cond.classLink_spec hown hlink e.platform hpl
  cases hk.symm.trans hk'
  obtain ⟨dk, _, _, kt, hd, _, _, _, _, hkt, _, hopen⟩ := hcl.here
  have hcl₀ := X.warmed.classLinks hcl
  have hW' : s.WarmedH (T.vm.noted m.cls x.catchType (.cls k)) := X.warmed.noted hd hopen (State.rightAt_cls hcl)
  have hal := X.warmed.alike
  obtain ⟨kt', hkt', -⟩ := hal.2.2 _ _ hkt
  have hfit' : T.vm.assignable cell.cls k = true := by rw [hal.assignable]; exact hfit
  subst hg
  have hfi : mg_Fi e ((T.setTop g).pushFrame (.throwing a)) g a x.handlerPc (T.vm.noted g.method.cls x.catchType (.cls k)) :=
    mg_Fi.one (s := (T.setTop g).pushFrame (.throwing a)) (meth := meth) (code := c) X.method' X.code h1 hx h0 hcl₀ hcell (VmData.ne_statics_of hobj) (Vm.classAt_of_assignable hfit' ⟨kt', hkt'⟩) ⟨kt', hkt'⟩ hfit'
  exact ⟨_, X.noted hW', fun target hrest => hfi.goes X.here hrest⟩
section MT4
variable {p : Program} {l : Launch} {e : Env} {R : Room} {s : State} {m : MethodId} {args : Array Value} {below : List Frame} {meth : Method} {c : Code} {Q : State → Prop}
variable {D : va_G} {cl : List vw_C} {Z : Nat × Cell} {tys : List (ClassId × FieldType)} {A : Nat → Prop} {H0 : Heap} {nL : Nat} {cc : ByteArray} {Ts : List Cond} {own : String}
variable {ad : mg_Ad} {C : mg_Ct} {L : List (Option Value)} {cells slots pc mc ms : Nat} {st rest st0 : List Value} {post : Option Value → mg_Ad → mg_Ct → Prop}
/-- a callee throws, and this method catches it -/
theorem mg_catchV (K : mg_K p m c cc nL s args Ts own D cl Z tys) (hA : ∀ q, H0.size ≤ q → A q) {y : MethodName} {ws : List Cond} {rm : Room} {bytes : ByteArray} {maxL n index ci N k i : Nat} {ret : Option FieldType} {Cn Xn nm : String} {T : u_T} {fs As : List Value} {a0 a1 hpc ct : Nat} (hM : mg_T l y ws rm D cl Z Ts tys (va_rf (some (ad k i)) :: As) ad C Xn) (cw : CallW R s args own Cn index y bytes maxL ret ws rm 1 6 n) (hd : decode cc pc = .ok (.invokevirtual index, 3)) (hst : st0 = As.reverse ++ va_rf (some (ad k i)) :: rest) (he : C k i = some (.inr (ci, fs))) (hc : cl[ci]? = some (Cn, T, N)) (hn : As.length = n) (hrm : (rest.map fun v => v.category).sum ≤ 8) (hf : cells + 1 ≤ R.cells ∧ slots + 6 ≤ R.slots)
    (htab : c.exceptionTable.toList.map (fun h => (h.startPc, h.endPc, h.handlerPc, h.catchType)) = [(a0, a1, hpc, ct)]) (hcov : a0 ≤ pc ∧ pc < a1) (h0 : ct ≠ 0) (hlink : Cond.classLink own ct nm ∈ Ts) (hcast : Cond.castable Xn nm ∈ Ts)
    (kk : ∀ q : Nat, mg_G p l e R s m args below meth c D cl Z A H0 nL Q ad C L (cells + 1) (slots + 6) [va_rf (some q)] hpc) : mg_G p l e R s m args below meth c D cl Z A H0 nL Q ad C L cells slots st0 pc := by
  intro H locs ls hW hS hL
  have hr := mg_runVT (l := l) (e := e) (below := below) (meth := meth) (locs := locs) (cells := cells) (slots := slots) (g := F0 m pc ls st0) (As := As) (rest := rest) K.1 (hM H.size) cw ⟨mg_Pc.blind, va_recv K.2.1 (mg_P1 hW he) hc (q0 := 0) rfl, mg_pre K hW⟩ rfl hn hL.1 hst (lv_room hrm) hd hf
  obtain ⟨x, hx1, hx2⟩ : ∃ x : ExceptionTableEntry, c.exceptionTable.toList = [x] ∧ (x.startPc, x.endPc, x.handlerPc, x.catchType) = (a0, a1, hpc, ct) := by
    match hq : c.exceptionTable.toList, htab with
    | [x], h => exact ⟨x, rfl, by simpa using h⟩
    | [], h => simp at h
    | x :: y :: r, h => simp at h
  simp only [Prod.mk.injEq] at hx2
  obtain ⟨rfl, rfl, rfl, rfl⟩ := hx2
  have hts := K.1.2.2.2.2
  obtain ⟨c3, cT, hc3, hcT, hasg⟩ := Cond.castable_spec (hts _ hcast)
  intro T hT X
  obtain ⟨xa, st₀, t, T', Lc, g0, X', hLc, e1, e2, ⟨⟨x', cell, hx, hcell, hfc, hvm⟩, hz, hk⟩, sT⟩ := hr T hT X
  cases hx
  rw [g0] at hz hk
  have hfs : s.vm.findClass Xn = some cell.cls := by rw [← X'.warmed.alike.findClass, e2]; exact hfc
  have hasg' : s.vm.assignable cell.cls cT = true := by rw [Option.some.inj (hfs.symm.trans hc3)]; exact hasg
  obtain ⟨v, X2, hgo⟩ := mg_caught X' (a := xa) (g := F0 m pc ls rest) rfl K.1.2.2.2.1 hx1 (by simp [covers, hcov.1, hcov.2]) h0 (hts _ hlink) hcT (by rw [e1]; exact hcell) hvm hasg'
  have hkeep : ∀ q : Nat, q < H.size → T'.heap[q]? = H[q]? := fun q hq => by rw [e1]; exact hk q hq (Nat.not_le.mpr hq)
  obtain ⟨t2, b1, b2⟩ := kk xa T'.heap (locs ++ Lc) ls (hW.kept hkeep)
    ⟨Nat.le_trans hS.1 (by rw [e1]; exact hz), fun q h1 h2 => by rw [hkeep q (Nat.lt_of_lt_of_le h1 hS.1)]; exact hS.2.1 q h1 h2, fun q hq => by
      rcases List.mem_append.mp hq with h | h
      · exact hS.2.2 q h
      · exact hA _ (Nat.le_trans hS.1 (hLc q h))⟩ hL (T'.setVm v) rfl X2
  exact ⟨t2, sT _ (hgo _ b1), b2⟩
/-- a static method that has handlers, called -/
theorem mg_backW {y : MethodName} {ws : List Cond} {rm : Room} {Pc : Array Value → State → Prop} {Qc : Array Value → State → Outcome → State → Prop} {free : Addr → Prop} {bytes : ByteArray} {maxL W len : Nat} {ret : Option FieldType} {handlers : List (Nat × Nat × Nat × Nat)}
    (hM : Met l y ws rm Pc Qc mc ms free) (hblind : FrameBlind Pc) (hrc : rm.cells = mc) (hrs : rm.slots = ms)
    (hframes : rm.frames + 1 ≤ R.frames) (hlocals : W + (maxL + 11) + rm.locals ≤ R.locals)
    (hws : ∀ w ∈ ws, ∀ a' U, s.WarmedH U.vm → w.before a' U = true) (hcode : Cond.codeWith y bytes maxL ret handlers ∈ ws) (hinit : ∀ a' U, s.WarmedH U.vm → (Cond.initialized y.cls).before a' U = true) :
    Back l R p e below s args y len W (PreOf R mc ms Pc) (PostOf Qc mc ms free) := by
  refine Jvm.Free.Back.of_freeWith (handlers := handlers) (S := headSpec ws rm) (P := Pc) (K := fun _ _ _ _ _ => True) (Q := fun a st o t => Qc a st o t ∧ ∃ L, FrameEnd st o t L mc ms ∧ ∀ q ∈ L, free q.base) (bytes := bytes) (maxL := maxL) (ret := ret)
    (E := fun a st o t L k n => k = mc ∧ n = ms ∧ ∀ q ∈ L, free q.base) hM hframes hlocals ?_ ?_ (fun _ _ _ _ _ _ _ _ _ => trivial) ?_ ?_
  · intro m meth c A a X hp
    exact ⟨atoms_intro fun w hw => hws w hw _ _ X.warmed, hws _ hcode _ _ X.warmed, hinit _ _ X.warmed, by rw [show (headSpec ws rm).room.cells = mc from hrc]; exact hp.1, by rw [show (headSpec ws rm).room.slots = ms from hrs]; exact hp.2.1⟩
  · intro m meth c A a g mk X hp
    exact hblind _ _ _ _ hp.2.2
  · intro a st o t ⟨hq, L, hF, hL⟩
    exact ⟨L, mc, ms, hF, rfl, rfl, hL⟩
  · intro m meth c A a g mk v t L k n X hp hq hF ⟨e1, e2, hL⟩
    subst e1; subst e2
    exact ⟨g, mk, t, L, rfl, rfl, hq.1, rfl, hL, rfl, rfl⟩
theorem mg_callSW (K : mg_K p m c cc nL s args Ts own D cl Z tys) (hA : ∀ q, H0.size ≤ q → A q) {y : MethodName} {ws : List Cond} {rm : Room} {bytes : ByteArray} {maxL n index : Nat} {ret : Option FieldType} {As : List Value} {handlers : List (Nat × Nat × Nat × Nat)} (hM : mg_M l y ws rm D cl Z Ts tys As ad C mc ms post)
    (hrc : rm.cells = mc) (hrs : rm.slots = ms) (hfr : rm.frames + 1 ≤ R.frames) (hlo : 8 + (maxL + 11) + rm.locals ≤ R.locals) (hws : ws = [Cond.codeWith y bytes maxL ret handlers]) (hcode : Cond.codeWith y bytes maxL ret handlers ∈ Ts) (hini : Cond.initialized y.cls ∈ Ts) (hstt : Cond.static y ∈ Ts) (hl : Cond.methodLink own index y ∈ Ts)
    (hy : y.cls ≠ "java/lang/invoke/MethodHandle" ∧ y.cls ≠ "java/lang/invoke/VarHandle") (hdn : (parseMethodDescriptor y.desc).map (fun d => d.parameters.length) = some n)
    (hd : decode cc pc = .ok (.invokestatic index, 3)) (hst : st0 = As.reverse ++ rest) (hn : As.length = n) (hrm : (rest.map fun v => v.category).sum ≤ 8) (hf : cells + mc ≤ R.cells ∧ slots + ms ≤ R.slots)
    (kk : ∀ (r : Option Value) (ad' : mg_Ad) (C' : mg_Ct), post r ad' C' → mg_G p l e R s m args below meth c D cl Z A H0 nL Q ad' C' L (cells + mc) (slots + ms) (r.toList ++ rest) (pc + 3)) : mg_G p l e R s m args below meth c D cl Z A H0 nL Q ad C L cells slots st0 pc := by
  intro H locs ls hW hS hL
  have hts := K.1.2.2.2.2
  have hr : va_Run p l e R s m args below meth c H locs cells slots mc ms (F0 m pc ls st0) rest (mg_Qc D cl Z ad C H.size post As.toArray) (mg_A ad C H.size) := by
    have hK : Back l R p e below s args y 3 8 (PreOf R mc ms (mg_Pc D cl Z Ts tys As ad C H.size)) (PostOf (mg_Qc D cl Z ad C H.size post) mc ms (mg_A ad C H.size)) :=
      mg_backW (hM H.size) mg_Pc.blind hrc hrs hfr hlo (fun w hw a' U hW => by rw [hws] at hw; rw [List.mem_singleton.mp hw]; exact word_at hW (Or.inl rfl) (hts _ hcode)) (by rw [hws]; exact List.mem_singleton.mpr rfl) (fun a' U hW => word_at hW (Or.inl (by first | rfl | simp [Cond.onTables, Cond.keeps, Cond.steady])) (hts _ hini))
    obtain ⟨mk, methM, cM, hnamed, hmethM, -, -, -, -, -, -, hsigM⟩ := Cond.codeWith_spec (hts _ hcode)
    have hstatic : methM.isStatic = true := Cond.static_spec hnamed hmethM (hts _ hstt)
    obtain ⟨kP, hkP, -⟩ := className_of_methodNamed hnamed
    have hinitP : kP.init = .initialized := Cond.initialized_spec (findClass_of_methodNamed hnamed) hkP (hts _ hini)
    have hdg' : decode c.code pc = .ok (.invokestatic index, 3) := by rw [K.1.2.1]; exact hd
    have hlen : As.length = methM.sig.parameters.length := by
      rw [hsigM] at hdn
      exact hn.trans (Option.some.inj hdn).symm
    intro T hT X
    obtain ⟨vm₁, X₁, hstep₁⟩ := X.invokestatic K.1.1 K.1.2.2.2.1 (hts _ hl) hnamed hmethM hstatic hkP hinitP hy (g := F0 m pc ls st0) rfl (argsL := As) (rest := rest) hlen hst hdg'
    obtain ⟨v, ⟨U', l2, c2, s2⟩, X', ⟨g', mk', t, Lx, e1, e2, hq, h1, hLx, h2, h3⟩, hsteps⟩ := hK m meth c ⟨T.setVm vm₁, locs, cells, slots⟩ { F0 m pc ls st0 with stack := rest } (.invokestatic index) mk As.toArray X₁ rfl (hL.1.trans K.1.2.2.1.symm) hdg' (lv_room hrm) (X₁.named hnamed) ⟨hf.1, hf.2, mg_pre K hW (T.setVm vm₁) hT X₁.warmed⟩
    dsimp only [Jvm.Free.Pt.U, Jvm.Free.Pt.locs, Jvm.Free.Pt.cells, Jvm.Free.Pt.slots] at X' e1 e2 h1 h2 h3 hsteps
    subst h1; subst h2; subst h3
    exact ⟨v, (T.setVm vm₁).calling g' mk' As.toArray, t, U', Lx, hT, X', hLx, e1, e2, hq, fun target h => hstep₁ _ fun acts => by rw [doInvoke_state]; exact hsteps.trans h⟩
  exact mg_run hr hW hS hA hL kk
end MT4
theorem mg_M.ofW {l : Launch} {y : MethodName} {ws ws' : List Cond} {rm : Room} {D : va_G} {cl : List vw_C} {Z : Nat × Cell} {B : List Cond} {tys : List (ClassId × FieldType)} {av : List Value} {ad : mg_Ad} {C : mg_Ct} {mc ms maxL : Nat} {cc : ByteArray} {ret : Option FieldType} {handlers : List (Nat × Nat × Nat × Nat)} {post : Option Value → mg_Ad → mg_Ct → Prop}
    (hy : plainName y.cls = true) (hw : ws = Cond.codeWith y cc maxL ret handlers :: ws') (hcap : (lg_sl av).length ≤ maxL) (hcat : ∀ w ∈ av, w.category = 1)
    (body : ∀ (p : Program) (e : Env) (s : State) (m : MethodId) (args : Array Value) (below : List Frame) (meth : Method) (c : Code), mg_K p m c cc maxL s args B y.cls D cl Z tys → meth.sig.returnType = ret → meth.locks = false → c.exceptionTable.toList.map (fun h => (h.startPc, h.endPc, h.handlerPc, h.catchType)) = handlers → (∀ q, s.heap.size ≤ q → mg_A ad C s.heap.size q) →
      mg_G p l e rm s m args below meth c D cl Z (mg_A ad C s.heap.size) s.heap maxL (MQ below (mg_Qc D cl Z ad C s.heap.size post) args s mc ms (mg_A ad C s.heap.size)) ad C (av.map some) 0 0 [] 0) : mg_M l y ws rm D cl Z B tys av ad C mc ms post := by
  intro sz
  refine MetFree.of_bodyS (code := cc) (maxLocals := maxL) (ret := ret) hy ?_ ?_
  · intro args s m h hn
    obtain ⟨m', meth, c, hn', h1, h2, h3, h4, -, h5, h6, -⟩ := Cond.codeWith_spec (atoms_spec (ws := ws) h _ (by rw [hw]; exact List.mem_cons_self))
    cases hn.symm.trans hn'
    exact ⟨meth, c, h1, h2, h3, h4, h5, h6⟩
  · intro p e s m args below meth c s₁ Bd hml hP _
    have hh0 : s₁.heap = s.heap := by rw [Bd.state]; rfl
    obtain ⟨rfl, hsz, hW, hK, hZk⟩ := hP
    subst hsz
    have hts : ∀ w ∈ B, w.before av.toArray s = true := fun w h => hZk s (State.WarmedH.refl s) hW.2.2.2.1 w h _
    have hown := findClass_of_methodNamed Bd.named
    obtain ⟨m', meth', c', hn', h1, h2, h3, h4, htab, h5, h6, -⟩ := Cond.codeWith_spec (atoms_spec (ws := ws) Bd.pre _ (by rw [hw]; exact List.mem_cons_self))
    cases Bd.named.symm.trans hn'
    cases Bd.method.symm.trans h1
    cases (Stand.of_body Bd).code.symm.trans h2
    have hl := lv_entry av (n := maxL) hcap
    have hb := body p e s m av.toArray below meth c ⟨⟨Bd.exec, Bd.bytes, hml, hown, hts⟩, hK, hZk⟩ Bd.returns Bd.notSynchronized htab (fun q h => Or.inr h)
    rw [lg_entry_eq]
    generalize (lg_sl av ++ List.replicate (maxL - (lg_sl av).length) Slot.unset).toArray = ls at hl ⊢
    obtain ⟨t, a1, o, b1, b2, b3⟩ := hb s.heap [] ls ⟨hW.1, hW.2.1, fun k i h => Or.inl ⟨k, i, h, rfl⟩, hW.2.2.2⟩ va_S.rf (mg_L.entry hcat hl) s₁ hh0 (Stand.of_body Bd)
    exact ⟨t, o, a1, b1, b2, ⟨b3.1, b3.2⟩⟩
end
section
/-! rooms, call sites, contracts over the raw state -/
def mg_rm (d mc ms : Nat) : Room := { frames := d, locals := 30 * d + 60, cells := mc, slots := ms }
def mr_Bs (B : List Cond) (index : Nat) (y : MethodName) (bytes : ByteArray) (maxL : Nat) (ret : Option FieldType) (n : Nat) : Prop :=
  maxL ≤ 20 ∧ Cond.initialized y.cls ∈ B ∧ Cond.code y bytes maxL ret ∈ B ∧ (y.cls ≠ "java/lang/invoke/MethodHandle" ∧ y.cls ≠ "java/lang/invoke/VarHandle") ∧ (parseMethodDescriptor y.desc).map (fun d => d.parameters.length) = some n
def mr_Vs (B : List Cond) (own Cn : String) (index : Nat) (y : MethodName) (bytes : ByteArray) (maxL : Nat) (ret : Option FieldType) (n : Nat) : Prop := mr_Bs B index y bytes maxL ret n ∧ Cond.methodLink own index y ∈ B ∧ Cond.instanceMethod y ∈ B ∧ Cond.selects Cn y y ∈ B
def mr_Ss (B : List Cond) (own : String) (index : Nat) (y : MethodName) (bytes : ByteArray) (maxL : Nat) (ret : Option FieldType) (n : Nat) : Prop := mr_Bs B index y bytes maxL ret n ∧ Cond.methodLink own index y ∈ B ∧ Cond.static y ∈ B
def mr_Is (B : List Cond) (own : String) (index : Nat) (y : MethodName) (bytes : ByteArray) (maxL : Nat) (n : Nat) : Prop := mr_Bs B index y bytes maxL none n ∧ Cond.methodLink own index y ∈ B ∧ Cond.instanceMethod y ∈ B ∧ y.name = "<init>"
def mr_SNs (B : List Cond) (own host : String) (index : Nat) (y : MethodName) (bytes : ByteArray) (maxL : Nat) (ret : Option FieldType) (n : Nat) : Prop := mr_Bs B index y bytes maxL ret n ∧ Cond.methodLinkNest own index y host ∈ B ∧ Cond.static y ∈ B
def mr_VNs (B : List Cond) (own host Cn : String) (index : Nat) (y : MethodName) (bytes : ByteArray) (maxL : Nat) (ret : Option FieldType) (n : Nat) : Prop := mr_Bs B index y bytes maxL ret n ∧ Cond.methodLinkNest own index y host ∈ B ∧ Cond.instanceMethod y ∈ B ∧ Cond.selects Cn y y ∈ B
def mr_INs (B : List Cond) (own host : String) (index : Nat) (y : MethodName) (bytes : ByteArray) (maxL : Nat) (n : Nat) : Prop := mr_Bs B index y bytes maxL none n ∧ Cond.methodLinkNest own index y host ∈ B ∧ Cond.instanceMethod y ∈ B ∧ y.name = "<init>"
/-- returns v, makes nothing, leaves the raw state r' -/
def mg_Po (tys : List (ClassId × FieldType)) (sh : Nat → mr_Sh) (ad : mg_Ad) (v : Option Value) (r' : mr_St) : Option Value → mg_Ad → mg_Ct → Prop := fun x ad' C' => x = v ∧ ad' = ad ∧ C' = mr_C tys sh ad r'
/-- returns v, may make cells, leaves the raw state r' -/
def mg_PoA (tys : List (ClassId × FieldType)) (sh : Nat → mr_Sh) (ad : mg_Ad) (r : mr_St) (v : Option Value) (r' : mr_St) : Option Value → mg_Ad → mg_Ct → Prop := fun x ad' C' => x = v ∧ (∀ a b, b < mr_pn r a → ad' a b = ad a b) ∧ C' = mr_C tys sh ad' r'
def mr_M (l : Launch) (y : MethodName) (bytes : ByteArray) (maxL : Nat) (ret : Option FieldType) (d : Nat) (D : va_G) (cl : List vw_C) (Z : Nat × Cell) (B : List Cond) (tys : List (ClassId × FieldType)) (sh : Nat → mr_Sh) (av : List Value) (ad : mg_Ad) (r : mr_St) (v : Option Value) (r' : mr_St) : Prop :=
  mg_M l y [Cond.code y bytes maxL ret] (mg_rm d 0 0) D cl Z B tys av ad (mr_C tys sh ad r) 0 0 (mg_Po tys sh ad v r')
def mr_MA (l : Launch) (y : MethodName) (bytes : ByteArray) (maxL : Nat) (ret : Option FieldType) (d mc ms : Nat) (D : va_G) (cl : List vw_C) (Z : Nat × Cell) (B : List Cond) (tys : List (ClassId × FieldType)) (sh : Nat → mr_Sh) (av : List Value) (ad : mg_Ad) (r : mr_St) (v : Option Value) (r' : mr_St) : Prop :=
  mg_M l y [Cond.code y bytes maxL ret] (mg_rm d mc ms) D cl Z B tys av ad (mr_C tys sh ad r) mc ms (mg_PoA tys sh ad r v r')
/-- a static one that reads and writes nothing: over every world -/
def mr_MS (l : Launch) (y : MethodName) (bytes : ByteArray) (maxL : Nat) (ret : Option FieldType) (d : Nat) (D : va_G) (cl : List vw_C) (Z : Nat × Cell) (B : List Cond) (tys : List (ClassId × FieldType)) (av : List Value) (v : Option Value) : Prop :=
  ∀ (ad : mg_Ad) (C : mg_Ct), mg_M l y [Cond.code y bytes maxL ret] (mg_rm d 0 0) D cl Z B tys av ad C 0 0 (fun x ad' C' => x = v ∧ ad' = ad ∧ C' = C)
section MR3
variable {p : Program} {l : Launch} {e : Env} {R : Room} {s : State} {m : MethodId} {args : Array Value} {below : List Frame} {meth : Method} {c : Code} {Q : State → Prop}
variable {D : va_G} {cl : List vw_C} {Z : Nat × Cell} {tys : List (ClassId × FieldType)} {A : Nat → Prop} {H0 : Heap} {nL : Nat} {cc : ByteArray} {Ts : List Cond} {own : String}
variable {ad : mg_Ad} {sh : Nat → mr_Sh} {r : mr_St} {C : mg_Ct} {L : List (Option Value)} {cells slots pc d' mc ms : Nat} {rest st0 : List Value} {y : MethodName} {bytes : ByteArray} {maxL n index : Nat} {ret : Option FieldType} {Cn host : String} {As : List Value}
theorem mr_Bs.b (K : mg_K p m c cc nL s args Ts own D cl Z tys) (h : mr_Bs Ts index y bytes maxL ret n) (hR : d' + 1 ≤ R.frames ∧ 19 + maxL + (30 * d' + 60) ≤ R.locals) (hl : Cond.methodLink own index y ∈ Ts) : CallB R s args own index y bytes maxL ret [Cond.code y bytes maxL ret] (mg_rm d' mc ms) mc ms n := by
  obtain ⟨h1, h2, h3, h4, h5⟩ := h
  have hts := K.1.2.2.2.2
  refine ⟨rfl, rfl, hR.1, by show 8 + (maxL + 11) + (30 * d' + 60) ≤ _; omega, fun w hw a' U hW => ?_, List.mem_singleton.mpr rfl, hts _ h3, hts _ h2, h4, fun sig hsig => ?_, hts _ hl⟩
  · rw [List.mem_singleton.mp hw]
    exact word_at hW (Or.inl (by first | rfl | simp [Cond.onTables, Cond.keeps, Cond.steady])) (hts _ h3)
  · rw [hsig] at h5
    exact (Option.some.inj h5).symm
theorem mr_Bs.bn (K : mg_K p m c cc nL s args Ts own D cl Z tys) (h : mr_Bs Ts index y bytes maxL ret n) (hR : d' + 1 ≤ R.frames ∧ 19 + maxL + (30 * d' + 60) ≤ R.locals) (hl : Cond.methodLinkNest own index y host ∈ Ts) : va_CN R s args own index y host bytes maxL ret [Cond.code y bytes maxL ret] (mg_rm d' mc ms) mc ms n := by
  obtain ⟨h1, h2, h3, h4, h5⟩ := h
  have hts := K.1.2.2.2.2
  refine ⟨⟨rfl, rfl, hR.1, by show 8 + (maxL + 11) + (30 * d' + 60) ≤ _; omega, fun w hw a' U hW => ?_, List.mem_singleton.mpr rfl⟩, hts _ h3, hts _ h2, h4, fun sig hsig => ?_, hts _ hl⟩
  · rw [List.mem_singleton.mp hw]
    exact word_at hW (Or.inl (by first | rfl | simp [Cond.onTables, Cond.keeps, Cond.steady])) (hts _ h3)
  · rw [hsig] at h5
    exact (Option.some.inj h5).symm
theorem mr_cV (K : mg_K p m c cc nL s args Ts own D cl Z tys) (hA : ∀ q, H0.size ≤ q → A q) {k i ci N : Nat} {fl : List Nat} {T : u_T} {v : Option Value} {r' : mr_St} (hM : mr_M l y bytes maxL ret d' D cl Z Ts tys sh (va_rf (some (ad k i)) :: As) ad r v r') (hs : mr_Vs Ts own Cn index y bytes maxL ret As.length) (hR : d' + 1 ≤ R.frames ∧ 19 + maxL + (30 * d' + 60) ≤ R.locals) (hd : decode cc pc = .ok (.invokevirtual index, 3)) (hst : st0 = As.reverse ++ va_rf (some (ad k i)) :: rest) (hk : sh k = .inl (ci, fl)) (hi : i < mr_pn r k) (hc : cl[ci]? = some (Cn, T, N)) (hrm : (rest.map fun v => v.category).sum ≤ 8) (hf0 : cells ≤ R.cells ∧ slots ≤ R.slots) (kk : mg_G p l e R s m args below meth c D cl Z A H0 nL Q ad (mr_C tys sh ad r') L cells slots (v.toList ++ rest) (pc + 3)) : mg_G p l e R s m args below meth c D cl Z A H0 nL Q ad (mr_C tys sh ad r) L cells slots st0 pc :=
  mg_callV K hA hM ⟨hs.1.b K hR hs.2.1, K.1.2.2.2.2 _ hs.2.2.1, K.1.2.2.2.2 _ hs.2.2.2⟩ hd hst (mr_obj hk hi) hc rfl hrm ⟨by show _ + 0 ≤ _; exact hf0.1, by show _ + 0 ≤ _; exact hf0.2⟩ (fun x ad' C' hp => by obtain ⟨rfl, rfl, rfl⟩ := hp; exact kk)
theorem mr_cVN (K : mg_K p m c cc nL s args Ts own D cl Z tys) (hA : ∀ q, H0.size ≤ q → A q) {k i ci N : Nat} {fl : List Nat} {T : u_T} {v : Option Value} {r' : mr_St} (hM : mr_M l y bytes maxL ret d' D cl Z Ts tys sh (va_rf (some (ad k i)) :: As) ad r v r') (hs : mr_VNs Ts own host Cn index y bytes maxL ret As.length) (hR : d' + 1 ≤ R.frames ∧ 19 + maxL + (30 * d' + 60) ≤ R.locals) (hd : decode cc pc = .ok (.invokevirtual index, 3)) (hst : st0 = As.reverse ++ va_rf (some (ad k i)) :: rest) (hk : sh k = .inl (ci, fl)) (hi : i < mr_pn r k) (hc : cl[ci]? = some (Cn, T, N)) (hrm : (rest.map fun v => v.category).sum ≤ 8) (hf0 : cells ≤ R.cells ∧ slots ≤ R.slots) (kk : mg_G p l e R s m args below meth c D cl Z A H0 nL Q ad (mr_C tys sh ad r') L cells slots (v.toList ++ rest) (pc + 3)) : mg_G p l e R s m args below meth c D cl Z A H0 nL Q ad (mr_C tys sh ad r) L cells slots st0 pc :=
  mg_callVN K hA hM ⟨hs.1.bn K hR hs.2.1, K.1.2.2.2.2 _ hs.2.2.1, K.1.2.2.2.2 _ hs.2.2.2⟩ hd hst (mr_obj hk hi) hc rfl hrm ⟨by show _ + 0 ≤ _; exact hf0.1, by show _ + 0 ≤ _; exact hf0.2⟩ (fun x ad' C' hp => by obtain ⟨rfl, rfl, rfl⟩ := hp; exact kk)
theorem mr_cS (K : mg_K p m c cc nL s args Ts own D cl Z tys) (hA : ∀ q, H0.size ≤ q → A q) {v : Option Value} {r' : mr_St} (hM : mr_M l y bytes maxL ret d' D cl Z Ts tys sh As ad r v r') (hs : mr_Ss Ts own index y bytes maxL ret As.length) (hR : d' + 1 ≤ R.frames ∧ 19 + maxL + (30 * d' + 60) ≤ R.locals) (hd : decode cc pc = .ok (.invokestatic index, 3)) (hst : st0 = As.reverse ++ rest) (hrm : (rest.map fun v => v.category).sum ≤ 8) (hf0 : cells ≤ R.cells ∧ slots ≤ R.slots) (kk : mg_G p l e R s m args below meth c D cl Z A H0 nL Q ad (mr_C tys sh ad r') L cells slots (v.toList ++ rest) (pc + 3)) : mg_G p l e R s m args below meth c D cl Z A H0 nL Q ad (mr_C tys sh ad r) L cells slots st0 pc :=
  mg_callS K hA hM ⟨hs.1.b K hR hs.2.1, K.1.2.2.2.2 _ hs.2.2⟩ hd hst rfl hrm ⟨by show _ + 0 ≤ _; exact hf0.1, by show _ + 0 ≤ _; exact hf0.2⟩ (fun x ad' C' hp => by obtain ⟨rfl, rfl, rfl⟩ := hp; exact kk)
theorem mr_cI (K : mg_K p m c cc nL s args Ts own D cl Z tys) (hA : ∀ q, H0.size ≤ q → A q) {b : Nat} {v : Option Value} {r' : mr_St} (hM : mr_M l y bytes maxL none d' D cl Z Ts tys sh (va_rf (some b) :: As) ad r v r') (hs : mr_Is Ts own index y bytes maxL As.length) (hR : d' + 1 ≤ R.frames ∧ 19 + maxL + (30 * d' + 60) ≤ R.locals) (hd : decode cc pc = .ok (.invokespecial index, 3)) (hst : st0 = As.reverse ++ va_rf (some b) :: rest) (hrm : (rest.map fun v => v.category).sum ≤ 8) (hf0 : cells ≤ R.cells ∧ slots ≤ R.slots) (kk : mg_G p l e R s m args below meth c D cl Z A H0 nL Q ad (mr_C tys sh ad r') L cells slots (v.toList ++ rest) (pc + 3)) : mg_G p l e R s m args below meth c D cl Z A H0 nL Q ad (mr_C tys sh ad r) L cells slots st0 pc :=
  mg_callI K hA hM ⟨hs.1.b K hR hs.2.1, hs.2.2.2, K.1.2.2.2.2 _ hs.2.2.1⟩ hd hst rfl hrm ⟨by show _ + 0 ≤ _; exact hf0.1, by show _ + 0 ≤ _; exact hf0.2⟩ (fun x ad' C' hp => by obtain ⟨rfl, rfl, rfl⟩ := hp; exact kk)
theorem mr_cIN (K : mg_K p m c cc nL s args Ts own D cl Z tys) (hA : ∀ q, H0.size ≤ q → A q) {b : Nat} {v : Option Value} {r' : mr_St} (hM : mr_M l y bytes maxL none d' D cl Z Ts tys sh (va_rf (some b) :: As) ad r v r') (hs : mr_INs Ts own host index y bytes maxL As.length) (hR : d' + 1 ≤ R.frames ∧ 19 + maxL + (30 * d' + 60) ≤ R.locals) (hd : decode cc pc = .ok (.invokespecial index, 3)) (hst : st0 = As.reverse ++ va_rf (some b) :: rest) (hrm : (rest.map fun v => v.category).sum ≤ 8) (hf0 : cells ≤ R.cells ∧ slots ≤ R.slots) (kk : mg_G p l e R s m args below meth c D cl Z A H0 nL Q ad (mr_C tys sh ad r') L cells slots (v.toList ++ rest) (pc + 3)) : mg_G p l e R s m args below meth c D cl Z A H0 nL Q ad (mr_C tys sh ad r) L cells slots st0 pc :=
  mg_callIN K hA hM ⟨hs.1.bn K hR hs.2.1, hs.2.2.2, K.1.2.2.2.2 _ hs.2.2.1⟩ hd hst rfl hrm ⟨by show _ + 0 ≤ _; exact hf0.1, by show _ + 0 ≤ _; exact hf0.2⟩ (fun x ad' C' hp => by obtain ⟨rfl, rfl, rfl⟩ := hp; exact kk)
theorem mr_cVA (K : mg_K p m c cc nL s args Ts own D cl Z tys) (hA : ∀ q, H0.size ≤ q → A q) {k i ci N : Nat} {fl : List Nat} {T : u_T} {v : Option Value} {r' : mr_St} (hM : mr_MA l y bytes maxL ret d' mc ms D cl Z Ts tys sh (va_rf (some (ad k i)) :: As) ad r v r') (hs : mr_Vs Ts own Cn index y bytes maxL ret As.length) (hR : d' + 1 ≤ R.frames ∧ 19 + maxL + (30 * d' + 60) ≤ R.locals) (hd : decode cc pc = .ok (.invokevirtual index, 3)) (hst : st0 = As.reverse ++ va_rf (some (ad k i)) :: rest) (hk : sh k = .inl (ci, fl)) (hi : i < mr_pn r k) (hc : cl[ci]? = some (Cn, T, N)) (hrm : (rest.map fun v => v.category).sum ≤ 8) (hf : cells + mc ≤ R.cells ∧ slots + ms ≤ R.slots) (kk : ∀ ad' : mg_Ad, (∀ a b, b < mr_pn r a → ad' a b = ad a b) → mg_G p l e R s m args below meth c D cl Z A H0 nL Q ad' (mr_C tys sh ad' r') L (cells + mc) (slots + ms) (v.toList ++ rest) (pc + 3)) : mg_G p l e R s m args below meth c D cl Z A H0 nL Q ad (mr_C tys sh ad r) L cells slots st0 pc :=
  mg_callV K hA hM ⟨hs.1.b K hR hs.2.1, K.1.2.2.2.2 _ hs.2.2.1, K.1.2.2.2.2 _ hs.2.2.2⟩ hd hst (mr_obj hk hi) hc rfl hrm hf (fun x ad' C' hp => by obtain ⟨rfl, ha, rfl⟩ := hp; exact kk ad' ha)
theorem mr_cVNA (K : mg_K p m c cc nL s args Ts own D cl Z tys) (hA : ∀ q, H0.size ≤ q → A q) {k i ci N : Nat} {fl : List Nat} {T : u_T} {v : Option Value} {r' : mr_St} (hM : mr_MA l y bytes maxL ret d' mc ms D cl Z Ts tys sh (va_rf (some (ad k i)) :: As) ad r v r') (hs : mr_VNs Ts own host Cn index y bytes maxL ret As.length) (hR : d' + 1 ≤ R.frames ∧ 19 + maxL + (30 * d' + 60) ≤ R.locals) (hd : decode cc pc = .ok (.invokevirtual index, 3)) (hst : st0 = As.reverse ++ va_rf (some (ad k i)) :: rest) (hk : sh k = .inl (ci, fl)) (hi : i < mr_pn r k) (hc : cl[ci]? = some (Cn, T, N)) (hrm : (rest.map fun v => v.category).sum ≤ 8) (hf : cells + mc ≤ R.cells ∧ slots + ms ≤ R.slots) (kk : ∀ ad' : mg_Ad, (∀ a b, b < mr_pn r a → ad' a b = ad a b) → mg_G p l e R s m args below meth c D cl Z A H0 nL Q ad' (mr_C tys sh ad' r') L (cells + mc) (slots + ms) (v.toList ++ rest) (pc + 3)) : mg_G p l e R s m args below meth c D cl Z A H0 nL Q ad (mr_C tys sh ad r) L cells slots st0 pc :=
  mg_callVN K hA hM ⟨hs.1.bn K hR hs.2.1, K.1.2.2.2.2 _ hs.2.2.1, K.1.2.2.2.2 _ hs.2.2.2⟩ hd hst (mr_obj hk hi) hc rfl hrm hf (fun x ad' C' hp => by obtain ⟨rfl, ha, rfl⟩ := hp; exact kk ad' ha)
theorem mr_cSA (K : mg_K p m c cc nL s args Ts own D cl Z tys) (hA : ∀ q, H0.size ≤ q → A q) {v : Option Value} {r' : mr_St} (hM : mr_MA l y bytes maxL ret d' mc ms D cl Z Ts tys sh As ad r v r') (hs : mr_Ss Ts own index y bytes maxL ret As.length) (hR : d' + 1 ≤ R.frames ∧ 19 + maxL + (30 * d' + 60) ≤ R.locals) (hd : decode cc pc = .ok (.invokestatic index, 3)) (hst : st0 = As.reverse ++ rest) (hrm : (rest.map fun v => v.category).sum ≤ 8) (hf : cells + mc ≤ R.cells ∧ slots + ms ≤ R.slots) (kk : ∀ ad' : mg_Ad, (∀ a b, b < mr_pn r a → ad' a b = ad a b) → mg_G p l e R s m args below meth c D cl Z A H0 nL Q ad' (mr_C tys sh ad' r') L (cells + mc) (slots + ms) (v.toList ++ rest) (pc + 3)) : mg_G p l e R s m args below meth c D cl Z A H0 nL Q ad (mr_C tys sh ad r) L cells slots st0 pc :=
  mg_callS K hA hM ⟨hs.1.b K hR hs.2.1, K.1.2.2.2.2 _ hs.2.2⟩ hd hst rfl hrm hf (fun x ad' C' hp => by obtain ⟨rfl, ha, rfl⟩ := hp; exact kk ad' ha)
theorem mr_cIA (K : mg_K p m c cc nL s args Ts own D cl Z tys) (hA : ∀ q, H0.size ≤ q → A q) {b : Nat} {v : Option Value} {r' : mr_St} (hM : mr_MA l y bytes maxL none d' mc ms D cl Z Ts tys sh (va_rf (some b) :: As) ad r v r') (hs : mr_Is Ts own index y bytes maxL As.length) (hR : d' + 1 ≤ R.frames ∧ 19 + maxL + (30 * d' + 60) ≤ R.locals) (hd : decode cc pc = .ok (.invokespecial index, 3)) (hst : st0 = As.reverse ++ va_rf (some b) :: rest) (hrm : (rest.map fun v => v.category).sum ≤ 8) (hf : cells + mc ≤ R.cells ∧ slots + ms ≤ R.slots) (kk : ∀ ad' : mg_Ad, (∀ a b, b < mr_pn r a → ad' a b = ad a b) → mg_G p l e R s m args below meth c D cl Z A H0 nL Q ad' (mr_C tys sh ad' r') L (cells + mc) (slots + ms) (v.toList ++ rest) (pc + 3)) : mg_G p l e R s m args below meth c D cl Z A H0 nL Q ad (mr_C tys sh ad r) L cells slots st0 pc :=
  mg_callI K hA hM ⟨hs.1.b K hR hs.2.1, hs.2.2.2, K.1.2.2.2.2 _ hs.2.2.1⟩ hd hst rfl hrm hf (fun x ad' C' hp => by obtain ⟨rfl, ha, rfl⟩ := hp; exact kk ad' ha)
theorem mr_cINA (K : mg_K p m c cc nL s args Ts own D cl Z tys) (hA : ∀ q, H0.size ≤ q → A q) {b : Nat} {v : Option Value} {r' : mr_St} (hM : mr_MA l y bytes maxL none d' mc ms D cl Z Ts tys sh (va_rf (some b) :: As) ad r v r') (hs : mr_INs Ts own host index y bytes maxL As.length) (hR : d' + 1 ≤ R.frames ∧ 19 + maxL + (30 * d' + 60) ≤ R.locals) (hd : decode cc pc = .ok (.invokespecial index, 3)) (hst : st0 = As.reverse ++ va_rf (some b) :: rest) (hrm : (rest.map fun v => v.category).sum ≤ 8) (hf : cells + mc ≤ R.cells ∧ slots + ms ≤ R.slots) (kk : ∀ ad' : mg_Ad, (∀ a b, b < mr_pn r a → ad' a b = ad a b) → mg_G p l e R s m args below meth c D cl Z A H0 nL Q ad' (mr_C tys sh ad' r') L (cells + mc) (slots + ms) (v.toList ++ rest) (pc + 3)) : mg_G p l e R s m args below meth c D cl Z A H0 nL Q ad (mr_C tys sh ad r) L cells slots st0 pc :=
  mg_callIN K hA hM ⟨hs.1.bn K hR hs.2.1, hs.2.2.2, K.1.2.2.2.2 _ hs.2.2.1⟩ hd hst rfl hrm hf (fun x ad' C' hp => by obtain ⟨rfl, ha, rfl⟩ := hp; exact kk ad' ha)
theorem mr_cP (K : mg_K p m c cc nL s args Ts own D cl Z tys) (hA : ∀ q, H0.size ≤ q → A q) {v : Option Value} (hM : mr_MS l y bytes maxL ret d' D cl Z Ts tys As v) (hs : mr_Ss Ts own index y bytes maxL ret As.length) (hR : d' + 1 ≤ R.frames ∧ 19 + maxL + (30 * d' + 60) ≤ R.locals) (hd : decode cc pc = .ok (.invokestatic index, 3)) (hst : st0 = As.reverse ++ rest) (hrm : (rest.map fun v => v.category).sum ≤ 8) (hf0 : cells ≤ R.cells ∧ slots ≤ R.slots) (kk : mg_G p l e R s m args below meth c D cl Z A H0 nL Q ad C L cells slots (v.toList ++ rest) (pc + 3)) : mg_G p l e R s m args below meth c D cl Z A H0 nL Q ad C L cells slots st0 pc :=
  mg_callS K hA (hM ad C) ⟨hs.1.b K hR hs.2.1, K.1.2.2.2.2 _ hs.2.2⟩ hd hst rfl hrm ⟨by show _ + 0 ≤ _; exact hf0.1, by show _ + 0 ≤ _; exact hf0.2⟩ (fun x ad' C' hp => by obtain ⟨rfl, rfl, rfl⟩ := hp; exact kk)
theorem mr_cPN (K : mg_K p m c cc nL s args Ts own D cl Z tys) (hA : ∀ q, H0.size ≤ q → A q) {v : Option Value} (hM : mr_MS l y bytes maxL ret d' D cl Z Ts tys As v) (hs : mr_SNs Ts own host index y bytes maxL ret As.length) (hR : d' + 1 ≤ R.frames ∧ 19 + maxL + (30 * d' + 60) ≤ R.locals) (hd : decode cc pc = .ok (.invokestatic index, 3)) (hst : st0 = As.reverse ++ rest) (hrm : (rest.map fun v => v.category).sum ≤ 8) (hf0 : cells ≤ R.cells ∧ slots ≤ R.slots) (kk : mg_G p l e R s m args below meth c D cl Z A H0 nL Q ad C L cells slots (v.toList ++ rest) (pc + 3)) : mg_G p l e R s m args below meth c D cl Z A H0 nL Q ad C L cells slots st0 pc :=
  mg_callSN K hA (hM ad C) ⟨hs.1.bn K hR hs.2.1, K.1.2.2.2.2 _ hs.2.2, trivial⟩ hd hst rfl hrm ⟨by show _ + 0 ≤ _; exact hf0.1, by show _ + 0 ≤ _; exact hf0.2⟩ (fun x ad' C' hp => by obtain ⟨rfl, rfl, rfl⟩ := hp; exact kk)
end MR3
end
section
/-! small numbers as Int32 -/
theorem mi_ti {n : Nat} (h : n < 2147483648) : (Int32.ofNat n).toInt = (n : Int) := Int32.toInt_ofNat_small h
theorem mi_tn {n : Nat} (h : n < 2147483648) : (Int32.ofNat n).toNatClampNeg = n := by
  show (Int32.ofNat n).toInt.toNat = n
  rw [mi_ti h]
  exact Int.toNat_natCast n
theorem mi_lt {a b : Nat} (ha : a < 2147483648) (hb : b < 2147483648) : Int32.ofNat a < Int32.ofNat b ↔ a < b := by
  rw [Int32.lt_iff_toInt_lt, mi_ti ha, mi_ti hb]
  omega
theorem mi_le {a b : Nat} (ha : a < 2147483648) (hb : b < 2147483648) : Int32.ofNat a ≤ Int32.ofNat b ↔ a ≤ b := by
  rw [Int32.le_iff_toInt_le, mi_ti ha, mi_ti hb]
  omega
theorem mi_inj {a b : Nat} (ha : a < 2147483648) (hb : b < 2147483648) (h : Int32.ofNat a = Int32.ofNat b) : a = b := by
  have h1 := congrArg Int32.toInt h
  rw [mi_ti ha, mi_ti hb] at h1
  omega
theorem mi_a1 (n : Nat) : Int32.ofNat n + 1 = Int32.ofNat (n + 1) := (Int32.ofNat_add n 1).symm
theorem mi_s1 (n : Nat) : Int32.ofNat (n + 1) - 1 = Int32.ofNat n := by rw [← mi_a1, Int32.add_sub_cancel]
theorem mi_nn {n : Nat} (h : n < 2147483648) : ¬ Int32.ofNat n < 0 := by
  rw [Int32.lt_iff_toInt_lt, mi_ti h]
  show ¬ (n : Int) < 0
  omega
theorem mi_of {x : Int32} (h : ¬ x < 0) : x = Int32.ofNat x.toNatClampNeg := by
  have h0 : ¬ x.toInt < 0 := fun z => h (Int32.lt_iff_toInt_lt.mpr z)
  have h1 : x.toInt < 2147483648 := Int32.toInt_lt x
  have h2 : x.toNatClampNeg = x.toInt.toNat := rfl
  refine Int32.toInt_inj.mp ?_
  rw [mi_ti (by rw [h2]; omega), h2]
  omega
theorem mi_rg {x : Int32} {n : Nat} (h : ¬ x < 0) (hn : n < 2147483648) (hx : x < Int32.ofNat n) : x.toNatClampNeg < n := by
  rw [Int32.lt_iff_toInt_lt, mi_ti hn] at hx
  have h2 : x.toNatClampNeg = x.toInt.toNat := rfl
  rw [h2]
  have h0 : ¬ x.toInt < 0 := fun z => h (Int32.lt_iff_toInt_lt.mpr z)
  omega
theorem mi_vi {x : Int32} {n : Nat} (h : ¬ x < 0) (hx : x.toNatClampNeg < n) : vp_in x n := fun z => by
  rcases z with z | z
  · exact h z
  · omega
theorem mi_vn {x n : Nat} (hx : x < 2147483648) (h : x < n) : vp_in (Int32.ofNat x) n := mi_vi (mi_nn hx) (by rw [mi_tn hx]; exact h)
end
section
/-! the class, as a mathematical state: ints by (kind, index, place), the messages that came by sender and number, a message's subject, the four lines (0 acts, 1 dead, 2 waiting, 3 failed), how many messages were made -/
abbrev ca_S : Type := (Nat → Nat → Nat → Int32) × (Nat → Nat → Option Nat) × (Nat → Nat) × (Nat → List Nat) × Nat
def ca_iv (g : ca_S) (k i f : Nat) : Int32 := g.1 k i f
def ca_tb (g : ca_S) (s n : Nat) : Option Nat := g.2.1 s n
def ca_ms (g : ca_S) (j : Nat) : Nat := g.2.2.1 j
def ca_ln (g : ca_S) (x : Nat) : List Nat := g.2.2.2.1 x
def ca_nm (g : ca_S) : Nat := g.2.2.2.2
def ca_si (g : ca_S) (k i f : Nat) (v : Int32) : ca_S := (mr_u3 g.1 k i f v, g.2)
def ca_sn (g : ca_S) (x : Nat) (v : List Nat) : ca_S := (g.1, g.2.1, g.2.2.1, fun a => if a = x then v else ca_ln g a, g.2.2.2.2)
def ca_here (g : ca_S) : Option Nat → Bool
  | none => false
  | some j => decide (¬ ca_iv g 10 j 4 = 6)
def ca_gap (g : ca_S) (s n : Nat) : Bool := decide (1 ≤ n ∧ n ≤ 24) && decide (ca_iv g 6 s n = 0) && !ca_here g (ca_tb g s n)
/-- the least number from n on, of f numbers, that is a gap; else the one behind them -/
def ca_least (g : ca_S) (s : Nat) : Nat → Nat → Nat
  | n, 0 => n
  | n, f + 1 => if ca_gap g s n then n else ca_least g s (n + 1) f
def ca_lg (g : ca_S) (s : Nat) : Nat := ca_least g s 1 24
def ca_in (v lim : Int32) : Bool := decide (-lim ≤ v) && decide (v ≤ lim)
def ca_vo (g : ca_S) (st : Int32) : Int32 := if st = 0 then (if (ca_ln g 2).length < 12 then -1 else 5) else if st = 2 then 2 else if st = 3 then 3 else 0
def ca_vd (g : ca_S) (j : Nat) : Int32 :=
  let st := ca_iv g 7 (ca_ms g j) 0
  if ca_iv g 10 j 1 = 0 then (if st = 0 ∨ st = 3 then 0 else 1)
  else if ca_iv g 10 j 1 = 2 then (if st = 1 ∧ ca_in (ca_iv g 7 (ca_ms g j) 1 + ca_iv g 10 j 3) 1000000 = false then 4 else ca_vo g st)
  else if ca_iv g 10 j 1 = 1 ∨ ca_iv g 10 j 1 = 4 then ca_vo g st else 0
def ca_app (g : ca_S) (x j : Nat) : ca_S := if (ca_ln g x).length < 96 then ca_sn g x (ca_ln g x ++ [j]) else g
def ca_fail (g : ca_S) (j : Nat) (again : Bool) : ca_S := ca_app (ca_si g 10 j 4 (if again then 5 else 4)) (if again then 1 else 3) j
def ca_act (g : ca_S) (j : Nat) : ca_S :=
  if ca_iv g 10 j 1 = 0 then ca_si (ca_si g 7 (ca_ms g j) 0 1) 7 (ca_ms g j) 1 (ca_iv g 10 j 3)
  else if ca_iv g 10 j 1 = 1 then ca_si g 7 (ca_ms g j) 1 (ca_iv g 10 j 3)
  else if ca_iv g 10 j 1 = 2 then ca_si g 7 (ca_ms g j) 1 (ca_iv g 7 (ca_ms g j) 1 + ca_iv g 10 j 3)
  else if ca_iv g 10 j 1 = 4 then ca_si g 7 (ca_ms g j) 0 3
  else ca_si g 10 j 5 (10 * ca_iv g 7 (ca_ms g j) 1 + ca_iv g 7 (ca_ms g j) 0)
def ca_perf (g : ca_S) (j : Nat) : ca_S :=
  let g1 := ca_act g j
  let g2 := ca_si g1 7 (ca_ms g j) 2 (ca_iv g1 7 (ca_ms g j) 2 + 1)
  ca_app (ca_si g2 10 j 4 1) 0 j
def ca_settle (g : ca_S) (j : Nat) (again : Bool) : ca_S :=
  if ca_vd g j = -1 then ca_app (ca_si (ca_si g 10 j 4 3) 10 j 7 (ca_iv g 0 0 7)) 2 j
  else if ¬ ca_vd g j = 0 then ca_si (ca_si g 10 j 4 2) 10 j 5 (-(ca_vd g j))
  else if ¬ ca_iv g 3 0 (ca_iv g 10 j 1).toNatClampNeg = 0 then ca_fail (ca_si g 3 0 (ca_iv g 10 j 1).toNatClampNeg 0) j again
  else ca_perf g j
def ca_first (g : ca_S) (u : Nat) : Option Nat := (ca_ln g 2).findIdx? (fun j => decide (ca_ms g j = u))
def ca_wake (u : Nat) : Nat → ca_S → ca_S
  | 0, g => g
  | n + 1, g => match ca_first g u with
    | none => g
    | some i => ca_wake u n (ca_settle (ca_sn g 2 ((ca_ln g 2).eraseIdx i)) ((ca_ln g 2).getD i 0) false)
def ca_turn (g : ca_S) (j : Nat) (again : Bool) : ca_S :=
  let g1 := ca_settle g j again
  if ca_iv g1 7 (ca_ms g j) 0 = 0 then g1 else ca_wake (ca_ms g j) 12 g1
def ca_give (s : Nat) : Nat → Nat → ca_S → ca_S
  | _, 0, g => g
  | n, f + 1, g => ca_give s (n + 1) f (match ca_tb g s n with
    | none => g
    | some j => if ca_iv g 10 j 4 = 0 then ca_turn g j false else g)
def ca_turns (g : ca_S) (s : Nat) : ca_S := ca_give s 1 (ca_lg g s - 1) g
def ca_come (g : ca_S) (s j : Nat) : ca_S :=
  let g1 := ca_si (ca_si g 10 j 4 0) 10 j 6 (ca_iv g 0 0 7)
  ca_turns (if ca_iv g 10 j 1 = 3 then ca_turn g1 j false else g1) s
def ca_recd (g : ca_S) (j : Nat) : Int32 :=
  let st := ca_iv g 10 j 4
  if st = 1 then 1 else if st = 3 then 4 else if st = 4 then 5 else if st = 2 then ca_iv g 10 j 5 else 2
/-- a new message, in the table -/
def ca_mk (g : ca_S) (s n : Nat) (nm fn : Int32) (u : Nat) (v : Int32) : ca_S :=
  let j := ca_nm g
  (fun a b c => if a = 10 ∧ b = j then (if c = 0 then nm else if c = 1 then fn else if c = 3 then v else 0) else g.1 a b c,
   fun a b => if a = s ∧ b = n then some j else g.2.1 a b, fun b => if b = j then u else g.2.2.1 b, g.2.2.2.1, j + 1)
def ca_retry : Nat → ca_S → ca_S
  | 0, g => g
  | n + 1, g => ca_retry n (match ca_ln g 3 with
    | [] => g
    | j :: r => ca_turn (ca_sn g 3 r) j true)
def ca_longs : Nat → ca_S → ca_S
  | 0, g => g
  | n + 1, g => match ca_ln g 2 with
    | [] => g
    | j :: r => if ca_iv g 0 0 7 - ca_iv g 10 j 7 ≤ 50 then g else ca_longs n (ca_app (ca_si (ca_sn g 2 r) 10 j 4 5) 1 j)
def ca_tick (g : ca_S) (t : Int32) : ca_S :=
  let g1 := ca_si g 0 0 7 t
  let g2 := ca_retry (ca_ln g1 3).length g1
  ca_longs (ca_ln g2 2).length g2
def ca_beh (g : ca_S) (s : Nat) (b : Int32) : Nat → Nat → Bool
  | _, 0 => false
  | n, f + 1 => (match ca_tb g s n with
    | none => false
    | some j => decide (¬ ca_iv g 10 j 4 = 6) && decide (ca_iv g 10 j 6 < b)) || ca_beh g s b (n + 1) f
def ca_cnt (g : ca_S) (s : Nat) (v : Int32) : Nat → Nat → Nat → Nat
  | _, 0, a => a
  | n, f + 1, a => ca_cnt g s v (n + 1) f (match ca_tb g s n with
    | none => a
    | some j => if ca_iv g 10 j 4 = v then a + 1 else a)
def ca_lose (s : Nat) : Nat → Nat → ca_S → Nat → ca_S × Nat
  | _, 0, g, a => (g, a)
  | n, f + 1, g, a => match ca_tb g s n with
    | none => ca_lose s (n + 1) f g a
    | some j => if ca_iv g 10 j 4 = 0 then ca_lose s (n + 1) f (ca_si g 10 j 4 6) (a + 1) else ca_lose s (n + 1) f g a
def ca_rep (s : Nat) : Nat → Nat → ca_S → Nat → ca_S × Nat
  | _, 0, g, a => (g, a)
  | n, f + 1, g, a => match ca_tb g s n with
    | none => ca_rep s (n + 1) f g a
    | some j => if ca_iv g 10 j 4 = 6 ∧ ca_gap g s n = true then ca_rep s (n + 1) f (ca_come g s j) (a + 1) else ca_rep s (n + 1) f g a
def ca_great (g : ca_S) (s : Nat) : Nat → Nat
  | 0 => 0
  | n + 1 => if ca_here g (ca_tb g s (n + 1)) then n + 1 else ca_great g s n
end
section
/-! what holds of every state of the class; what a step of it keeps -/
def ca_ok (g : ca_S) : Prop :=
  (∀ s n j, ca_tb g s n = some j → j < ca_nm g) ∧ (∀ x j, j ∈ ca_ln g x → j < ca_nm g) ∧ (∀ x, (ca_ln g x).length ≤ 96) ∧ ∀ j, j < ca_nm g → ca_ms g j < 16 ∧ ¬ ca_iv g 10 j 1 < 0 ∧ (ca_iv g 10 j 1).toNatClampNeg < 5
def ca_to (g g' : ca_S) : Prop := ca_tb g' = ca_tb g ∧ ca_ms g' = ca_ms g ∧ ca_nm g' = ca_nm g ∧ (∀ j f, f = 0 ∨ f = 1 ∨ f = 3 → ca_iv g' 10 j f = ca_iv g 10 j f) ∧ ca_ok g'
theorem ca_to.rf {g : ca_S} (h : ca_ok g) : ca_to g g := ⟨rfl, rfl, rfl, fun _ _ _ => rfl, h⟩
theorem ca_to.tr {a b c : ca_S} (h : ca_to a b) (h' : ca_to b c) : ca_to a c := ⟨h'.1.trans h.1, h'.2.1.trans h.2.1, h'.2.2.1.trans h.2.2.1, fun j f hf => (h'.2.2.2.1 j f hf).trans (h.2.2.2.1 j f hf), h'.2.2.2.2⟩
theorem ca_to.ok {g g' : ca_S} (h : ca_to g g') : ca_ok g' := h.2.2.2.2
theorem ca_to.lt {g g' : ca_S} (h : ca_to g g') {j : Nat} (hj : j < ca_nm g) : j < ca_nm g' := by rw [h.2.2.1]; exact hj
theorem ca_iv_s (g : ca_S) (k i f : Nat) (v : Int32) : ca_iv (ca_si g k i f v) k i f = v := mr_u3_s _ _ _ _ _
theorem ca_iv_n (g : ca_S) (k i f : Nat) (v : Int32) {a b c : Nat} (h : ¬ (a = k ∧ b = i ∧ c = f)) : ca_iv (ca_si g k i f v) a b c = ca_iv g a b c := mr_u3_n _ _ _ _ _ h
theorem ca_to.si {g : ca_S} (h : ca_ok g) (k i f : Nat) (v : Int32) (hk : ¬ (k = 10 ∧ (f = 0 ∨ f = 1 ∨ f = 3))) : ca_to g (ca_si g k i f v) := by
  have key : ∀ j c, c = 0 ∨ c = 1 ∨ c = 3 → ca_iv (ca_si g k i f v) 10 j c = ca_iv g 10 j c := fun j c hc => ca_iv_n _ _ _ _ _ (fun z => hk ⟨z.1.symm, by rw [← z.2.2]; exact hc⟩)
  refine ⟨rfl, rfl, rfl, key, h.1, h.2.1, h.2.2.1, fun j hj => ?_⟩
  rw [key j 1 (Or.inr (Or.inl rfl))]
  exact h.2.2.2 j hj
theorem ca_ln_s (g : ca_S) (x : Nat) (l : List Nat) : ca_ln (ca_sn g x l) x = l := if_pos rfl
theorem ca_ln_n (g : ca_S) (x : Nat) (l : List Nat) {y : Nat} (h : y ≠ x) : ca_ln (ca_sn g x l) y = ca_ln g y := if_neg h
theorem ca_to.sn {g : ca_S} (h : ca_ok g) (x : Nat) (l : List Nat) (h1 : ∀ j ∈ l, j < ca_nm g) (h2 : l.length ≤ 96) : ca_to g (ca_sn g x l) := by
  refine ⟨rfl, rfl, rfl, fun _ _ _ => rfl, h.1, fun y j hj => ?_, fun y => ?_, h.2.2.2⟩
  · by_cases hy : y = x
    · subst hy
      rw [ca_ln_s] at hj
      exact h1 j hj
    · rw [ca_ln_n _ _ _ hy] at hj
      exact h.2.1 y j hj
  · by_cases hy : y = x
    · subst hy
      rw [ca_ln_s]
      exact h2
    · rw [ca_ln_n _ _ _ hy]
      exact h.2.2.1 y
theorem ca_to.app {g : ca_S} (h : ca_ok g) (x : Nat) {j : Nat} (hj : j < ca_nm g) : ca_to g (ca_app g x j) := by
  unfold ca_app
  split
  · next hlt =>
    refine ca_to.sn h x _ (fun i hi => ?_) ?_
    · rcases List.mem_append.mp hi with hi | hi
      · exact h.2.1 x i hi
      · rw [List.mem_singleton.mp hi]
        exact hj
    · rw [List.length_append, List.length_singleton]
      omega
  · exact ca_to.rf h
theorem ca_to.fail {g : ca_S} (h : ca_ok g) {j : Nat} (b : Bool) (hj : j < ca_nm g) : ca_to g (ca_fail g j b) :=
  have h1 := ca_to.si h 10 j 4 (if b then 5 else 4) (by omega)
  h1.tr (ca_to.app h1.ok _ (h1.lt hj))
theorem ca_to.act {g : ca_S} (h : ca_ok g) (j : Nat) : ca_to g (ca_act g j) := by
  unfold ca_act
  split
  · have h1 := ca_to.si h 7 (ca_ms g j) 0 1 (by omega)
    exact h1.tr (ca_to.si h1.ok _ _ _ _ (by omega))
  · split
    · exact ca_to.si h _ _ _ _ (by omega)
    · split
      · exact ca_to.si h _ _ _ _ (by omega)
      · split
        · exact ca_to.si h _ _ _ _ (by omega)
        · exact ca_to.si h _ _ _ _ (by omega)
theorem ca_to.perf {g : ca_S} (h : ca_ok g) {j : Nat} (hj : j < ca_nm g) : ca_to g (ca_perf g j) := by
  have h1 := ca_to.act h j
  have h2 := h1.tr (ca_to.si h1.ok 7 (ca_ms g j) 2 (ca_iv (ca_act g j) 7 (ca_ms g j) 2 + 1) (by omega))
  have h3 := h2.tr (ca_to.si h2.ok 10 j 4 1 (by omega))
  exact h3.tr (ca_to.app h3.ok 0 (h3.lt hj))
theorem ca_to.settle {g : ca_S} (h : ca_ok g) {j : Nat} (b : Bool) (hj : j < ca_nm g) : ca_to g (ca_settle g j b) := by
  unfold ca_settle
  split
  · have h1 := ca_to.si h 10 j 4 3 (by omega)
    have h2 := h1.tr (ca_to.si h1.ok 10 j 7 (ca_iv g 0 0 7) (by omega))
    exact h2.tr (ca_to.app h2.ok 2 (h2.lt hj))
  · split
    · have h1 := ca_to.si h 10 j 4 2 (by omega)
      exact h1.tr (ca_to.si h1.ok 10 j 5 _ (by omega))
    · split
      · have h1 := ca_to.si h 3 0 (ca_iv g 10 j 1).toNatClampNeg 0 (by omega)
        exact h1.tr (ca_to.fail h1.ok b (h1.lt hj))
      · exact ca_to.perf h hj
theorem ca_first_lt {g : ca_S} {u i : Nat} (h : ca_first g u = some i) : i < (ca_ln g 2).length := by
  unfold ca_first at h
  exact (List.findIdx?_eq_some_iff_findIdx_eq.mp h).1
theorem ca_getD {l : List Nat} {i : Nat} (h : i < l.length) : l.getD i 0 ∈ l := by
  rw [List.getD_eq_getElem?_getD, List.getElem?_eq_getElem h]
  exact List.getElem_mem h
theorem ca_to.take {g : ca_S} (h : ca_ok g) (x i : Nat) : ca_to g (ca_sn g x ((ca_ln g x).eraseIdx i)) :=
  ca_to.sn h x _ (fun j hj => h.2.1 x j (List.mem_of_mem_eraseIdx hj)) (Nat.le_trans (by rw [List.length_eraseIdx]; split <;> omega) (h.2.2.1 x))
theorem ca_to.wake (u : Nat) : ∀ (n : Nat) {g : ca_S}, ca_ok g → ca_to g (ca_wake u n g)
  | 0, g, h => ca_to.rf h
  | n + 1, g, h => by
    unfold ca_wake
    split
    · exact ca_to.rf h
    · next i hi =>
      have h1 := ca_to.take h 2 i
      have hj := h1.lt (h.2.1 2 _ (ca_getD (ca_first_lt hi)))
      have h2 := h1.tr (ca_to.settle h1.ok false hj)
      exact h2.tr (ca_to.wake u n h2.ok)
theorem ca_to.turn {g : ca_S} (h : ca_ok g) {j : Nat} (b : Bool) (hj : j < ca_nm g) : ca_to g (ca_turn g j b) := by
  unfold ca_turn
  have h1 := ca_to.settle h b hj
  simp only
  split
  · exact h1
  · exact h1.tr (ca_to.wake _ 12 h1.ok)
theorem ca_to.give (s : Nat) : ∀ (f n : Nat) {g : ca_S}, ca_ok g → ca_to g (ca_give s n f g)
  | 0, n, g, h => ca_to.rf h
  | f + 1, n, g, h => by
    unfold ca_give
    have h1 : ca_to g (match ca_tb g s n with | none => g | some j => if ca_iv g 10 j 4 = 0 then ca_turn g j false else g) := by
      split
      · exact ca_to.rf h
      · next j hj =>
        split
        · exact ca_to.turn h false (h.1 s n j hj)
        · exact ca_to.rf h
    exact h1.tr (ca_to.give s f (n + 1) h1.ok)
theorem ca_to.turns {g : ca_S} (h : ca_ok g) (s : Nat) : ca_to g (ca_turns g s) := ca_to.give s _ 1 h
theorem ca_to.come {g : ca_S} (h : ca_ok g) (s : Nat) {j : Nat} (hj : j < ca_nm g) : ca_to g (ca_come g s j) := by
  unfold ca_come
  have h1 := ca_to.si h 10 j 4 0 (by omega)
  have h2 := h1.tr (ca_to.si h1.ok 10 j 6 (ca_iv g 0 0 7) (by omega))
  simp only
  split
  · have h3 := h2.tr (ca_to.turn h2.ok false (h2.lt hj))
    exact h3.tr (ca_to.turns h3.ok s)
  · exact h2.tr (ca_to.turns h2.ok s)
theorem ca_to.retry : ∀ (n : Nat) {g : ca_S}, ca_ok g → ca_to g (ca_retry n g)
  | 0, g, h => ca_to.rf h
  | n + 1, g, h => by
    unfold ca_retry
    have h1 : ca_to g (match ca_ln g 3 with | [] => g | j :: r => ca_turn (ca_sn g 3 r) j true) := by
      split
      · exact ca_to.rf h
      · next j r hl =>
        have hj : j < ca_nm g := h.2.1 3 j (by rw [hl]; exact List.mem_cons_self)
        have h1 := ca_to.sn h 3 r (fun i hi => h.2.1 3 i (by rw [hl]; exact List.mem_cons_of_mem _ hi)) (by have := h.2.2.1 3; rw [hl, List.length_cons] at this; omega)
        exact h1.tr (ca_to.turn h1.ok true (h1.lt hj))
    exact h1.tr (ca_to.retry n h1.ok)
theorem ca_to.longs : ∀ (n : Nat) {g : ca_S}, ca_ok g → ca_to g (ca_longs n g)
  | 0, g, h => ca_to.rf h
  | n + 1, g, h => by
    unfold ca_longs
    split
    · exact ca_to.rf h
    · next j r hl =>
      split
      · exact ca_to.rf h
      · have hj : j < ca_nm g := h.2.1 2 j (by rw [hl]; exact List.mem_cons_self)
        have h1 := ca_to.sn h 2 r (fun i hi => h.2.1 2 i (by rw [hl]; exact List.mem_cons_of_mem _ hi)) (by have := h.2.2.1 2; rw [hl, List.length_cons] at this; omega)
        have h2 := h1.tr (ca_to.si h1.ok 10 j 4 5 (by omega))
        have h3 := h2.tr (ca_to.app h2.ok 1 (h2.lt hj))
        exact h3.tr (ca_to.longs n h3.ok)
theorem ca_to.tick {g : ca_S} (h : ca_ok g) (t : Int32) : ca_to g (ca_tick g t) := by
  unfold ca_tick
  have h1 := ca_to.si h 0 0 7 t (by omega)
  have h2 := h1.tr (ca_to.retry (ca_ln (ca_si g 0 0 7 t) 3).length h1.ok)
  exact h2.tr (ca_to.longs _ h2.ok)
theorem ca_to.lose (s : Nat) : ∀ (f n : Nat) {g : ca_S} (a : Nat), ca_ok g → ca_to g (ca_lose s n f g a).1
  | 0, n, g, a, h => ca_to.rf h
  | f + 1, n, g, a, h => by
    unfold ca_lose
    split
    · exact ca_to.lose s f (n + 1) a h
    · next j hj =>
      split
      · have h1 := ca_to.si h 10 j 4 6 (by omega)
        exact h1.tr (ca_to.lose s f (n + 1) (a + 1) h1.ok)
      · exact ca_to.lose s f (n + 1) a h
theorem ca_to.rep (s : Nat) : ∀ (f n : Nat) {g : ca_S} (a : Nat), ca_ok g → ca_to g (ca_rep s n f g a).1
  | 0, n, g, a, h => ca_to.rf h
  | f + 1, n, g, a, h => by
    unfold ca_rep
    split
    · exact ca_to.rep s f (n + 1) a h
    · next j hj =>
      split
      · have h1 := ca_to.come h s (h.1 s n j hj)
        exact h1.tr (ca_to.rep s f (n + 1) (a + 1) h1.ok)
      · exact ca_to.rep s f (n + 1) a h
theorem ca_ok.mk {g : ca_S} (h : ca_ok g) (s n : Nat) (nm fn : Int32) (u : Nat) (v : Int32) (hu : u < 16) (h1 : ¬ fn < 0) (h2 : fn.toNatClampNeg < 5) : ca_ok (ca_mk g s n nm fn u v) := by
  refine ⟨fun a b j hj => ?_, fun x j hj => Nat.lt_succ_of_lt (h.2.1 x j hj), h.2.2.1, fun j hj => ?_⟩
  · show j < ca_nm g + 1
    by_cases hab : a = s ∧ b = n
    · have : (some (ca_nm g) : Option Nat) = some j := (if_pos hab).symm.trans hj
      cases this
      exact Nat.lt_succ_self _
    · have := h.1 a b j ((if_neg hab).symm.trans hj)
      omega
  · by_cases hq : j = ca_nm g
    · subst hq
      have e1 : ca_ms (ca_mk g s n nm fn u v) (ca_nm g) = u := if_pos rfl
      have e2 : ca_iv (ca_mk g s n nm fn u v) 10 (ca_nm g) 1 = fn := by
        show (if (10 : Nat) = 10 ∧ ca_nm g = ca_nm g then _ else _) = fn
        rw [if_pos ⟨rfl, rfl⟩]
        rfl
      rw [e1, e2]
      exact ⟨hu, h1, h2⟩
    · have e1 : ca_ms (ca_mk g s n nm fn u v) j = ca_ms g j := if_neg hq
      have e2 : ca_iv (ca_mk g s n nm fn u v) 10 j 1 = ca_iv g 10 j 1 := if_neg (fun z => hq z.2)
      have hj' : j < ca_nm g + 1 := hj
      rw [e1, e2]
      exact h.2.2.2 j (by omega)
end
section
/-! the class's state as a raw state (kinds below 20; the rest is another's): 0 the object, 1 senders, 2 subjects, 3 failing, 4 Sender, 5 messages, 6 skipped, 7 Subject, 8 Line, 9 places, 10 Message -/
def ma_iv (g : ca_S) (q : mr_St) (k i f : Nat) : Int32 := if k = 8 then (if f = 1 then Int32.ofNat (ca_ln g i).length else 0) else if k < 20 then ca_iv g k i f else mr_iv q k i f
def ma_rv (g : ca_S) (q : mr_St) (k i f : Nat) : Option (Nat × Nat) :=
  if k = 0 then (if f = 0 then some (1, 0) else if f = 1 then some (2, 0) else if f = 2 then some (3, 0) else if f < 7 then some (8, f - 3) else none)
  else if k = 1 then (if f < 4 then some (4, f) else none)
  else if k = 2 then (if f < 16 then some (7, f) else none)
  else if k = 4 then (if f = 0 then some (5, i) else if f = 1 then some (6, i) else none)
  else if k = 5 then (ca_tb g i f).map (fun j => (10, j))
  else if k = 8 then (if f = 0 then some (9, i) else none)
  else if k = 9 then ((ca_ln g i)[f]?).map (fun j => (10, j))
  else if k = 10 then (if f = 2 then some (7, ca_ms g i) else none)
  else if k < 20 then none else mr_rv q k i f
def ma_pn (g : ca_S) (q : mr_St) (k : Nat) : Nat := if k < 4 then 1 else if k = 7 then 16 else if k < 10 then 4 else if k = 10 then ca_nm g else if k < 20 then 0 else mr_pn q k
def ma_R (g : ca_S) (q : mr_St) : mr_St := (ma_iv g q, mr_lv q, ma_rv g q, ma_pn g q)
theorem ma_sI (g : ca_S) (q : mr_St) (k i f : Nat) (v : Int32) (hk : k < 20) (h8 : k ≠ 8) : mr_sI (ma_R g q) k i f v = ma_R (ca_si g k i f v) q := by
  show (mr_u3 (ma_iv g q) k i f v, mr_lv q, ma_rv g q, ma_pn g q) = _
  refine Prod.ext ?_ rfl
  funext a b c
  show mr_u3 (ma_iv g q) k i f v a b c = ma_iv (ca_si g k i f v) q a b c
  by_cases h : a = k ∧ b = i ∧ c = f
  · obtain ⟨rfl, rfl, rfl⟩ := h
    rw [mr_u3_s]
    unfold ma_iv
    rw [if_neg h8, if_pos hk, ca_iv_s]
  · rw [mr_u3_n _ _ _ _ _ h]
    unfold ma_iv
    rw [ca_iv_n _ _ _ _ _ h]
    rfl
theorem ma_lst {x : Nat} (h : x < 4) (g : ca_S) (q : mr_St) : ma_rv g q 1 0 x = some (4, x) := by unfold ma_rv; rw [if_neg (by decide), if_pos rfl, if_pos h]
theorem ma_sub {x : Nat} (h : x < 16) (g : ca_S) (q : mr_St) : ma_rv g q 2 0 x = some (7, x) := by unfold ma_rv; rw [if_neg (by decide), if_neg (by decide), if_pos rfl, if_pos h]
theorem ma_wf {g : ca_S} {q : mr_St} (h : ca_ok g) (hq : ∀ k i f x, 20 ≤ k → i < mr_pn q k → mr_rv q k i f = some x → x.2 < mr_pn q x.1 ∧ 20 ≤ x.1) : mr_wf (ma_R g q) := by
  intro k i f x hi hx
  change i < ma_pn g q k at hi
  change ma_rv g q k i f = some x at hx
  show x.2 < ma_pn g q x.1
  unfold ma_rv at hx
  by_cases h0 : k = 0
  · subst h0
    rw [if_pos rfl] at hx
    split at hx
    · cases hx; decide
    · split at hx
      · cases hx; decide
      · split at hx
        · cases hx; decide
        · split at hx
          · cases hx
            show f - 3 < ma_pn g q 8
            have : ma_pn g q 8 = 4 := rfl
            omega
          · cases hx
  rw [if_neg h0] at hx
  by_cases h1 : k = 1
  · rw [if_pos h1] at hx
    split at hx
    · cases hx; assumption
    · cases hx
  rw [if_neg h1] at hx
  by_cases h2 : k = 2
  · rw [if_pos h2] at hx
    split at hx
    · cases hx; assumption
    · cases hx
  rw [if_neg h2] at hx
  by_cases h4 : k = 4
  · subst h4
    rw [if_pos rfl] at hx
    split at hx
    · cases hx; exact hi
    · split at hx
      · cases hx; exact hi
      · cases hx
  rw [if_neg h4] at hx
  by_cases h5 : k = 5
  · rw [if_pos h5] at hx
    cases ht : ca_tb g i f with
    | none => rw [ht] at hx; cases hx
    | some j => rw [ht] at hx; cases hx; exact h.1 i f j ht
  rw [if_neg h5] at hx
  by_cases h8 : k = 8
  · subst h8
    rw [if_pos rfl] at hx
    split at hx
    · cases hx; exact hi
    · cases hx
  rw [if_neg h8] at hx
  by_cases h9 : k = 9
  · rw [if_pos h9] at hx
    cases ht : (ca_ln g i)[f]? with
    | none => rw [ht] at hx; cases hx
    | some j => rw [ht] at hx; cases hx; exact h.2.1 i j (List.mem_of_getElem? ht)
  rw [if_neg h9] at hx
  by_cases h10 : k = 10
  · subst h10
    rw [if_pos rfl] at hx
    split at hx
    · cases hx; exact (h.2.2.2 i hi).1
    · cases hx
  rw [if_neg h10] at hx
  by_cases h20 : k < 20
  · rw [if_pos h20] at hx; cases hx
  rw [if_neg h20] at hx
  have hp : ma_pn g q k = mr_pn q k := by
    unfold ma_pn
    rw [if_neg (by omega), if_neg (by omega), if_neg (by omega), if_neg h10, if_neg h20]
  rw [hp] at hi
  obtain ⟨g1, g2⟩ := hq k i f x (by omega) hi hx
  have hp2 : ma_pn g q x.1 = mr_pn q x.1 := by
    unfold ma_pn
    rw [if_neg (by omega), if_neg (by omega), if_neg (by omega), if_neg (by omega), if_neg (by omega)]
  rw [hp2]
  exact g1
end
