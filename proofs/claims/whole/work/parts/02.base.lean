/-! A world by kinds: the cell (k, i) stands at the address ad k i and holds C k i. mg_G: the machine at a pc, over any heap that holds the world. -/
abbrev mg_Ad : Type := Nat → Nat → Nat
abbrev mg_Ct : Type := Nat → Nat → Option va_E
def mg_u {α : Type} (f : Nat → Nat → α) (k i : Nat) (v : α) : Nat → Nat → α := fun a b => if a = k ∧ b = i then v else f a b
theorem mg_u_s {α : Type} (f : Nat → Nat → α) (k i : Nat) (v : α) : mg_u f k i v k i = v := by simp [mg_u]
theorem mg_u_n {α : Type} (f : Nat → Nat → α) (k i : Nat) (v : α) {a b : Nat} (h : ¬ (a = k ∧ b = i)) : mg_u f k i v a b = f a b := if_neg h
def mg_W (D : va_G) (cl : List vw_C) (Z : Nat × Cell) (A : Nat → Prop) (ad : mg_Ad) (C : mg_Ct) (H : Heap) : Prop :=
  (∀ (k i : Nat) (e : va_E), C k i = some e → va_at D cl (ad k i, e) H) ∧
  (∀ k i k' i' : Nat, C k i ≠ none → C k' i' ≠ none → ad k i = ad k' i' → k = k' ∧ i = i') ∧ (∀ k i : Nat, C k i ≠ none → A (ad k i)) ∧
  H[Z.1]? = some Z.2 ∧ ∀ k i : Nat, C k i ≠ none → ad k i ≠ Z.1
theorem mg_W.lt {D : va_G} {cl : List vw_C} {Z : Nat × Cell} {A : Nat → Prop} {ad : mg_Ad} {C : mg_Ct} {H : Heap} (h : mg_W D cl Z A ad C H) {k i : Nat} (hc : C k i ≠ none) : ad k i < H.size := by
  cases hq : C k i with
  | none => exact absurd hq hc
  | some e => exact (h.1 k i e hq).lt
theorem mg_W.zlt {D : va_G} {cl : List vw_C} {Z : Nat × Cell} {A : Nat → Prop} {ad : mg_Ad} {C : mg_Ct} {H : Heap} (h : mg_W D cl Z A ad C H) : Z.1 < H.size := (Array.getElem?_eq_some_iff.mp h.2.2.2.1).1
theorem mg_W.mono {D : va_G} {cl : List vw_C} {Z : Nat × Cell} {A B : Nat → Prop} {ad : mg_Ad} {C : mg_Ct} {H : Heap} (h : mg_W D cl Z A ad C H) (hAB : ∀ q, A q → B q) : mg_W D cl Z B ad C H :=
  ⟨h.1, h.2.1, fun k i hc => hAB _ (h.2.2.1 k i hc), h.2.2.2⟩
theorem mg_W.put {D : va_G} {cl : List vw_C} {Z : Nat × Cell} {A : Nat → Prop} {ad : mg_Ad} {C : mg_Ct} {H H1 : Heap} {k i : Nat} {e : va_E} (h : mg_W D cl Z A ad C H) (hc : C k i ≠ none) (he : va_at D cl (ad k i, e) H1) (oq : ∀ q : Nat, q ≠ ad k i → H1[q]? = H[q]?) : mg_W D cl Z A ad (mg_u C k i (some e)) H1 := by
  have key : ∀ a b : Nat, mg_u C k i (some e) a b ≠ none → C a b ≠ none := by
    intro a b hn
    by_cases hq : a = k ∧ b = i
    · obtain ⟨rfl, rfl⟩ := hq
      exact hc
    · rwa [mg_u_n _ _ _ _ hq] at hn
  refine ⟨fun a b e' he' => ?_, fun a b a' b' h1 h2 => h.2.1 a b a' b' (key a b h1) (key a' b' h2), fun a b h1 => h.2.2.1 a b (key a b h1), ?_, fun a b h1 => h.2.2.2.2 a b (key a b h1)⟩
  · by_cases hq : a = k ∧ b = i
    · obtain ⟨rfl, rfl⟩ := hq
      rw [mg_u_s] at he'
      cases he'
      exact he
    · rw [mg_u_n _ _ _ _ hq] at he'
      exact (h.1 a b e' he').kept (oq _ (fun z => hq (h.2.1 a b k i (by rw [he']; exact fun z => by cases z) hc z)))
  · rw [oq _ (fun z => h.2.2.2.2 k i hc z.symm)]
    exact h.2.2.2.1
theorem mg_W.new {D : va_G} {cl : List vw_C} {Z : Nat × Cell} {A : Nat → Prop} {ad : mg_Ad} {C : mg_Ct} {H H1 : Heap} {k i q0 : Nat} {e : va_E} (h : mg_W D cl Z A ad C H) (hc : C k i = none) (hq0 : q0 = H.size) (hA : A q0) (he : va_at D cl (q0, e) H1) (oq : ∀ q : Nat, q < H.size → H1[q]? = H[q]?) : mg_W D cl Z A (mg_u ad k i q0) (mg_u C k i (some e)) H1 := by
  have key : ∀ a b : Nat, mg_u C k i (some e) a b ≠ none → (a = k ∧ b = i) ∨ (¬ (a = k ∧ b = i) ∧ C a b ≠ none) := by
    intro a b hn
    by_cases hq : a = k ∧ b = i
    · exact Or.inl hq
    · rw [mg_u_n _ _ _ _ hq] at hn
      exact Or.inr ⟨hq, hn⟩
  refine ⟨fun a b e' he' => ?_, fun a b a' b' h1 h2 hz => ?_, fun a b h1 => ?_, ?_, fun a b h1 => ?_⟩
  · by_cases hq : a = k ∧ b = i
    · obtain ⟨rfl, rfl⟩ := hq
      rw [mg_u_s] at he' ⊢
      cases he'
      exact he
    · rw [mg_u_n _ _ _ _ hq] at he' ⊢
      exact (h.1 a b e' he').kept (oq _ (h.1 a b e' he').lt)
  · rcases key a b h1 with g1 | ⟨g1, c1⟩ <;> rcases key a' b' h2 with g2 | ⟨g2, c2⟩
    · exact ⟨g1.1.trans g2.1.symm, g1.2.trans g2.2.symm⟩
    · obtain ⟨rfl, rfl⟩ := g1
      rw [mg_u_s, mg_u_n _ _ _ _ g2] at hz
      have := h.lt c2
      omega
    · obtain ⟨rfl, rfl⟩ := g2
      rw [mg_u_s, mg_u_n _ _ _ _ g1] at hz
      have := h.lt c1
      omega
    · rw [mg_u_n _ _ _ _ g1, mg_u_n _ _ _ _ g2] at hz
      exact h.2.1 a b a' b' c1 c2 hz
  · rcases key a b h1 with ⟨rfl, rfl⟩ | ⟨g1, c1⟩
    · rw [mg_u_s]; exact hA
    · rw [mg_u_n _ _ _ _ g1]; exact h.2.2.1 a b c1
  · rw [oq _ h.zlt]
    exact h.2.2.2.1
  · have hz := h.zlt
    rcases key a b h1 with ⟨rfl, rfl⟩ | ⟨g1, c1⟩
    · rw [mg_u_s]; omega
    · rw [mg_u_n _ _ _ _ g1]; exact h.2.2.2.2 a b c1
/-- a world that is not touched -/
theorem mg_W.kept {D : va_G} {cl : List vw_C} {Z : Nat × Cell} {A : Nat → Prop} {ad : mg_Ad} {C : mg_Ct} {H H1 : Heap} (h : mg_W D cl Z A ad C H) (oq : ∀ q : Nat, q < H.size → H1[q]? = H[q]?) : mg_W D cl Z A ad C H1 :=
  ⟨fun k i e he => (h.1 k i e he).kept (oq _ (h.1 k i e he).lt), h.2.1, h.2.2.1, by rw [oq _ h.zlt]; exact h.2.2.2.1, h.2.2.2.2⟩
/-- two worlds that say the same -/
theorem mg_W.cg {D : va_G} {cl : List vw_C} {Z : Nat × Cell} {A : Nat → Prop} {ad ad' : mg_Ad} {C C' : mg_Ct} {H : Heap} (h : mg_W D cl Z A ad C H) (hc : ∀ k i e, C' k i = some e → ad' k i = ad k i ∧ C k i = some e) : mg_W D cl Z A ad' C' H := by
  have key : ∀ k i, C' k i ≠ none → ad' k i = ad k i ∧ C k i ≠ none := by
    intro k i hn
    cases hq : C' k i with
    | none => exact absurd hq hn
    | some e =>
      obtain ⟨h1, h2⟩ := hc k i e hq
      exact ⟨h1, by rw [h2]; exact fun z => by cases z⟩
  refine ⟨fun k i e he => ?_, fun k i k' i' h1 h2 hz => ?_, fun k i h1 => ?_, h.2.2.2.1, fun k i h1 => ?_⟩
  · obtain ⟨h1, h2⟩ := hc k i e he
    rw [h1]
    exact h.1 k i e h2
  · rw [(key k i h1).1, (key k' i' h2).1] at hz
    exact h.2.1 k i k' i' (key k i h1).2 (key k' i' h2).2 hz
  · rw [(key k i h1).1]
    exact h.2.2.1 k i (key k i h1).2
  · rw [(key k i h1).1]
    exact h.2.2.2.2 k i (key k i h1).2
/-- the words B hold now, and wherever the tables are warmer and the cell Z stands as it is -/
def mg_Zk (B : List Cond) (Z : Nat × Cell) (s : State) : Prop := ∀ U : State, s.WarmedH U.vm → U.heap[Z.1]? = some Z.2 → ∀ w ∈ B, ∀ a : Array Value, w.before a U = true
theorem mg_Zk.moved {B : List Cond} {Z : Nat × Cell} {s U : State} (h : mg_Zk B Z s) (hW : s.WarmedH U.vm) : mg_Zk B Z U := fun V hV hz => h V (State.WarmedH.trans hW hV) hz
/-- locals: place i holds L i -/
def mg_L (ls : Array Slot) (nL : Nat) (L : List (Option Value)) : Prop := ls.size = nL ∧ lv_wf ls ∧ (∀ (i : Nat) (v : Value), L[i]? = some (some v) → ls[i]? = some (.val v)) ∧ ∀ (i : Nat) (v : Value), L[i]? = some (some v) → v.category = 1
def mg_st : List (Option Value) → Nat → Value → List (Option Value)
  | [], 0, v => [some v]
  | [], n + 1, v => none :: mg_st [] n v
  | _ :: L, 0, v => some v :: L
  | a :: L, n + 1, v => a :: mg_st L n v
theorem mg_st_s : ∀ (L : List (Option Value)) (i : Nat) (v : Value), (mg_st L i v)[i]? = some (some v)
  | [], 0, v => rfl
  | [], n + 1, v => by rw [mg_st, List.getElem?_cons_succ]; exact mg_st_s [] n v
  | _ :: L, 0, v => rfl
  | a :: L, n + 1, v => by rw [mg_st, List.getElem?_cons_succ]; exact mg_st_s L n v
theorem mg_st_n : ∀ (L : List (Option Value)) (i : Nat) (v : Value) (j : Nat) (w : Value), j ≠ i → (mg_st L i v)[j]? = some (some w) → L[j]? = some (some w)
  | [], 0, v, j, w, h, hw => by
    cases j with
    | zero => exact absurd rfl h
    | succ j => simp [mg_st] at hw
  | [], n + 1, v, j, w, h, hw => by
    cases j with
    | zero => simp [mg_st] at hw
    | succ j =>
      rw [mg_st, List.getElem?_cons_succ] at hw
      have := mg_st_n [] n v j w (fun z => h (by rw [z])) hw
      simp at this
  | a :: L, 0, v, j, w, h, hw => by
    cases j with
    | zero => exact absurd rfl h
    | succ j =>
      rw [mg_st, List.getElem?_cons_succ] at hw
      rw [List.getElem?_cons_succ]
      exact hw
  | a :: L, n + 1, v, j, w, h, hw => by
    cases j with
    | zero => simpa [mg_st] using hw
    | succ j =>
      rw [mg_st, List.getElem?_cons_succ] at hw
      rw [List.getElem?_cons_succ]
      exact mg_st_n L n v j w (fun z => h (by rw [z])) hw
def mg_pr (L : List (Option Value)) : List (Nat × Value) := (List.range L.length).filterMap fun j => match L[j]? with
  | some (some v) => some (j, v)
  | _ => none
theorem mg_pr_in {L : List (Option Value)} {i : Nat} {v : Value} (h : L[i]? = some (some v)) : (i, v) ∈ mg_pr L := by
  refine List.mem_filterMap.mpr ⟨i, List.mem_range.mpr (List.getElem?_eq_some_iff.mp h).1, ?_⟩
  rw [h]
theorem mg_pr_of {L : List (Option Value)} {q : Nat × Value} (h : q ∈ mg_pr L) : L[q.1]? = some (some q.2) := by
  obtain ⟨j, -, hj⟩ := List.mem_filterMap.mp h
  split at hj
  · rename_i v hv
    cases hj
    exact hv
  · cases hj
theorem mg_L.has {ls : Array Slot} {nL : Nat} {L : List (Option Value)} (h : mg_L ls nL L) : lv_has ls nL (mg_pr L) := ⟨h.1, h.2.1, fun q hq => h.2.2.1 q.1 q.2 (mg_pr_of hq)⟩
theorem mg_L.st {ls ls' : Array Slot} {nL : Nat} {L : List (Option Value)} {i : Nat} {v : Value} (h : mg_L ls nL L) (hv : v.category = 1) (h' : lv_has ls' nL ((i, v) :: (mg_pr L).filter (fun q => !(q.1 == i) && !(q.1 + 1 == i && q.2.category == 2)))) : mg_L ls' nL (mg_st L i v) := by
  refine ⟨h'.1, h'.2.1, fun j w hj => ?_, fun j w hj => ?_⟩
  · by_cases hji : j = i
    · subst hji
      rw [mg_st_s] at hj
      cases hj
      exact h'.2.2 (j, v) List.mem_cons_self
    · have h1 := mg_st_n L i v j w hji hj
      have h2 := h.2.2.2 j w h1
      exact h'.2.2 (j, w) (List.mem_cons_of_mem _ (List.mem_filter.mpr ⟨mg_pr_in h1, by simp [hji, h2]⟩))
  · by_cases hji : j = i
    · subst hji
      rw [mg_st_s] at hj
      cases hj
      exact hv
    · exact h.2.2.2 j w (mg_st_n L i v j w hji hj)
theorem mg_L.weak {ls : Array Slot} {nL : Nat} {L L' : List (Option Value)} (h : mg_L ls nL L) (hs : ∀ (i : Nat) (v : Value), L'[i]? = some (some v) → L[i]? = some (some v)) : mg_L ls nL L' := ⟨h.1, h.2.1, fun i v hv => h.2.2.1 i v (hs i v hv), fun i v hv => h.2.2.2 i v (hs i v hv)⟩
def mg_G (p : Program) (l : Launch) (e : Env) (R : Room) (s : State) (m : MethodId) (args : Array Value) (below : List Frame) (meth : Method) (c : Code) (D : va_G) (cl : List vw_C) (Z : Nat × Cell) (A : Nat → Prop) (H0 : Heap) (nL : Nat) (Q : State → Prop) (ad : mg_Ad) (C : mg_Ct) (L : List (Option Value)) (cells slots : Nat) (st : List Value) (pc : Nat) : Prop :=
  ∀ (H : Heap) (locs : List Loc) (ls : Array Slot), mg_W D cl Z A ad C H → va_S A H0 H locs → mg_L ls nL L → W p l e R s m args below meth c H locs cells slots Q (F0 m pc ls st)
def mg_K (p : Program) (m : MethodId) (c : Code) (cc : ByteArray) (nL : Nat) (s : State) (args : Array Value) (Ts : List Cond) (own : String) (D : va_G) (cl : List vw_C) (Z : Nat × Cell) (tys : List (ClassId × FieldType)) : Prop := CallFix p m c cc nL s args Ts own ∧ va_K D cl tys s ∧ mg_Zk Ts Z s
section MG1
variable {p : Program} {l : Launch} {e : Env} {R : Room} {s : State} {m : MethodId} {args : Array Value} {below : List Frame} {meth : Method} {c : Code} {Q : State → Prop}
variable {D : va_G} {cl : List vw_C} {Z : Nat × Cell} {tys : List (ClassId × FieldType)} {A : Nat → Prop} {H0 : Heap} {nL : Nat} {cc : ByteArray} {Ts : List Cond} {own : String}
variable {ad : mg_Ad} {C : mg_Ct} {L : List (Option Value)} {cells slots pc : Nat} {st : List Value}
theorem mg_iconst (K : mg_K p m c cc nL s args Ts own D cl Z tys) {n : Int} {v : Int32} (hd : decode cc pc = .ok (.iconst n, 1)) (hv : Int32.ofInt n = v) (k : mg_G p l e R s m args below meth c D cl Z A H0 nL Q ad C L cells slots (.int v :: st) (pc + 1)) : mg_G p l e R s m args below meth c D cl Z A H0 nL Q ad C L cells slots st pc :=
  fun H locs ls hW hS hL => lv_iconst K.1.1 K.1.2.1 hd hv (k H locs ls hW hS hL)
theorem mg_bipush (K : mg_K p m c cc nL s args Ts own D cl Z tys) {n : Int} {v : Int32} (hd : decode cc pc = .ok (.bipush n, 2)) (hv : (Int8.ofInt n).toInt32 = v) (k : mg_G p l e R s m args below meth c D cl Z A H0 nL Q ad C L cells slots (.int v :: st) (pc + 2)) : mg_G p l e R s m args below meth c D cl Z A H0 nL Q ad C L cells slots st pc :=
  fun H locs ls hW hS hL => lv_bipush K.1.1 K.1.2.1 hd hv (k H locs ls hW hS hL)
theorem mg_sipush (K : mg_K p m c cc nL s args Ts own D cl Z tys) {n : Int} {v : Int32} (hd : decode cc pc = .ok (.sipush n, 3)) (hv : (Int16.ofInt n).toInt32 = v) (k : mg_G p l e R s m args below meth c D cl Z A H0 nL Q ad C L cells slots (.int v :: st) (pc + 3)) : mg_G p l e R s m args below meth c D cl Z A H0 nL Q ad C L cells slots st pc :=
  fun H locs ls hW hS hL => lv_sipush K.1.1 K.1.2.1 hd hv (k H locs ls hW hS hL)
theorem mg_ldc (K : mg_K p m c cc nL s args Ts own D cl Z tys) {index : Nat} {v : Int32} (hd : decode cc pc = .ok (.ldc index, 2)) (hw : Jvm.Cond.constant own index v ∈ Ts) (k : mg_G p l e R s m args below meth c D cl Z A H0 nL Q ad C L cells slots (.int v :: st) (pc + 2)) : mg_G p l e R s m args below meth c D cl Z A H0 nL Q ad C L cells slots st pc :=
  fun H locs ls hW hS hL => lv_ldc K.1.1 K.1.2.1 K.1.2.2.2.1 (K.1.2.2.2.2 _ hw) hd (k H locs ls hW hS hL)
theorem mg_iload_n (K : mg_K p m c cc nL s args Ts own D cl Z tys) {j : Fin 4} {x : Int32} (hd : decode cc pc = .ok (.iload_n j, 1)) (hl : L[(j : Nat)]? = some (some (.int x))) (k : mg_G p l e R s m args below meth c D cl Z A H0 nL Q ad C L cells slots (.int x :: st) (pc + 1)) : mg_G p l e R s m args below meth c D cl Z A H0 nL Q ad C L cells slots st pc :=
  fun H locs ls hW hS hL => lv_iload_n K.1.1 K.1.2.1 hd rfl (hL.2.2.1 _ _ hl) (k H locs ls hW hS hL)
theorem mg_iload (K : mg_K p m c cc nL s args Ts own D cl Z tys) {j : Nat} {x : Int32} (hd : decode cc pc = .ok (.iload j, 2)) (hl : L[j]? = some (some (.int x))) (k : mg_G p l e R s m args below meth c D cl Z A H0 nL Q ad C L cells slots (.int x :: st) (pc + 2)) : mg_G p l e R s m args below meth c D cl Z A H0 nL Q ad C L cells slots st pc :=
  fun H locs ls hW hS hL => lv_iload K.1.1 K.1.2.1 hd (hL.2.2.1 _ _ hl) (k H locs ls hW hS hL)
theorem mg_aload_n (K : mg_K p m c cc nL s args Ts own D cl Z tys) {j : Fin 4} {r : Option Nat} (hd : decode cc pc = .ok (.aload_n j, 1)) (hl : L[(j : Nat)]? = some (some (va_rf r))) (k : mg_G p l e R s m args below meth c D cl Z A H0 nL Q ad C L cells slots (va_rf r :: st) (pc + 1)) : mg_G p l e R s m args below meth c D cl Z A H0 nL Q ad C L cells slots st pc := by
  intro H locs ls hW hS hL
  cases r with
  | none => exact lv_aload_nN K.1.1 K.1.2.1 hd rfl (hL.2.2.1 _ _ hl) (k H locs ls hW hS hL)
  | some x => exact lv_aload_n K.1.1 K.1.2.1 hd rfl (hL.2.2.1 _ _ hl) (k H locs ls hW hS hL)
theorem mg_aload (K : mg_K p m c cc nL s args Ts own D cl Z tys) {j : Nat} {r : Option Nat} (hd : decode cc pc = .ok (.aload j, 2)) (hl : L[j]? = some (some (va_rf r))) (k : mg_G p l e R s m args below meth c D cl Z A H0 nL Q ad C L cells slots (va_rf r :: st) (pc + 2)) : mg_G p l e R s m args below meth c D cl Z A H0 nL Q ad C L cells slots st pc := by
  intro H locs ls hW hS hL
  cases r with
  | none => exact lv_aloadN K.1.1 K.1.2.1 hd (hL.2.2.1 _ _ hl) (k H locs ls hW hS hL)
  | some x => exact lv_aload K.1.1 K.1.2.1 hd (hL.2.2.1 _ _ hl) (k H locs ls hW hS hL)
theorem mg_istore_n (K : mg_K p m c cc nL s args Ts own D cl Z tys) {j : Fin 4} {x : Int32} (hd : decode cc pc = .ok (.istore_n j, 1)) (hi : (j : Nat) < nL) (k : mg_G p l e R s m args below meth c D cl Z A H0 nL Q ad C (mg_st L (j : Nat) (.int x)) cells slots st (pc + 1)) : mg_G p l e R s m args below meth c D cl Z A H0 nL Q ad C L cells slots (.int x :: st) pc :=
  fun H locs ls hW hS hL => lv_istore_n K.1.1 K.1.2.1 hd rfl hL.has hi rfl (fun ls' h' => k H locs ls' hW hS (hL.st rfl h'))
theorem mg_istore (K : mg_K p m c cc nL s args Ts own D cl Z tys) {j : Nat} {x : Int32} (hd : decode cc pc = .ok (.istore j, 2)) (hi : j < nL) (k : mg_G p l e R s m args below meth c D cl Z A H0 nL Q ad C (mg_st L j (.int x)) cells slots st (pc + 2)) : mg_G p l e R s m args below meth c D cl Z A H0 nL Q ad C L cells slots (.int x :: st) pc :=
  fun H locs ls hW hS hL => lv_istore K.1.1 K.1.2.1 hd hL.has hi rfl (fun ls' h' => k H locs ls' hW hS (hL.st rfl h'))
theorem mg_astore_n (K : mg_K p m c cc nL s args Ts own D cl Z tys) {j : Fin 4} {r : Option Nat} (hd : decode cc pc = .ok (.astore_n j, 1)) (hi : (j : Nat) < nL) (k : mg_G p l e R s m args below meth c D cl Z A H0 nL Q ad C (mg_st L (j : Nat) (va_rf r)) cells slots st (pc + 1)) : mg_G p l e R s m args below meth c D cl Z A H0 nL Q ad C L cells slots (va_rf r :: st) pc := by
  intro H locs ls hW hS hL
  cases r with
  | none => exact lv_astore_nN K.1.1 K.1.2.1 hd rfl hL.has hi rfl (fun ls' h' => k H locs ls' hW hS (hL.st rfl h'))
  | some x => exact lv_astore_n K.1.1 K.1.2.1 hd rfl hL.has hi rfl (fun ls' h' => k H locs ls' hW hS (hL.st rfl h'))
theorem mg_astore (K : mg_K p m c cc nL s args Ts own D cl Z tys) {j : Nat} {r : Option Nat} (hd : decode cc pc = .ok (.astore j, 2)) (hi : j < nL) (k : mg_G p l e R s m args below meth c D cl Z A H0 nL Q ad C (mg_st L j (va_rf r)) cells slots st (pc + 2)) : mg_G p l e R s m args below meth c D cl Z A H0 nL Q ad C L cells slots (va_rf r :: st) pc := by
  intro H locs ls hW hS hL
  cases r with
  | none => exact lv_astoreN K.1.1 K.1.2.1 hd hL.has hi rfl (fun ls' h' => k H locs ls' hW hS (hL.st rfl h'))
  | some x => exact lv_astore K.1.1 K.1.2.1 hd hL.has hi rfl (fun ls' h' => k H locs ls' hW hS (hL.st rfl h'))
theorem mg_iinc (K : mg_K p m c cc nL s args Ts own D cl Z tys) {j : Nat} {n : Int} {x v : Int32} (hd : decode cc pc = .ok (.iinc j n, 3)) (hl : L[j]? = some (some (.int x))) (hv : x + Int32.ofInt n = v) (hi : j < nL) (k : mg_G p l e R s m args below meth c D cl Z A H0 nL Q ad C (mg_st L j (.int v)) cells slots st (pc + 3)) : mg_G p l e R s m args below meth c D cl Z A H0 nL Q ad C L cells slots st pc := by
  intro H locs ls hW hS hL
  obtain ⟨q, hq⟩ := List.getElem?_of_mem (mg_pr_in hl)
  exact lv_iinc K.1.1 K.1.2.1 hd hL.has hq hv hi rfl (fun ls' h' => k H locs ls' hW hS (hL.st rfl h'))
theorem mg_iadd (K : mg_K p m c cc nL s args Ts own D cl Z tys) {x y : Int32} (hd : decode cc pc = .ok (.iadd, 1)) (k : mg_G p l e R s m args below meth c D cl Z A H0 nL Q ad C L cells slots (.int (x + y) :: st) (pc + 1)) : mg_G p l e R s m args below meth c D cl Z A H0 nL Q ad C L cells slots (.int y :: .int x :: st) pc :=
  fun H locs ls hW hS hL => lv_iadd K.1.1 K.1.2.1 hd (k H locs ls hW hS hL)
theorem mg_isub (K : mg_K p m c cc nL s args Ts own D cl Z tys) {x y : Int32} (hd : decode cc pc = .ok (.isub, 1)) (k : mg_G p l e R s m args below meth c D cl Z A H0 nL Q ad C L cells slots (.int (x - y) :: st) (pc + 1)) : mg_G p l e R s m args below meth c D cl Z A H0 nL Q ad C L cells slots (.int y :: .int x :: st) pc :=
  fun H locs ls hW hS hL => lv_isub K.1.1 K.1.2.1 hd (k H locs ls hW hS hL)
theorem mg_imul (K : mg_K p m c cc nL s args Ts own D cl Z tys) {x y : Int32} (hd : decode cc pc = .ok (.imul, 1)) (k : mg_G p l e R s m args below meth c D cl Z A H0 nL Q ad C L cells slots (.int (x * y) :: st) (pc + 1)) : mg_G p l e R s m args below meth c D cl Z A H0 nL Q ad C L cells slots (.int y :: .int x :: st) pc :=
  fun H locs ls hW hS hL => lv_imul K.1.1 K.1.2.1 hd (k H locs ls hW hS hL)
theorem mg_iand (K : mg_K p m c cc nL s args Ts own D cl Z tys) {x y : Int32} (hd : decode cc pc = .ok (.iand, 1)) (k : mg_G p l e R s m args below meth c D cl Z A H0 nL Q ad C L cells slots (.int (x &&& y) :: st) (pc + 1)) : mg_G p l e R s m args below meth c D cl Z A H0 nL Q ad C L cells slots (.int y :: .int x :: st) pc :=
  fun H locs ls hW hS hL => lv_iand K.1.1 K.1.2.1 hd (k H locs ls hW hS hL)
theorem mg_ineg (K : mg_K p m c cc nL s args Ts own D cl Z tys) {x : Int32} (hd : decode cc pc = .ok (.ineg, 1)) (k : mg_G p l e R s m args below meth c D cl Z A H0 nL Q ad C L cells slots (.int (-x) :: st) (pc + 1)) : mg_G p l e R s m args below meth c D cl Z A H0 nL Q ad C L cells slots (.int x :: st) pc :=
  fun H locs ls hW hS hL => lv_ineg K.1.1 K.1.2.1 hd (k H locs ls hW hS hL)
theorem mg_i2l (K : mg_K p m c cc nL s args Ts own D cl Z tys) {x : Int32} (hd : decode cc pc = .ok (.i2l, 1)) (k : mg_G p l e R s m args below meth c D cl Z A H0 nL Q ad C L cells slots (.long x.toInt64 :: st) (pc + 1)) : mg_G p l e R s m args below meth c D cl Z A H0 nL Q ad C L cells slots (.int x :: st) pc :=
  fun H locs ls hW hS hL => lv_i2l K.1.1 K.1.2.1 hd rfl (k H locs ls hW hS hL)
theorem mg_dup (K : mg_K p m c cc nL s args Ts own D cl Z tys) {v : Value} (hd : decode cc pc = .ok (.dup, 1)) (hv : v.category = 1) (k : mg_G p l e R s m args below meth c D cl Z A H0 nL Q ad C L cells slots (v :: v :: st) (pc + 1)) : mg_G p l e R s m args below meth c D cl Z A H0 nL Q ad C L cells slots (v :: st) pc :=
  fun H locs ls hW hS hL => lv_dup K.1.1 K.1.2.1 hd hv (k H locs ls hW hS hL)
theorem mg_pop (K : mg_K p m c cc nL s args Ts own D cl Z tys) {v : Value} (hd : decode cc pc = .ok (.pop, 1)) (hv : v.category = 1) (k : mg_G p l e R s m args below meth c D cl Z A H0 nL Q ad C L cells slots st (pc + 1)) : mg_G p l e R s m args below meth c D cl Z A H0 nL Q ad C L cells slots (v :: st) pc :=
  fun H locs ls hW hS hL => lv_pop K.1.1 K.1.2.1 hd hv (k H locs ls hW hS hL)
theorem mg_null (K : mg_K p m c cc nL s args Ts own D cl Z tys) (hd : decode cc pc = .ok (.aconst_null, 1)) (k : mg_G p l e R s m args below meth c D cl Z A H0 nL Q ad C L cells slots (va_rf none :: st) (pc + 1)) : mg_G p l e R s m args below meth c D cl Z A H0 nL Q ad C L cells slots st pc :=
  fun H locs ls hW hS hL => lv_null K.1.1 K.1.2.1 hd (k H locs ls hW hS hL)
theorem mg_goto (K : mg_K p m c cc nL s args Ts own D cl Z tys) {off : Int} (tgt : Nat) (hd : decode cc pc = .ok (.goto off, 3)) (ht : (pc : Int) + off = (tgt : Int)) (k : mg_G p l e R s m args below meth c D cl Z A H0 nL Q ad C L cells slots st tgt) : mg_G p l e R s m args below meth c D cl Z A H0 nL Q ad C L cells slots st pc :=
  fun H locs ls hW hS hL => lv_goto K.1.1 K.1.2.1 hd ht (k H locs ls hW hS hL)
theorem mg_if_eq (K : mg_K p m c cc nL s args Ts own D cl Z tys) {x : Int32} {off : Int} (tgt : Nat) (hd : decode cc pc = .ok (.ifCond .eq off, 3)) (ht : (pc : Int) + off = (tgt : Int)) (kt : x = 0 → mg_G p l e R s m args below meth c D cl Z A H0 nL Q ad C L cells slots st tgt) (kf : ¬ x = 0 → mg_G p l e R s m args below meth c D cl Z A H0 nL Q ad C L cells slots st (pc + 3)) : mg_G p l e R s m args below meth c D cl Z A H0 nL Q ad C L cells slots (.int x :: st) pc :=
  fun H locs ls hW hS hL => lv_if_eq K.1.1 K.1.2.1 hd ht (fun h => kt h H locs ls hW hS hL) (fun h => kf h H locs ls hW hS hL)
theorem mg_if_ne (K : mg_K p m c cc nL s args Ts own D cl Z tys) {x : Int32} {off : Int} (tgt : Nat) (hd : decode cc pc = .ok (.ifCond .ne off, 3)) (ht : (pc : Int) + off = (tgt : Int)) (kt : ¬ x = 0 → mg_G p l e R s m args below meth c D cl Z A H0 nL Q ad C L cells slots st tgt) (kf : x = 0 → mg_G p l e R s m args below meth c D cl Z A H0 nL Q ad C L cells slots st (pc + 3)) : mg_G p l e R s m args below meth c D cl Z A H0 nL Q ad C L cells slots (.int x :: st) pc :=
  fun H locs ls hW hS hL => lv_if_ne K.1.1 K.1.2.1 hd ht (fun h => kt h H locs ls hW hS hL) (fun h => kf h H locs ls hW hS hL)
theorem mg_if_lt (K : mg_K p m c cc nL s args Ts own D cl Z tys) {x : Int32} {off : Int} (tgt : Nat) (hd : decode cc pc = .ok (.ifCond .lt off, 3)) (ht : (pc : Int) + off = (tgt : Int)) (kt : x < 0 → mg_G p l e R s m args below meth c D cl Z A H0 nL Q ad C L cells slots st tgt) (kf : ¬ x < 0 → mg_G p l e R s m args below meth c D cl Z A H0 nL Q ad C L cells slots st (pc + 3)) : mg_G p l e R s m args below meth c D cl Z A H0 nL Q ad C L cells slots (.int x :: st) pc :=
  fun H locs ls hW hS hL => lv_if_lt K.1.1 K.1.2.1 hd ht (fun h => kt h H locs ls hW hS hL) (fun h => kf h H locs ls hW hS hL)
theorem mg_if_ge (K : mg_K p m c cc nL s args Ts own D cl Z tys) {x : Int32} {off : Int} (tgt : Nat) (hd : decode cc pc = .ok (.ifCond .ge off, 3)) (ht : (pc : Int) + off = (tgt : Int)) (kt : 0 ≤ x → mg_G p l e R s m args below meth c D cl Z A H0 nL Q ad C L cells slots st tgt) (kf : ¬ 0 ≤ x → mg_G p l e R s m args below meth c D cl Z A H0 nL Q ad C L cells slots st (pc + 3)) : mg_G p l e R s m args below meth c D cl Z A H0 nL Q ad C L cells slots (.int x :: st) pc :=
  fun H locs ls hW hS hL => lv_if_ge K.1.1 K.1.2.1 hd ht (fun h => kt h H locs ls hW hS hL) (fun h => kf h H locs ls hW hS hL)
theorem mg_if_gt (K : mg_K p m c cc nL s args Ts own D cl Z tys) {x : Int32} {off : Int} (tgt : Nat) (hd : decode cc pc = .ok (.ifCond .gt off, 3)) (ht : (pc : Int) + off = (tgt : Int)) (kt : 0 < x → mg_G p l e R s m args below meth c D cl Z A H0 nL Q ad C L cells slots st tgt) (kf : ¬ 0 < x → mg_G p l e R s m args below meth c D cl Z A H0 nL Q ad C L cells slots st (pc + 3)) : mg_G p l e R s m args below meth c D cl Z A H0 nL Q ad C L cells slots (.int x :: st) pc :=
  fun H locs ls hW hS hL => lv_if_gt K.1.1 K.1.2.1 hd ht (fun h => kt h H locs ls hW hS hL) (fun h => kf h H locs ls hW hS hL)
theorem mg_if_le (K : mg_K p m c cc nL s args Ts own D cl Z tys) {x : Int32} {off : Int} (tgt : Nat) (hd : decode cc pc = .ok (.ifCond .le off, 3)) (ht : (pc : Int) + off = (tgt : Int)) (kt : x ≤ 0 → mg_G p l e R s m args below meth c D cl Z A H0 nL Q ad C L cells slots st tgt) (kf : ¬ x ≤ 0 → mg_G p l e R s m args below meth c D cl Z A H0 nL Q ad C L cells slots st (pc + 3)) : mg_G p l e R s m args below meth c D cl Z A H0 nL Q ad C L cells slots (.int x :: st) pc :=
  fun H locs ls hW hS hL => lv_if_le K.1.1 K.1.2.1 hd ht (fun h => kt h H locs ls hW hS hL) (fun h => kf h H locs ls hW hS hL)
theorem mg_icmp_eq (K : mg_K p m c cc nL s args Ts own D cl Z tys) {x y : Int32} {off : Int} (tgt : Nat) (hd : decode cc pc = .ok (.if_icmp .eq off, 3)) (ht : (pc : Int) + off = (tgt : Int)) (kt : x = y → mg_G p l e R s m args below meth c D cl Z A H0 nL Q ad C L cells slots st tgt) (kf : ¬ x = y → mg_G p l e R s m args below meth c D cl Z A H0 nL Q ad C L cells slots st (pc + 3)) : mg_G p l e R s m args below meth c D cl Z A H0 nL Q ad C L cells slots (.int y :: .int x :: st) pc :=
  fun H locs ls hW hS hL => lv_icmp_eq K.1.1 K.1.2.1 hd ht (fun h => kt h H locs ls hW hS hL) (fun h => kf h H locs ls hW hS hL)
theorem mg_icmp_ne (K : mg_K p m c cc nL s args Ts own D cl Z tys) {x y : Int32} {off : Int} (tgt : Nat) (hd : decode cc pc = .ok (.if_icmp .ne off, 3)) (ht : (pc : Int) + off = (tgt : Int)) (kt : ¬ x = y → mg_G p l e R s m args below meth c D cl Z A H0 nL Q ad C L cells slots st tgt) (kf : x = y → mg_G p l e R s m args below meth c D cl Z A H0 nL Q ad C L cells slots st (pc + 3)) : mg_G p l e R s m args below meth c D cl Z A H0 nL Q ad C L cells slots (.int y :: .int x :: st) pc :=
  fun H locs ls hW hS hL => lv_icmp_ne K.1.1 K.1.2.1 hd ht (fun h => kt h H locs ls hW hS hL) (fun h => kf h H locs ls hW hS hL)
theorem mg_icmp_lt (K : mg_K p m c cc nL s args Ts own D cl Z tys) {x y : Int32} {off : Int} (tgt : Nat) (hd : decode cc pc = .ok (.if_icmp .lt off, 3)) (ht : (pc : Int) + off = (tgt : Int)) (kt : x < y → mg_G p l e R s m args below meth c D cl Z A H0 nL Q ad C L cells slots st tgt) (kf : ¬ x < y → mg_G p l e R s m args below meth c D cl Z A H0 nL Q ad C L cells slots st (pc + 3)) : mg_G p l e R s m args below meth c D cl Z A H0 nL Q ad C L cells slots (.int y :: .int x :: st) pc :=
  fun H locs ls hW hS hL => lv_icmp_lt K.1.1 K.1.2.1 hd ht (fun h => kt h H locs ls hW hS hL) (fun h => kf h H locs ls hW hS hL)
theorem mg_icmp_ge (K : mg_K p m c cc nL s args Ts own D cl Z tys) {x y : Int32} {off : Int} (tgt : Nat) (hd : decode cc pc = .ok (.if_icmp .ge off, 3)) (ht : (pc : Int) + off = (tgt : Int)) (kt : y ≤ x → mg_G p l e R s m args below meth c D cl Z A H0 nL Q ad C L cells slots st tgt) (kf : ¬ y ≤ x → mg_G p l e R s m args below meth c D cl Z A H0 nL Q ad C L cells slots st (pc + 3)) : mg_G p l e R s m args below meth c D cl Z A H0 nL Q ad C L cells slots (.int y :: .int x :: st) pc :=
  fun H locs ls hW hS hL => lv_icmp_ge K.1.1 K.1.2.1 hd ht (fun h => kt h H locs ls hW hS hL) (fun h => kf h H locs ls hW hS hL)
theorem mg_icmp_gt (K : mg_K p m c cc nL s args Ts own D cl Z tys) {x y : Int32} {off : Int} (tgt : Nat) (hd : decode cc pc = .ok (.if_icmp .gt off, 3)) (ht : (pc : Int) + off = (tgt : Int)) (kt : y < x → mg_G p l e R s m args below meth c D cl Z A H0 nL Q ad C L cells slots st tgt) (kf : ¬ y < x → mg_G p l e R s m args below meth c D cl Z A H0 nL Q ad C L cells slots st (pc + 3)) : mg_G p l e R s m args below meth c D cl Z A H0 nL Q ad C L cells slots (.int y :: .int x :: st) pc :=
  fun H locs ls hW hS hL => lv_icmp_gt K.1.1 K.1.2.1 hd ht (fun h => kt h H locs ls hW hS hL) (fun h => kf h H locs ls hW hS hL)
theorem mg_icmp_le (K : mg_K p m c cc nL s args Ts own D cl Z tys) {x y : Int32} {off : Int} (tgt : Nat) (hd : decode cc pc = .ok (.if_icmp .le off, 3)) (ht : (pc : Int) + off = (tgt : Int)) (kt : x ≤ y → mg_G p l e R s m args below meth c D cl Z A H0 nL Q ad C L cells slots st tgt) (kf : ¬ x ≤ y → mg_G p l e R s m args below meth c D cl Z A H0 nL Q ad C L cells slots st (pc + 3)) : mg_G p l e R s m args below meth c D cl Z A H0 nL Q ad C L cells slots (.int y :: .int x :: st) pc :=
  fun H locs ls hW hS hL => lv_icmp_le K.1.1 K.1.2.1 hd ht (fun h => kt h H locs ls hW hS hL) (fun h => kf h H locs ls hW hS hL)
theorem mg_acmp_eq (K : mg_K p m c cc nL s args Ts own D cl Z tys) {rx ry : Option Nat} {off : Int} (tgt : Nat) (hd : decode cc pc = .ok (.if_acmp .eq off, 3)) (ht : (pc : Int) + off = (tgt : Int)) (kt : rx = ry → mg_G p l e R s m args below meth c D cl Z A H0 nL Q ad C L cells slots st tgt) (kf : ¬ rx = ry → mg_G p l e R s m args below meth c D cl Z A H0 nL Q ad C L cells slots st (pc + 3)) : mg_G p l e R s m args below meth c D cl Z A H0 nL Q ad C L cells slots (va_rf ry :: va_rf rx :: st) pc :=
  fun H locs ls hW hS hL => lv_acmp_eq K.1.1 K.1.2.1 hd ht (fun h => kt h H locs ls hW hS hL) (fun h => kf h H locs ls hW hS hL)
theorem mg_acmp_ne (K : mg_K p m c cc nL s args Ts own D cl Z tys) {rx ry : Option Nat} {off : Int} (tgt : Nat) (hd : decode cc pc = .ok (.if_acmp .ne off, 3)) (ht : (pc : Int) + off = (tgt : Int)) (kt : ¬ rx = ry → mg_G p l e R s m args below meth c D cl Z A H0 nL Q ad C L cells slots st tgt) (kf : rx = ry → mg_G p l e R s m args below meth c D cl Z A H0 nL Q ad C L cells slots st (pc + 3)) : mg_G p l e R s m args below meth c D cl Z A H0 nL Q ad C L cells slots (va_rf ry :: va_rf rx :: st) pc :=
  fun H locs ls hW hS hL => lv_acmp_ne K.1.1 K.1.2.1 hd ht (fun h => kt h H locs ls hW hS hL) (fun h => kf h H locs ls hW hS hL)
theorem mg_ifnull (K : mg_K p m c cc nL s args Ts own D cl Z tys) {r : Option Nat} {off : Int} (tgt : Nat) (hd : decode cc pc = .ok (.ifnull off, 3)) (ht : (pc : Int) + off = (tgt : Int)) (kt : r = none → mg_G p l e R s m args below meth c D cl Z A H0 nL Q ad C L cells slots st tgt) (kf : ¬ r = none → mg_G p l e R s m args below meth c D cl Z A H0 nL Q ad C L cells slots st (pc + 3)) : mg_G p l e R s m args below meth c D cl Z A H0 nL Q ad C L cells slots (va_rf r :: st) pc := by
  intro H locs ls hW hS hL
  cases r with
  | none => exact lv_ifnullN K.1.1 K.1.2.1 hd ht (kt rfl H locs ls hW hS hL)
  | some x => exact lv_ifnull K.1.1 K.1.2.1 hd (kf (fun z => by cases z) H locs ls hW hS hL)
theorem mg_ifnonnull (K : mg_K p m c cc nL s args Ts own D cl Z tys) {r : Option Nat} {off : Int} (tgt : Nat) (hd : decode cc pc = .ok (.ifnonnull off, 3)) (ht : (pc : Int) + off = (tgt : Int)) (kt : ¬ r = none → mg_G p l e R s m args below meth c D cl Z A H0 nL Q ad C L cells slots st tgt) (kf : r = none → mg_G p l e R s m args below meth c D cl Z A H0 nL Q ad C L cells slots st (pc + 3)) : mg_G p l e R s m args below meth c D cl Z A H0 nL Q ad C L cells slots (va_rf r :: st) pc := by
  intro H locs ls hW hS hL
  cases r with
  | none => exact lv_ifnonnullN K.1.1 K.1.2.1 hd (kf rfl H locs ls hW hS hL)
  | some x => exact lv_ifnonnull K.1.1 K.1.2.1 hd ht (kt (fun z => by cases z) H locs ls hW hS hL)
theorem mg_tabIn (K : mg_K p m c cc nL s args Ts own D cl Z tys) {dflt lo hi : Int} {offs : Array Int} {len : Nat} {x : Int32} {off : Int} (v : Int32) (tgt : Nat) (hd : decode cc pc = .ok (.tableswitch dflt lo hi offs, len)) (hx : x = v) (h1 : ¬ v.toInt < lo) (h2 : ¬ hi < v.toInt) (ho : offs[(v.toInt - lo).toNat]? = some off) (ht : (pc : Int) + off = (tgt : Int)) (k : mg_G p l e R s m args below meth c D cl Z A H0 nL Q ad C L cells slots st tgt) : mg_G p l e R s m args below meth c D cl Z A H0 nL Q ad C L cells slots (.int x :: st) pc := by
  subst hx
  exact fun H locs ls hW hS hL => lv_tableIn K.1.1 K.1.2.1 hd h1 h2 ho ht (k H locs ls hW hS hL)
theorem mg_tabOut (K : mg_K p m c cc nL s args Ts own D cl Z tys) {dflt lo hi : Int} {offs : Array Int} {len : Nat} {x : Int32} (tgt : Nat) (hd : decode cc pc = .ok (.tableswitch dflt lo hi offs, len)) (h : x.toInt < lo ∨ hi < x.toInt) (ht : (pc : Int) + dflt = (tgt : Int)) (k : mg_G p l e R s m args below meth c D cl Z A H0 nL Q ad C L cells slots st tgt) : mg_G p l e R s m args below meth c D cl Z A H0 nL Q ad C L cells slots (.int x :: st) pc :=
  fun H locs ls hW hS hL => lv_tableOut K.1.1 K.1.2.1 hd h ht (k H locs ls hW hS hL)
theorem mg_lookup (K : mg_K p m c cc nL s args Ts own D cl Z tys) {dflt : Int} {ps : Array (Int × Int)} {len : Nat} {x : Int32} {off : Int} (tgt : Nat) (hd : decode cc pc = .ok (.lookupswitch dflt ps, len)) (hp : (ps.toList.zip (ps.toList.drop 1)).all (fun (a, next) => a.1 < next.1) = true) (ho : Op.lookupswitch.offset ps.toList dflt x.toInt = off) (ht : (pc : Int) + off = (tgt : Int)) (k : mg_G p l e R s m args below meth c D cl Z A H0 nL Q ad C L cells slots st tgt) : mg_G p l e R s m args below meth c D cl Z A H0 nL Q ad C L cells slots (.int x :: st) pc :=
  fun H locs ls hW hS hL => lv_lookup K.1.1 K.1.2.1 hd hp ho ht (k H locs ls hW hS hL)
theorem mg_weak {L' : List (Option Value)} (hs : ∀ (i : Nat) (v : Value), L'[i]? = some (some v) → L[i]? = some (some v)) (k : mg_G p l e R s m args below meth c D cl Z A H0 nL Q ad C L' cells slots st pc) : mg_G p l e R s m args below meth c D cl Z A H0 nL Q ad C L cells slots st pc :=
  fun H locs ls hW hS hL => k H locs ls hW hS (hL.weak hs)
theorem mg_take (n : Nat) (k : mg_G p l e R s m args below meth c D cl Z A H0 nL Q ad C (L.take n) cells slots st pc) : mg_G p l e R s m args below meth c D cl Z A H0 nL Q ad C L cells slots st pc :=
  mg_weak (fun i v h => by rw [List.getElem?_take] at h; split at h <;> first | exact h | cases h) k
theorem mg_widen {ce sl : Nat} (h1 : cells ≤ ce) (h2 : slots ≤ sl) (k : mg_G p l e R s m args below meth c D cl Z A H0 nL Q ad C L ce sl st pc) : mg_G p l e R s m args below meth c D cl Z A H0 nL Q ad C L cells slots st pc :=
  fun H locs ls hW hS hL => W.widen h1 h2 (k H locs ls hW hS hL)
theorem mg_cg {ad' : mg_Ad} {C' : mg_Ct} (hc : ∀ H, mg_W D cl Z A ad C H → mg_W D cl Z A ad' C' H) (k : mg_G p l e R s m args below meth c D cl Z A H0 nL Q ad' C' L cells slots st pc) : mg_G p l e R s m args below meth c D cl Z A H0 nL Q ad C L cells slots st pc :=
  fun H locs ls hW hS hL => k H locs ls (hc H hW) hS hL
theorem mg_eqC {C' : mg_Ct} (hc : C = C') (k : mg_G p l e R s m args below meth c D cl Z A H0 nL Q ad C' L cells slots st pc) : mg_G p l e R s m args below meth c D cl Z A H0 nL Q ad C L cells slots st pc := hc ▸ k
theorem mg_eqv {st' : List Value} (hc : st = st') (k : mg_G p l e R s m args below meth c D cl Z A H0 nL Q ad C L cells slots st' pc) : mg_G p l e R s m args below meth c D cl Z A H0 nL Q ad C L cells slots st pc := hc ▸ k
/-- the objects' fields -/
theorem mg_get (K : mg_K p m c cc nL s args Ts own D cl Z tys) {k i ci index f N : Nat} {fs : List Value} {v : Value} {Cn ref : String} {T : u_T} (hd : decode cc pc = .ok (.getfield index, 3)) (he : C k i = some (.inr (ci, fs))) (hc : cl[ci]? = some (Cn, T, N)) (hin : ∀ w ∈ u_ws Cn T N, w ∈ Ts) (hf : f < N) (hlink : Cond.fieldLink own index ref (T f).2.1 (T f).2.2.1 ∈ Ts) (hr : ref = (T f).1) (hv : fs[f]? = some v) (kk : mg_G p l e R s m args below meth c D cl Z A H0 nL Q ad C L cells slots (v :: st) (pc + 3)) : mg_G p l e R s m args below meth c D cl Z A H0 nL Q ad C L cells slots (va_rf (some (ad k i)) :: st) pc := by
  intro H locs ls hW hS hL
  have hP : va_P D cl [(ad k i, .inr (ci, fs))] H := fun j q hq => by
    cases j with
    | zero => cases hq; exact hW.1 k i _ he
    | succ j => simp at hq
  subst hr
  exact va_get K.1.1 K.1.2.1 K.1.2.2.2.2 hin K.1.2.2.2.1 K.2.1 hP 0 rfl hc f hf (K.1.2.2.2.2 _ hlink) (fun _ h => h) hv hd (kk H locs ls hW hS hL)
theorem mg_getN (K : mg_K p m c cc nL s args Ts own D cl Z tys) {k i ci index f N : Nat} {fs : List Value} {v : Value} {Cn ref host : String} {T : u_T} (hd : decode cc pc = .ok (.getfield index, 3)) (he : C k i = some (.inr (ci, fs))) (hc : cl[ci]? = some (Cn, T, N)) (hin : ∀ w ∈ u_ws Cn T N, w ∈ Ts) (hf : f < N) (hlink : Cond.fieldLinkNest own index ref (T f).2.1 (T f).2.2.1 host ∈ Ts) (hr : ref = (T f).1) (hv : fs[f]? = some v) (kk : mg_G p l e R s m args below meth c D cl Z A H0 nL Q ad C L cells slots (v :: st) (pc + 3)) : mg_G p l e R s m args below meth c D cl Z A H0 nL Q ad C L cells slots (va_rf (some (ad k i)) :: st) pc := by
  intro H locs ls hW hS hL
  have hP : va_P D cl [(ad k i, .inr (ci, fs))] H := fun j q hq => by
    cases j with
    | zero => cases hq; exact hW.1 k i _ he
    | succ j => simp at hq
  subst hr
  exact va_getN K.1.1 K.1.2.1 K.1.2.2.2.2 hin K.1.2.2.2.1 K.2.1 hP 0 rfl hc f hf (K.1.2.2.2.2 _ hlink) (fun _ h => h) hv hd (kk H locs ls hW hS hL)
theorem mg_put (K : mg_K p m c cc nL s args Ts own D cl Z tys) {k i ci index f N : Nat} {fs : List Value} {v : Value} {Cn ref : String} {T : u_T} {ty0 : Nat → FieldType} {ty : FieldType} (hd : decode cc pc = .ok (.putfield index, 3)) (he : C k i = some (.inr (ci, fs))) (hc : cl[ci]? = some (Cn, T, N)) (hin : ∀ w ∈ u_ws Cn T N, w ∈ Ts) (hty : ∀ k, k < N → parseFieldDescriptor (T k).2.2.1 = some (ty0 k)) (hnm : ∀ a, a < N → ∀ b, b < N → a ≠ b → (T a).2.1 ≠ (T b).2.1) (hf : f < N) (hlink : Cond.fieldLink own index ref (T f).2.1 (T f).2.2.1 ∈ Ts) (hr : ref = (T f).1) (hfin : (T f).2.2.2 = false) (hdt : ty0 f = ty) (hn : narrow ty v = v) (hfit : fits ty v = true) (hl : f < fs.length) (kk : mg_G p l e R s m args below meth c D cl Z A H0 nL Q ad (mg_u C k i (some (.inr (ci, fs.set f v)))) L cells slots st (pc + 3)) : mg_G p l e R s m args below meth c D cl Z A H0 nL Q ad C L cells slots (v :: va_rf (some (ad k i)) :: st) pc := by
  intro H locs ls hW hS0 hL
  subst hr
  subst hdt
  have hts := K.1.2.2.2.2
  have hap := va_apart (own := own) hts hin ty0 hty hnm K.2.1 hc
  obtain ⟨r, h1, cell, q1, q2, q3, q4⟩ := hW.1 k i _ he
  have hr : r = (Cn, T, N) := Option.some.inj (h1.symm.trans hc)
  subst hr
  obtain ⟨hS, hfc, kC, hkC, hkind⟩ := K.2.1.1 ci _ hc
  obtain ⟨cf, kf, fi, fd, hi, hsl⟩ := hS f hf
  have hlay := hts _ (hin _ (u_in_lay hf))
  unfold u_lay at hlay
  rw [if_neg (by rw [hfin]; decide)] at hlay
  have hst := (u_facts hfc hkC (u_lays hts hin hf) hi).1
  have h6 := u_store hfc hkC hkind hlay hi (hty f hf) hn hfit
  refine W.putK K.1.1 K.1.2.1 (f := fd) ⟨K.1.2.2.2.1, hts _ hlink, ⟨_, _, _, hi⟩, hst⟩ (by rw [q2]; exact h6) q1 q3 (by rw [hsl]; exact k2_hasslot (q4 f hf)) rfl rfl hd fun H' e1 e2 e3 => ?_
  rw [hsl] at e1 ⊢
  have hne : C k i ≠ none := by rw [he]; exact fun z => by cases z
  exact kk H' _ ls (hW.put hne ⟨_, hc, t_OB.to (V := updV (vp_V fs) f v) ⟨_, e1, q2, q3, t_set q4 hap hf v⟩ (fun j _ => vp_updV_set hl v j)⟩ e3) (hS0.put e2 e3 (hW.2.2.1 k i hne)) hL
theorem mg_putN (K : mg_K p m c cc nL s args Ts own D cl Z tys) {k i ci index f N : Nat} {fs : List Value} {v : Value} {Cn ref host : String} {T : u_T} {ty0 : Nat → FieldType} {ty : FieldType} (hd : decode cc pc = .ok (.putfield index, 3)) (he : C k i = some (.inr (ci, fs))) (hc : cl[ci]? = some (Cn, T, N)) (hin : ∀ w ∈ u_ws Cn T N, w ∈ Ts) (hty : ∀ k, k < N → parseFieldDescriptor (T k).2.2.1 = some (ty0 k)) (hnm : ∀ a, a < N → ∀ b, b < N → a ≠ b → (T a).2.1 ≠ (T b).2.1) (hf : f < N) (hlink : Cond.fieldLinkNest own index ref (T f).2.1 (T f).2.2.1 host ∈ Ts) (hr : ref = (T f).1) (hfin : (T f).2.2.2 = false) (hdt : ty0 f = ty) (hn : narrow ty v = v) (hfit : fits ty v = true) (hl : f < fs.length) (kk : mg_G p l e R s m args below meth c D cl Z A H0 nL Q ad (mg_u C k i (some (.inr (ci, fs.set f v)))) L cells slots st (pc + 3)) : mg_G p l e R s m args below meth c D cl Z A H0 nL Q ad C L cells slots (v :: va_rf (some (ad k i)) :: st) pc := by
  intro H locs ls hW hS0 hL
  subst hr
  subst hdt
  have hts := K.1.2.2.2.2
  have hap := va_apart (own := own) hts hin ty0 hty hnm K.2.1 hc
  obtain ⟨r, h1, cell, q1, q2, q3, q4⟩ := hW.1 k i _ he
  have hr : r = (Cn, T, N) := Option.some.inj (h1.symm.trans hc)
  subst hr
  obtain ⟨hS, hfc, kC, hkC, hkind⟩ := K.2.1.1 ci _ hc
  obtain ⟨cf, kf, fi, fd, hi, hsl⟩ := hS f hf
  have hlay := hts _ (hin _ (u_in_lay hf))
  unfold u_lay at hlay
  rw [if_neg (by rw [hfin]; decide)] at hlay
  have hst := (u_facts hfc hkC (u_lays hts hin hf) hi).1
  have h6 := u_store hfc hkC hkind hlay hi (hty f hf) hn hfit
  refine va_WputK K.1.1 K.1.2.1 (f := fd) K.1.2.2.2.1 (hts _ hlink) hi hst (by rw [q2]; exact h6) q1 q3 (by rw [hsl]; exact k2_hasslot (q4 f hf)) rfl rfl hd fun H' e1 e2 e3 => ?_
  rw [hsl] at e1 ⊢
  have hne : C k i ≠ none := by rw [he]; exact fun z => by cases z
  exact kk H' _ ls (hW.put hne ⟨_, hc, t_OB.to (V := updV (vp_V fs) f v) ⟨_, e1, q2, q3, t_set q4 hap hf v⟩ (fun j _ => vp_updV_set hl v j)⟩ e3) (hS0.put e2 e3 (hW.2.2.1 k i hne)) hL
/-- a final field, in its class's constructor -/
theorem mg_putF (K : mg_K p m c cc nL s args Ts own D cl Z tys) {k i ci index f N : Nat} {fs : List Value} {v : Value} {Cn ref : String} {T : u_T} {ty0 : Nat → FieldType} {ty : FieldType} (hin2 : meth.name = "<init>") (hd : decode cc pc = .ok (.putfield index, 3)) (he : C k i = some (.inr (ci, fs))) (hc : cl[ci]? = some (Cn, T, N)) (hin : ∀ w ∈ u_ws Cn T N, w ∈ Ts) (hty : ∀ k, k < N → parseFieldDescriptor (T k).2.2.1 = some (ty0 k)) (hnm : ∀ a, a < N → ∀ b, b < N → a ≠ b → (T a).2.1 ≠ (T b).2.1) (hf : f < N) (hlink : Cond.fieldLink own index ref (T f).2.1 (T f).2.2.1 ∈ Ts) (hr : ref = (T f).1) (hfin : (T f).2.2.2 = true) (hdecl : (T f).1 = own) (hdt : ty0 f = ty) (hn : narrow ty v = v) (hfit : fits ty v = true) (hl : f < fs.length) (kk : mg_G p l e R s m args below meth c D cl Z A H0 nL Q ad (mg_u C k i (some (.inr (ci, fs.set f v)))) L cells slots st (pc + 3)) : mg_G p l e R s m args below meth c D cl Z A H0 nL Q ad C L cells slots (v :: va_rf (some (ad k i)) :: st) pc := by
  intro H locs ls hW hS0 hL
  subst hr
  subst hdt
  have hts := K.1.2.2.2.2
  have hown := K.1.2.2.2.1
  have hap := va_apart (own := own) hts hin ty0 hty hnm K.2.1 hc
  obtain ⟨r, h1, cell, q1, q2, q3, q4⟩ := hW.1 k i _ he
  have hr : r = (Cn, T, N) := Option.some.inj (h1.symm.trans hc)
  subst hr
  obtain ⟨hS, hfc, kC, hkC, hkind⟩ := K.2.1.1 ci _ hc
  obtain ⟨cf, kf, fi, fd, hi, hsl⟩ := hS f hf
  have hlay := hts _ (hin _ (u_in_lay hf))
  unfold u_lay at hlay
  rw [if_pos hfin] at hlay
  have hst := (u_facts hfc hkC (u_lays hts hin hf) hi).1
  have hcf : m.cls = cf := by
    obtain ⟨_, _, c', _, _, _, -, -, hf', -, -, -, hown2, -⟩ := Cond.laysFinal_spec hlay
    have e1 : c' = cf := by have := hi.symm.trans hf'; simp at this; exact this.1.symm
    rw [hdecl] at hown2
    rw [← e1]; exact Option.some.inj (hown.symm.trans hown2)
  have h6 := u_fits hfc hkC hkind (Or.inr hlay) hi (hty f hf) hn hfit
  refine W.putFinK K.1.1 K.1.2.1 hown (hts _ hlink) hi hst hcf hin2 (by rw [q2]; exact h6) q1 q3 (by rw [hsl]; exact k2_hasslot (q4 f hf)) rfl rfl hd fun H' e1 e2 e3 => ?_
  rw [hsl] at e1 ⊢
  have hne : C k i ≠ none := by rw [he]; exact fun z => by cases z
  exact kk H' _ ls (hW.put hne ⟨_, hc, t_OB.to (V := updV (vp_V fs) f v) ⟨_, e1, q2, q3, t_set q4 hap hf v⟩ (fun j _ => vp_updV_set hl v j)⟩ e3) (hS0.put e2 e3 (hW.2.2.1 k i hne)) hL
/-- arrays -/
theorem mg_P1 {H : Heap} {k i : Nat} {x : va_E} (hW : mg_W D cl Z A ad C H) (he : C k i = some x) : va_P D cl [(ad k i, x)] H := fun j q hq => by
  cases j with
  | zero => cases hq; exact hW.1 k i _ he
  | succ j => simp at hq
theorem mg_aald (K : mg_K p m c cc nL s args Ts own D cl Z tys) {k i n : Nat} {cA : ClassId} {Cn : String} {f : Nat → Option Nat} {x : Int32} (t0 : Nat) (hd : decode cc pc = .ok (.aaload, 1)) (he : C k i = some (.inl (cA, n, .inr (.inr (.inr (.inr f)))))) (ht : tys[t0]? = some (cA, .object Cn)) (hin : vp_in x n) (kk : mg_G p l e R s m args below meth c D cl Z A H0 nL Q ad C L cells slots (va_rf (f x.toNatClampNeg) :: st) (pc + 1)) : mg_G p l e R s m args below meth c D cl Z A H0 nL Q ad C L cells slots (.int x :: va_rf (some (ad k i)) :: st) pc :=
  fun H locs ls hW hS hL => va_aldq K.1.1 K.1.2.1 K.2.1 (mg_P1 hW he) 0 t0 rfl ht hin hd (kk H locs ls hW hS hL)
theorem mg_iald (K : mg_K p m c cc nL s args Ts own D cl Z tys) {k i n : Nat} {cA : ClassId} {f : Nat → Int32} {x : Int32} (t0 : Nat) (hd : decode cc pc = .ok (.iaload, 1)) (he : C k i = some (.inl (cA, n, .inl f))) (ht : tys[t0]? = some (cA, .int)) (hin : vp_in x n) (kk : mg_G p l e R s m args below meth c D cl Z A H0 nL Q ad C L cells slots (.int (f x.toNatClampNeg) :: st) (pc + 1)) : mg_G p l e R s m args below meth c D cl Z A H0 nL Q ad C L cells slots (.int x :: va_rf (some (ad k i)) :: st) pc :=
  fun H locs ls hW hS hL => va_iald K.1.1 K.1.2.1 K.2.1 (mg_P1 hW he) 0 t0 rfl ht hin hd (kk H locs ls hW hS hL)
theorem mg_zald (K : mg_K p m c cc nL s args Ts own D cl Z tys) {k i n : Nat} {cA : ClassId} {f : Nat → Int32} {x : Int32} (t0 : Nat) (hd : decode cc pc = .ok (.baload, 1)) (he : C k i = some (.inl (cA, n, .inl f))) (ht : tys[t0]? = some (cA, .boolean)) (hin : vp_in x n) (kk : mg_G p l e R s m args below meth c D cl Z A H0 nL Q ad C L cells slots (.int (f x.toNatClampNeg) :: st) (pc + 1)) : mg_G p l e R s m args below meth c D cl Z A H0 nL Q ad C L cells slots (.int x :: va_rf (some (ad k i)) :: st) pc :=
  fun H locs ls hW hS hL => va_zald K.1.1 K.1.2.1 K.2.1 (mg_P1 hW he) 0 t0 rfl ht hin hd (kk H locs ls hW hS hL)
theorem mg_lald (K : mg_K p m c cc nL s args Ts own D cl Z tys) {k i n : Nat} {cA : ClassId} {f : Nat → Int64} {x : Int32} (t0 : Nat) (hd : decode cc pc = .ok (.laload, 1)) (he : C k i = some (.inl (cA, n, .inr (.inl f)))) (ht : tys[t0]? = some (cA, .long)) (hin : vp_in x n) (kk : mg_G p l e R s m args below meth c D cl Z A H0 nL Q ad C L cells slots (.long (f x.toNatClampNeg) :: st) (pc + 1)) : mg_G p l e R s m args below meth c D cl Z A H0 nL Q ad C L cells slots (.int x :: va_rf (some (ad k i)) :: st) pc :=
  fun H locs ls hW hS hL => va_lald K.1.1 K.1.2.1 K.2.1 (mg_P1 hW he) 0 t0 rfl ht hin hd (kk H locs ls hW hS hL)
theorem mg_alen (K : mg_K p m c cc nL s args Ts own D cl Z tys) {k i n : Nat} {cA : ClassId} {g : (Nat → Int32) ⊕ (Nat → Int64) ⊕ (Nat → UInt32) ⊕ (Nat → UInt64) ⊕ (Nat → Option Nat)} {ty : FieldType} {v : Int32} (t0 : Nat) (hd : decode cc pc = .ok (.arraylength, 1)) (he : C k i = some (.inl (cA, n, g))) (ht : tys[t0]? = some (cA, ty)) (hv : Int32.ofNat n = v) (kk : mg_G p l e R s m args below meth c D cl Z A H0 nL Q ad C L cells slots (.int v :: st) (pc + 1)) : mg_G p l e R s m args below meth c D cl Z A H0 nL Q ad C L cells slots (va_rf (some (ad k i)) :: st) pc := by
  intro H locs ls hW hS hL
  exact va_alen K.1.1 K.1.2.1 K.2.1 (mg_P1 hW he) 0 t0 rfl ht hv hd (kk H locs ls hW hS hL)

theorem mg_iast (K : mg_K p m c cc nL s args Ts own D cl Z tys) {k i n : Nat} {cA : ClassId} {f : Nat → Int32} {x y : Int32} (t0 : Nat) (hd : decode cc pc = .ok (.iastore, 1)) (he : C k i = some (.inl (cA, n, .inl f))) (ht : tys[t0]? = some (cA, .int)) (hin : vp_in x n) (kk : mg_G p l e R s m args below meth c D cl Z A H0 nL Q ad (mg_u C k i (some (.inl (cA, n, .inl (upd f x.toNatClampNeg y))))) L cells slots st (pc + 1)) : mg_G p l e R s m args below meth c D cl Z A H0 nL Q ad C L cells slots (.int y :: .int x :: va_rf (some (ad k i)) :: st) pc := by
  intro H locs ls hW hS hL
  have hne : C k i ≠ none := by rw [he]; exact fun z => by cases z
  refine W.iast K.1.1 K.1.2.1 (hW.1 k i _ he) ((K.2.1.2 t0 _ ht).1 n (fun j => .int (f j))) (fun q => by cases q) (by show ¬ (x < 0 ∨ (arrV _ _ _).slots.size ≤ _); rw [arrV_size]; exact hin) rfl rfl hd fun H1 e1 z oq => ?_
  refine kk H1 _ ls (hW.put hne ?_ oq) (hS.put z oq (hW.2.2.1 k i hne)) hL
  show H1[ad k i]? = some (vp_cell _ _)
  rw [e1]
  rw [vp_cell_i, vp_cell_i, arrV_store]
  congr 2
  funext q
  by_cases hq : q = x.toNatClampNeg
  · subst hq
    simp [updV, upd]
  · simp [updV, upd, hq]
theorem mg_zast (K : mg_K p m c cc nL s args Ts own D cl Z tys) {k i n : Nat} {cA : ClassId} {f : Nat → Int32} {x y : Int32} (t0 : Nat) (hd : decode cc pc = .ok (.bastore, 1)) (he : C k i = some (.inl (cA, n, .inl f))) (ht : tys[t0]? = some (cA, .boolean)) (hin : vp_in x n) (kk : mg_G p l e R s m args below meth c D cl Z A H0 nL Q ad (mg_u C k i (some (.inl (cA, n, .inl (upd f x.toNatClampNeg (vp_nar .boolean y)))))) L cells slots st (pc + 1)) : mg_G p l e R s m args below meth c D cl Z A H0 nL Q ad C L cells slots (.int y :: .int x :: va_rf (some (ad k i)) :: st) pc := by
  intro H locs ls hW hS hL
  have hne : C k i ≠ none := by rw [he]; exact fun z => by cases z
  refine W.zast K.1.1 K.1.2.1 (hW.1 k i _ he) ((K.2.1.2 t0 _ ht).1 n (fun j => .int (f j))) (fun q => by cases q) (by show ¬ (x < 0 ∨ (arrV _ _ _).slots.size ≤ _); rw [arrV_size]; exact hin) rfl rfl hd fun H1 e1 z oq => ?_
  refine kk H1 _ ls (hW.put hne ?_ oq) (hS.put z oq (hW.2.2.1 k i hne)) hL
  show H1[ad k i]? = some (vp_cell _ _)
  rw [e1]
  rw [vp_cell_i, vp_cell_i, arrV_store]
  congr 2
  funext q
  by_cases hq : q = x.toNatClampNeg
  · subst hq
    simp [updV, upd, vp_nar]
    try rfl
  · simp [updV, upd, hq]
theorem mg_last (K : mg_K p m c cc nL s args Ts own D cl Z tys) {k i n : Nat} {cA : ClassId} {f : Nat → Int64} {x : Int32} {y : Int64} (t0 : Nat) (hd : decode cc pc = .ok (.lastore, 1)) (he : C k i = some (.inl (cA, n, .inr (.inl f)))) (ht : tys[t0]? = some (cA, .long)) (hin : vp_in x n) (kk : mg_G p l e R s m args below meth c D cl Z A H0 nL Q ad (mg_u C k i (some (.inl (cA, n, .inr (.inl (vp_updL f x.toNatClampNeg y)))))) L cells slots st (pc + 1)) : mg_G p l e R s m args below meth c D cl Z A H0 nL Q ad C L cells slots (.long y :: .int x :: va_rf (some (ad k i)) :: st) pc := by
  intro H locs ls hW hS hL
  have hne : C k i ≠ none := by rw [he]; exact fun z => by cases z
  refine W.last K.1.1 K.1.2.1 (hW.1 k i _ he) ((K.2.1.2 t0 _ ht).1 n (fun j => .long (f j))) (fun q => by cases q) (by show ¬ (x < 0 ∨ (arrV _ _ _).slots.size ≤ _); rw [arrV_size]; exact hin) rfl rfl hd fun H1 e1 z oq => ?_
  refine kk H1 _ ls (hW.put hne ?_ oq) (hS.put z oq (hW.2.2.1 k i hne)) hL
  show H1[ad k i]? = some (vp_cell _ _)
  rw [e1]
  rw [vp_cell_l, vp_cell_l, arrV_store]
  congr 2
  funext q
  by_cases hq : q = x.toNatClampNeg
  · subst hq
    simp [updV, vp_updL]
  · simp [updV, vp_updL, hq]
theorem mg_aast (K : mg_K p m c cc nL s args Ts own D cl Z tys) {k i n k2 i2 ci : Nat} {cA : ClassId} {r : vw_C} {vs : List Value} {f : Nat → Option Nat} {x : Int32} (t0 : Nat) (hd : decode cc pc = .ok (.aastore, 1)) (he : C k i = some (.inl (cA, n, .inr (.inr (.inr (.inr f)))))) (ht : tys[t0]? = some (cA, .object r.1)) (hv : C k2 i2 = some (.inr (ci, vs))) (hc : cl[ci]? = some r) (hin : vp_in x n) (kk : mg_G p l e R s m args below meth c D cl Z A H0 nL Q ad (mg_u C k i (some (.inl (cA, n, .inr (.inr (.inr (.inr (va_up f x.toNatClampNeg (some (ad k2 i2)))))))))) L cells slots st (pc + 1)) : mg_G p l e R s m args below meth c D cl Z A H0 nL Q ad C L cells slots (va_rf (some (ad k2 i2)) :: .int x :: va_rf (some (ad k i)) :: st) pc := by
  intro H locs ls hW hS hL
  have hne : C k i ≠ none := by rw [he]; exact fun z => by cases z
  have hlt : x.toNatClampNeg < n := Nat.not_le.mp fun q => hin (Or.inr q)
  have h0 : ¬ x < 0 := fun q => hin (Or.inl q)
  obtain ⟨r', hr', cellV, g1, g2, g3, -⟩ := hW.1 k2 i2 _ hv
  have hcls := (K.2.1.1 ci r hc).2
  obtain ⟨kA, comp, k1, kk2, k3, -⟩ := (K.2.1.2 t0 _ ht).2
  have hcomp : comp = D.1 ci := Option.some.inj (k3.symm.trans hcls.1)
  subst hcomp
  obtain ⟨kC, hkC, -⟩ := hcls.2
  refine W.aast K.1.1 K.1.2.1 (hW.1 k i _ he) (fun q h => by cases h) (fun h => by cases h) k1 kk2 rfl hkC ⟨h0, by show _ < (arrV _ _ _).slots.size; rw [arrV_size]; exact hlt⟩ g1 (fun q h => by rw [g3] at h; cases h) (by rw [g2]; exact hkC) (by rw [g2]; exact va_assign hcls) rfl rfl hd fun H1 e1 z oq => ?_
  refine kk H1 _ ls (hW.put hne ?_ oq) (hS.put z oq (hW.2.2.1 k i hne)) hL
  show H1[ad k i]? = some (vp_cell _ _)
  rw [e1]
  rw [vp_cell_q, vp_cell_q, arrV_store]
  congr 2
  funext q
  by_cases hq : q = x.toNatClampNeg
  · subst hq
    simp [updV, va_up, va_rf]
  · simp [updV, va_up, hq]
theorem mg_aastN (K : mg_K p m c cc nL s args Ts own D cl Z tys) {k i n : Nat} {cA : ClassId} {Cn : String} {f : Nat → Option Nat} {x : Int32} (t0 : Nat) (hd : decode cc pc = .ok (.aastore, 1)) (he : C k i = some (.inl (cA, n, .inr (.inr (.inr (.inr f)))))) (ht : tys[t0]? = some (cA, .object Cn)) (hin : vp_in x n) (kk : mg_G p l e R s m args below meth c D cl Z A H0 nL Q ad (mg_u C k i (some (.inl (cA, n, .inr (.inr (.inr (.inr (va_up f x.toNatClampNeg none)))))))) L cells slots st (pc + 1)) : mg_G p l e R s m args below meth c D cl Z A H0 nL Q ad C L cells slots (va_rf none :: .int x :: va_rf (some (ad k i)) :: st) pc := by
  intro H locs ls hW hS hL
  have hne : C k i ≠ none := by rw [he]; exact fun z => by cases z
  refine va_WaastN (C := Cn) K.1.1 K.1.2.1 (hW.1 k i _ he) ((K.2.1.2 t0 _ ht).1 n (fun j => va_rf (f j))) (fun h => by cases h) (by show ¬ (x < 0 ∨ (arrV _ _ _).slots.size ≤ _); rw [arrV_size]; exact hin) rfl rfl hd fun H1 e1 z oq => ?_
  refine kk H1 _ ls (hW.put hne ?_ oq) (hS.put z oq (hW.2.2.1 k i hne)) hL
  show H1[ad k i]? = some (vp_cell _ _)
  rw [e1]
  rw [vp_cell_q, vp_cell_q, arrV_store]
  congr 2
  funext q
  by_cases hq : q = x.toNatClampNeg
  · subst hq
    simp [updV, va_up, va_rf]
  · simp [updV, va_up, hq]
/-- new cells -/
theorem mg_new (K : mg_K p m c cc nL s args Ts own D cl Z tys) {index N ci : Nat} {Cn : String} {T : u_T} {ty : Nat → FieldType} {fs : List Value} (k i : Nat) (hA : ∀ q, H0.size ≤ q → A q) (hd : decode cc pc = .ok (.new index, 3)) (hk : C k i = none) (hc : cl[ci]? = some (Cn, T, N)) (hin : ∀ w ∈ u_ws Cn T N, w ∈ Ts) (hty : ∀ k, k < N → parseFieldDescriptor (T k).2.2.1 = some (ty k)) (hcl : Cond.classLink own index Cn ∈ Ts) (hinst : Cond.instantiable Cn N ∈ Ts) (hini : Cond.initialized Cn ∈ Ts) (hfs : ∀ j, j < N → defaultValue (ty j) = vp_V fs j) (hcells : cells + 1 ≤ R.cells) (hslots : slots + N ≤ R.slots) (kk : ∀ q : Nat, mg_G p l e R s m args below meth c D cl Z A H0 nL Q (mg_u ad k i q) (mg_u C k i (some (.inr (ci, fs)))) L (cells + 1) (slots + N) (va_rf (some q) :: st) (pc + 3)) : mg_G p l e R s m args below meth c D cl Z A H0 nL Q ad C L cells slots st pc := by
  intro H locs ls hW hS hL
  have hts := K.1.2.2.2.2
  have hKn := K.2.1.1 ci _ hc
  refine W.newcK K.1.1 K.1.2.1 K.1.2.2.2.1 (hts _ hcl) (hts _ hinst) (hts _ hini) rfl hd hcells hslots hKn.2.1 rfl fun H1 kC hkC e1 z1 o1 => ?_
  exact kk H.size H1 locs ls (hW.new hk rfl (hA _ hS.1) ⟨_, hc, (u_born ty hts hin hKn hkC e1 hty).to hfs⟩ o1) ⟨Nat.le_trans hS.1 (by omega), fun x h1 h2 => (o1 x (Nat.lt_of_lt_of_le h1 hS.1)).trans (hS.2.1 x h1 h2), hS.2.2⟩ hL
theorem mg_newa (K : mg_K p m c cc nL s args Ts own D cl Z tys) {atype : ArrayType} {ty : FieldType} {cA : ClassId} {n : Int32} {N' : Nat} {a0 : vp_A} (k i t0 : Nat) (hA : ∀ q, H0.size ≤ q → A q) (hd : decode cc pc = .ok (.newarray atype, 2)) (hk : C k i = none) (harr : Cond.arrayClass (newarray.typeOf atype) ∈ Ts) (hty : newarray.typeOf atype = ty) (ht : tys[t0]? = some (cA, ty)) (ha : vp_cell cA a0 = arrV cA N' (fun _ => defaultValue ty)) (hn : ¬ n < 0) (hN : n.toNatClampNeg = N') (hbytes : N' * componentBytes ty ≤ 536870912) (hcells : cells + 1 ≤ R.cells) (hslots : slots + N' ≤ R.slots) (kk : ∀ q : Nat, mg_G p l e R s m args below meth c D cl Z A H0 nL Q (mg_u ad k i q) (mg_u C k i (some (.inl (cA, a0)))) L (cells + 1) (slots + N') (va_rf (some q) :: st) (pc + 2)) : mg_G p l e R s m args below meth c D cl Z A H0 nL Q ad C L cells slots (.int n :: st) pc := by
  intro H locs ls hW hS hL
  subst hty
  refine va_newaK K.1.1 K.1.2.1 (K.1.2.2.2.2 _ harr) rfl hd rfl hn hN hbytes hcells hslots rfl fun H1 cA' e1 z1 o1 hAr hNm => ?_
  have hcA : cA' = cA := by
    have h2 := (K.2.1.2 t0 _ ht).2
    cases atype <;> exact Option.some.inj (hNm.symm.trans h2)
  subst hcA
  refine kk H.size H1 locs ls (hW.new hk rfl (hA _ hS.1) ?_ o1) ⟨Nat.le_trans hS.1 (by omega), fun x h1 h2 => (o1 x (Nat.lt_of_lt_of_le h1 hS.1)).trans (hS.2.1 x h1 h2), hS.2.2⟩ hL
  show H1[H.size]? = some (vp_cell _ _)
  rw [ha]
  exact e1
theorem mg_newq (K : mg_K p m c cc nL s args Ts own D cl Z tys) {index : Nat} {Cn : String} {cA : ClassId} {n : Int32} {N' : Nat} (k i t0 : Nat) (hA : ∀ q, H0.size ≤ q → A q) (hd : decode cc pc = .ok (.anewarray index, 3)) (hk : C k i = none) (hcl : Cond.classLink own index Cn ∈ Ts) (hov : Cond.arrayOver (.object Cn) ∈ Ts) (ht : tys[t0]? = some (cA, .object Cn)) (hn : ¬ n < 0) (hN : n.toNatClampNeg = N') (hbytes : N' * 4 ≤ 536870912) (hcells : cells + 1 ≤ R.cells) (hslots : slots + N' ≤ R.slots) (kk : ∀ q : Nat, mg_G p l e R s m args below meth c D cl Z A H0 nL Q (mg_u ad k i q) (mg_u C k i (some (.inl (cA, N', .inr (.inr (.inr (.inr (fun _ => none)))))))) L (cells + 1) (slots + N') (va_rf (some q) :: st) (pc + 3)) : mg_G p l e R s m args below meth c D cl Z A H0 nL Q ad C L cells slots (.int n :: st) pc := by
  intro H locs ls hW hS hL
  subst hN
  have hts := K.1.2.2.2.2
  refine W.anew K.1.1 K.1.2.1 K.1.2.2.2.1 (hts _ hcl) (hts _ hov) rfl hd rfl hn hbytes hcells hslots fun cA' kA comp f1 f2 f3 f4 => ?_
  obtain ⟨kA0, comp0, k1, k2, k3, k4⟩ := (K.2.1.2 t0 _ ht).2
  have hcA : cA' = cA := Option.some.inj (f1.symm.trans k4)
  subst hcA
  generalize hH1 : H.push ({ cls := cA', slots := Array.replicate n.toNatClampNeg .null, vm := .none } : Cell) = H1
  have z1 : H1.size = H.size + 1 := by rw [← hH1, Array.size_push]
  have e1 : H1[H.size]? = some (arrV cA' n.toNatClampNeg (fun _ => .null)) := by rw [← hH1, Array.getElem?_push_size, ← arrV_new]
  have o1 : ∀ q : Nat, q < H.size → H1[q]? = H[q]? := fun q hq => by rw [← hH1, Array.getElem?_push, if_neg (Nat.ne_of_lt hq)]
  refine kk H.size H1 locs ls (hW.new hk rfl (hA _ hS.1) ?_ o1) ⟨Nat.le_trans hS.1 (by omega), fun x h1 h2 => (o1 x (Nat.lt_of_lt_of_le h1 hS.1)).trans (hS.2.1 x h1 h2), hS.2.2⟩ hL
  exact e1
theorem mg_objInit (K : mg_K p m c cc nL s args Ts own D cl Z tys) {idx : Nat} {a : Nat} (hd : decode cc pc = .ok (.invokespecial idx, 3)) (hlink : Cond.methodLink own idx Lib.objectInit ∈ Ts) (hinst : Cond.instanceMethod Lib.objectInit ∈ Ts) (hcode : Cond.code Lib.objectInit ⟨#[0xb1]⟩ 1 none ∈ Ts) (hfr : 1 ≤ R.frames) (hlo : (st.map fun v => v.category).sum + 12 ≤ R.locals) (kk : mg_G p l e R s m args below meth c D cl Z A H0 nL Q ad C L cells slots st (pc + 3)) : mg_G p l e R s m args below meth c D cl Z A H0 nL Q ad C L cells slots (va_rf (some a) :: st) pc := by
  intro H locs ls hW hS hL
  have hts := K.1.2.2.2.2
  refine W.objInit (g := F0 m pc ls (va_rf (some a) :: st)) K.1.1 K.1.2.1 K.1.2.2.2.1 (hts _ hlink) (hts _ hinst) (hts _ hcode) rfl (by rw [K.1.2.2.1]; exact hL.1) rfl hd hfr (by simpa [JFrame.monitorRoom] using hlo) ?_
  exact kk H locs ls hW hS hL
end MG1
/-- what a method may change: its world's cells, and those that it makes -/
def mg_A (ad : mg_Ad) (C : mg_Ct) (sz : Nat) : Nat → Prop := fun q => (∃ k i : Nat, C k i ≠ none ∧ q = ad k i) ∨ sz ≤ q
def mg_Pc (D : va_G) (cl : List vw_C) (Z : Nat × Cell) (B : List Cond) (tys : List (ClassId × FieldType)) (av : List Value) (ad : mg_Ad) (C : mg_Ct) (sz : Nat) : Array Value → State → Prop := va_Pc av (fun U => U.heap.size = sz ∧ mg_W D cl Z (fun _ => True) ad C U.heap ∧ va_K D cl tys U ∧ mg_Zk B Z U)
def mg_Qc (D : va_G) (cl : List vw_C) (Z : Nat × Cell) (ad : mg_Ad) (C : mg_Ct) (sz : Nat) (post : Option Value → mg_Ad → mg_Ct → Prop) : Array Value → State → Outcome → State → Prop := fun _ s0 oc t => (∃ (r : Option Value) (ad' : mg_Ad) (C' : mg_Ct), oc = .returned r ∧ post r ad' C' ∧ mg_W D cl Z (mg_A ad C sz) ad' C' t.heap) ∧ va_F (mg_A ad C sz) s0 t
/-- A CONTRACT: from any heap that holds the world ad, C: y returns, 'post answer ad' C'', and the heap holds the world ad', C' -/
def mg_M (l : Launch) (y : MethodName) (ws : List Cond) (rm : Room) (D : va_G) (cl : List vw_C) (Z : Nat × Cell) (B : List Cond) (tys : List (ClassId × FieldType)) (av : List Value) (ad : mg_Ad) (C : mg_Ct) (mc ms : Nat) (post : Option Value → mg_Ad → mg_Ct → Prop) : Prop :=
  ∀ sz : Nat, Met l y ws rm (mg_Pc D cl Z B tys av ad C sz) (mg_Qc D cl Z ad C sz post) mc ms (mg_A ad C sz)
theorem mg_Pc.blind {D : va_G} {cl : List vw_C} {Z : Nat × Cell} {B : List Cond} {tys : List (ClassId × FieldType)} {av : List Value} {ad : mg_Ad} {C : mg_Ct} {sz : Nat} : FrameBlind (mg_Pc D cl Z B tys av ad C sz) := fun a U g mk q => by
  obtain ⟨q0, q1, qW, qK, qZ⟩ := q
  exact ⟨q0, q1, qW, va_K.moved (u := U) (U := U.calling g mk a) (Vm.Alike.refl U.vm) qK, fun V hV hz => qZ V hV hz⟩
section MG2
variable {p : Program} {l : Launch} {e : Env} {R : Room} {s : State} {m : MethodId} {args : Array Value} {below : List Frame} {meth : Method} {c : Code} {Q : State → Prop}
variable {D : va_G} {cl : List vw_C} {Z : Nat × Cell} {tys : List (ClassId × FieldType)} {A : Nat → Prop} {H0 : Heap} {nL : Nat} {cc : ByteArray} {Ts : List Cond} {own : String}
variable {ad : mg_Ad} {C : mg_Ct} {L : List (Option Value)} {cells slots pc mc ms : Nat} {st rest st0 : List Value} {post : Option Value → mg_Ad → mg_Ct → Prop}
theorem mg_A.up {H : Heap} {locs : List Loc} (hW : mg_W D cl Z A ad C H) (hS : va_S A H0 H locs) (hA : ∀ q, H0.size ≤ q → A q) : ∀ q, mg_A ad C H.size q → A q := by
  intro q h
  rcases h with ⟨k, i, h1, rfl⟩ | h
  · exact hW.2.2.1 k i h1
  · exact hA q (Nat.le_trans hS.1 h)
theorem mg_run {H : Heap} {locs : List Loc} {ls : Array Slot} {a : Array Value} (hr : va_Run p l e R s m args below meth c H locs cells slots mc ms (F0 m pc ls st0) rest (mg_Qc D cl Z ad C H.size post a) (mg_A ad C H.size)) (hW : mg_W D cl Z A ad C H) (hS : va_S A H0 H locs) (hA : ∀ q, H0.size ≤ q → A q) (hL : mg_L ls nL L)
    (kk : ∀ (r : Option Value) (ad' : mg_Ad) (C' : mg_Ct), post r ad' C' → mg_G p l e R s m args below meth c D cl Z A H0 nL Q ad' C' L (cells + mc) (slots + ms) (r.toList ++ rest) (pc + 3)) : W p l e R s m args below meth c H locs cells slots Q (F0 m pc ls st0) := by
  have hAA := mg_A.up hW hS hA
  intro T hT X
  obtain ⟨v, st₀, t, T', Lc, h0, X', hLc, e1, e2, ⟨⟨r, ad', C', hv, hp, hb⟩, hz, hk⟩, sT⟩ := hr T hT X
  cases hv
  rw [h0] at hz hk
  obtain ⟨t2, a1, b1⟩ := kk v ad' C' hp T'.heap (locs ++ Lc) ls (by rw [e1]; exact hb.mono hAA)
    ⟨Nat.le_trans hS.1 (by rw [e1]; exact hz), fun q h1 h2 => by rw [e1, hk q (Nat.lt_of_lt_of_le h1 hS.1) (fun z => h2 (hAA q z))]; exact hS.2.1 q h1 h2, fun q hq => by
      rcases List.mem_append.mp hq with h | h
      · exact hS.2.2 q h
      · exact hAA _ (hLc q h)⟩ hL T' rfl X'
  exact ⟨t2, sT t2 a1, b1⟩
theorem mg_pre {H : Heap} {av : List Value} (K : mg_K p m c cc nL s args Ts own D cl Z tys) (hW : mg_W D cl Z A ad C H) : ∀ U : State, U.heap = H → s.WarmedH U.vm → mg_Pc D cl Z Ts tys av ad C H.size av.toArray U :=
  fun U hU hWm => ⟨rfl, by rw [hU], by rw [hU]; exact hW.mono (fun _ _ => trivial), va_K.moved hWm.alike K.2.1, K.2.2.moved hWm⟩

theorem mg_callV (K : mg_K p m c cc nL s args Ts own D cl Z tys) (hA : ∀ q, H0.size ≤ q → A q) {y : MethodName} {ws : List Cond} {rm : Room} {bytes : ByteArray} {maxL n index ci N k i : Nat} {ret : Option FieldType} {Cn : String} {T : u_T} {fs As : List Value} (hM : mg_M l y ws rm D cl Z Ts tys (va_rf (some (ad k i)) :: As) ad C mc ms post) (cw : CallW R s args own Cn index y bytes maxL ret ws rm mc ms n) (hd : decode cc pc = .ok (.invokevirtual index, 3)) (hst : st0 = As.reverse ++ va_rf (some (ad k i)) :: rest) (he : C k i = some (.inr (ci, fs))) (hc : cl[ci]? = some (Cn, T, N)) (hn : As.length = n) (hrm : (rest.map fun v => v.category).sum ≤ 8) (hf : cells + mc ≤ R.cells ∧ slots + ms ≤ R.slots)
    (kk : ∀ (r : Option Value) (ad' : mg_Ad) (C' : mg_Ct), post r ad' C' → mg_G p l e R s m args below meth c D cl Z A H0 nL Q ad' C' L (cells + mc) (slots + ms) (r.toList ++ rest) (pc + 3)) : mg_G p l e R s m args below meth c D cl Z A H0 nL Q ad C L cells slots st0 pc := by
  intro H locs ls hW hS hL
  exact mg_run (va_runV (As := As) (rest := rest) K.1 (hM H.size) cw ⟨mg_Pc.blind, va_recv K.2.1 (mg_P1 hW he) hc (q0 := 0) rfl, mg_pre K hW⟩ rfl hn hL.1 hst (lv_room hrm) hd hf) hW hS hA hL kk
theorem mg_callS (K : mg_K p m c cc nL s args Ts own D cl Z tys) (hA : ∀ q, H0.size ≤ q → A q) {y : MethodName} {ws : List Cond} {rm : Room} {bytes : ByteArray} {maxL n index : Nat} {ret : Option FieldType} {As : List Value} (hM : mg_M l y ws rm D cl Z Ts tys As ad C mc ms post) (cw : CallB R s args own index y bytes maxL ret ws rm mc ms n ∧ (Cond.static y).before args s = true) (hd : decode cc pc = .ok (.invokestatic index, 3)) (hst : st0 = As.reverse ++ rest) (hn : As.length = n) (hrm : (rest.map fun v => v.category).sum ≤ 8) (hf : cells + mc ≤ R.cells ∧ slots + ms ≤ R.slots)
    (kk : ∀ (r : Option Value) (ad' : mg_Ad) (C' : mg_Ct), post r ad' C' → mg_G p l e R s m args below meth c D cl Z A H0 nL Q ad' C' L (cells + mc) (slots + ms) (r.toList ++ rest) (pc + 3)) : mg_G p l e R s m args below meth c D cl Z A H0 nL Q ad C L cells slots st0 pc := by
  intro H locs ls hW hS hL
  exact mg_run (va_runS (As := As) (rest := rest) K.1 (hM H.size) cw ⟨mg_Pc.blind, mg_pre K hW⟩ rfl hn hL.1 hst (lv_room hrm) hd hf) hW hS hA hL kk
theorem mg_callI (K : mg_K p m c cc nL s args Ts own D cl Z tys) (hA : ∀ q, H0.size ≤ q → A q) {y : MethodName} {ws : List Cond} {rm : Room} {bytes : ByteArray} {maxL n index b : Nat} {As : List Value} (hM : mg_M l y ws rm D cl Z Ts tys (va_rf (some b) :: As) ad C mc ms post) (cw : CallB R s args own index y bytes maxL none ws rm mc ms n ∧ y.name = "<init>" ∧ (Cond.instanceMethod y).before args s = true) (hd : decode cc pc = .ok (.invokespecial index, 3)) (hst : st0 = As.reverse ++ va_rf (some b) :: rest) (hn : As.length = n) (hrm : (rest.map fun v => v.category).sum ≤ 8) (hf : cells + mc ≤ R.cells ∧ slots + ms ≤ R.slots)
    (kk : ∀ (r : Option Value) (ad' : mg_Ad) (C' : mg_Ct), post r ad' C' → mg_G p l e R s m args below meth c D cl Z A H0 nL Q ad' C' L (cells + mc) (slots + ms) (r.toList ++ rest) (pc + 3)) : mg_G p l e R s m args below meth c D cl Z A H0 nL Q ad C L cells slots st0 pc := by
  intro H locs ls hW hS hL
  exact mg_run (va_runI (As := As) (rest := rest) K.1 (hM H.size) cw ⟨mg_Pc.blind, mg_pre K hW⟩ rfl hn hL.1 hst (lv_room hrm) hd hf) hW hS hA hL kk
theorem mg_callVN (K : mg_K p m c cc nL s args Ts own D cl Z tys) (hA : ∀ q, H0.size ≤ q → A q) {y : MethodName} {ws : List Cond} {rm : Room} {bytes : ByteArray} {maxL n index ci N k i : Nat} {ret : Option FieldType} {Cn host : String} {T : u_T} {fs As : List Value} (hM : mg_M l y ws rm D cl Z Ts tys (va_rf (some (ad k i)) :: As) ad C mc ms post) (cw : va_CN R s args own index y host bytes maxL ret ws rm mc ms n ∧ (Cond.instanceMethod y).before args s = true ∧ (Cond.selects Cn y y).before args s = true) (hd : decode cc pc = .ok (.invokevirtual index, 3)) (hst : st0 = As.reverse ++ va_rf (some (ad k i)) :: rest) (he : C k i = some (.inr (ci, fs))) (hc : cl[ci]? = some (Cn, T, N)) (hn : As.length = n) (hrm : (rest.map fun v => v.category).sum ≤ 8) (hf : cells + mc ≤ R.cells ∧ slots + ms ≤ R.slots)
    (kk : ∀ (r : Option Value) (ad' : mg_Ad) (C' : mg_Ct), post r ad' C' → mg_G p l e R s m args below meth c D cl Z A H0 nL Q ad' C' L (cells + mc) (slots + ms) (r.toList ++ rest) (pc + 3)) : mg_G p l e R s m args below meth c D cl Z A H0 nL Q ad C L cells slots st0 pc := by
  intro H locs ls hW hS hL
  exact mg_run (va_runVN (As := As) (rest := rest) K.1 (hM H.size) cw ⟨mg_Pc.blind, va_recv K.2.1 (mg_P1 hW he) hc (q0 := 0) rfl, mg_pre K hW⟩ rfl hn hL.1 hst (lv_room hrm) hd hf) hW hS hA hL kk
theorem mg_callSN (K : mg_K p m c cc nL s args Ts own D cl Z tys) (hA : ∀ q, H0.size ≤ q → A q) {y : MethodName} {ws : List Cond} {rm : Room} {bytes : ByteArray} {maxL n index : Nat} {host : String} {ret : Option FieldType} {As : List Value} (hM : mg_M l y ws rm D cl Z Ts tys As ad C mc ms post) (cw : va_CN R s args own index y host bytes maxL ret ws rm mc ms n ∧ (Cond.static y).before args s = true ∧ True) (hd : decode cc pc = .ok (.invokestatic index, 3)) (hst : st0 = As.reverse ++ rest) (hn : As.length = n) (hrm : (rest.map fun v => v.category).sum ≤ 8) (hf : cells + mc ≤ R.cells ∧ slots + ms ≤ R.slots)
    (kk : ∀ (r : Option Value) (ad' : mg_Ad) (C' : mg_Ct), post r ad' C' → mg_G p l e R s m args below meth c D cl Z A H0 nL Q ad' C' L (cells + mc) (slots + ms) (r.toList ++ rest) (pc + 3)) : mg_G p l e R s m args below meth c D cl Z A H0 nL Q ad C L cells slots st0 pc := by
  intro H locs ls hW hS hL
  exact mg_run (va_runSN (As := As) (rest := rest) K.1 (hM H.size) cw ⟨mg_Pc.blind, mg_pre K hW⟩ rfl hn hL.1 hst (lv_room hrm) hd hf) hW hS hA hL kk
theorem mg_callIN (K : mg_K p m c cc nL s args Ts own D cl Z tys) (hA : ∀ q, H0.size ≤ q → A q) {y : MethodName} {ws : List Cond} {rm : Room} {bytes : ByteArray} {maxL n index b : Nat} {host : String} {As : List Value} (hM : mg_M l y ws rm D cl Z Ts tys (va_rf (some b) :: As) ad C mc ms post) (cw : va_CN R s args own index y host bytes maxL none ws rm mc ms n ∧ y.name = "<init>" ∧ (Cond.instanceMethod y).before args s = true) (hd : decode cc pc = .ok (.invokespecial index, 3)) (hst : st0 = As.reverse ++ va_rf (some b) :: rest) (hn : As.length = n) (hrm : (rest.map fun v => v.category).sum ≤ 8) (hf : cells + mc ≤ R.cells ∧ slots + ms ≤ R.slots)
    (kk : ∀ (r : Option Value) (ad' : mg_Ad) (C' : mg_Ct), post r ad' C' → mg_G p l e R s m args below meth c D cl Z A H0 nL Q ad' C' L (cells + mc) (slots + ms) (r.toList ++ rest) (pc + 3)) : mg_G p l e R s m args below meth c D cl Z A H0 nL Q ad C L cells slots st0 pc := by
  intro H locs ls hW hS hL
  exact mg_run (va_runIN (As := As) (rest := rest) K.1 (hM H.size) cw ⟨mg_Pc.blind, mg_pre K hW⟩ rfl hn hL.1 hst (lv_room hrm) hd hf) hW hS hA hL kk
end MG2
/-! a method's start and end -/
theorem mg_args_in : ∀ (av : List Value) (i j : Nat) (v : Value), (∀ w ∈ av, w.category = 1) → av[j]? = some v → (i + j, v) ∈ lv_args i av
  | [], _, _, _, _, h => by simp at h
  | w :: av, i, 0, v, _, h => by
    simp at h
    subst h
    simp [lv_args]
  | w :: av, i, j + 1, v, hc, h => by
    rw [List.getElem?_cons_succ] at h
    have h1 := mg_args_in av (i + 1) j v (fun x hx => hc x (List.mem_cons_of_mem _ hx)) h
    have hw : w.category = 1 := hc w List.mem_cons_self
    have e1 : i + (j + 1) = i + 1 + j := by omega
    rw [e1]
    show (i + 1 + j, v) ∈ (i, w) :: lv_args (if w.category = 2 then i + 2 else i + 1) av
    rw [if_neg (by rw [hw]; decide)]
    exact List.mem_cons_of_mem _ h1
theorem mg_L.entry {ls : Array Slot} {n : Nat} {av : List Value} (hc : ∀ w ∈ av, w.category = 1) (h : lv_has ls n (lv_args 0 av)) : mg_L ls n (av.map some) := by
  refine ⟨h.1, h.2.1, fun i v hv => ?_, fun i v hv => ?_⟩
  · rw [List.getElem?_map] at hv
    cases hq : av[i]? with
    | none => rw [hq] at hv; cases hv
    | some w =>
      rw [hq] at hv
      cases hv
      have h1 := mg_args_in av 0 i _ hc hq
      rw [Nat.zero_add] at h1
      exact h.2.2 (i, _) h1
  · rw [List.getElem?_map] at hv
    cases hq : av[i]? with
    | none => rw [hq] at hv; cases hv
    | some w =>
      rw [hq] at hv
      cases hv
      exact hc _ (List.mem_of_getElem? hq)
theorem mg_M.of {l : Launch} {y : MethodName} {ws ws' : List Cond} {rm : Room} {D : va_G} {cl : List vw_C} {Z : Nat × Cell} {B : List Cond} {tys : List (ClassId × FieldType)} {av : List Value} {ad : mg_Ad} {C : mg_Ct} {mc ms maxL : Nat} {cc : ByteArray} {ret : Option FieldType} {post : Option Value → mg_Ad → mg_Ct → Prop}
    (hy : plainName y.cls = true) (hw : ws = Cond.code y cc maxL ret :: ws') (hcap : (lg_sl av).length ≤ maxL) (hcat : ∀ w ∈ av, w.category = 1)
    (body : ∀ (p : Program) (e : Env) (s : State) (m : MethodId) (args : Array Value) (below : List Frame) (meth : Method) (c : Code), mg_K p m c cc maxL s args B y.cls D cl Z tys → meth.sig.returnType = ret → meth.locks = false → meth.name = y.name → (∀ q, s.heap.size ≤ q → mg_A ad C s.heap.size q) →
      mg_G p l e rm s m args below meth c D cl Z (mg_A ad C s.heap.size) s.heap maxL (MQ below (mg_Qc D cl Z ad C s.heap.size post) args s mc ms (mg_A ad C s.heap.size)) ad C (av.map some) 0 0 [] 0) : mg_M l y ws rm D cl Z B tys av ad C mc ms post := by
  intro sz
  refine Met.ofW (cc := cc) (maxL := maxL) (ret := ret) hy hw ?_
  intro p e s m args below meth c s₁ Bd hml hv
  obtain ⟨rfl, hsz, hW, hK, hZk⟩ := hv
  subst hsz
  have hts : ∀ w ∈ B, w.before av.toArray s = true := fun w h => hZk s (State.WarmedH.refl s) hW.2.2.2.1 w h _
  have hown := findClass_of_methodNamed Bd.named
  have hl := lv_entry av (n := maxL) hcap
  rw [lg_entry_eq]
  generalize (lg_sl av ++ List.replicate (maxL - (lg_sl av).length) Slot.unset).toArray = ls at hl ⊢
  exact body p e s m _ below meth c ⟨⟨Bd.exec, Bd.bytes, hml, hown, hts⟩, hK, hZk⟩ Bd.returns Bd.notSynchronized (name_of_methodNamed Bd.named Bd.method).1 (fun q h => Or.inr h) _ [] ls ⟨hW.1, hW.2.1, fun k i h => Or.inl ⟨k, i, h, rfl⟩, hW.2.2.2⟩ va_S.rf (mg_L.entry hcat hl)
section MG3
variable {p : Program} {l : Launch} {e : Env} {R : Room} {s : State} {m : MethodId} {args : Array Value} {below : List Frame} {meth : Method} {c : Code}
variable {D : va_G} {cl : List vw_C} {Z : Nat × Cell} {tys : List (ClassId × FieldType)} {nL : Nat} {cc : ByteArray} {Ts : List Cond} {own : String}
variable {ad ad0 : mg_Ad} {C C0 : mg_Ct} {L : List (Option Value)} {cells slots pc mc ms sz : Nat} {post : Option Value → mg_Ad → mg_Ct → Prop}
theorem mg_iret {v : Int32} (K : mg_K p m c cc nL s args Ts own D cl Z tys) (hr : meth.sig.returnType = some .int) (hk : meth.locks = false) (hd : decode cc pc = .ok (.ireturn, 1)) (h1 : cells ≤ mc) (h2 : slots ≤ ms) (hp : post (some (.int v)) ad C) : mg_G p l e R s m args below meth c D cl Z (mg_A ad0 C0 sz) s.heap nL (MQ below (mg_Qc D cl Z ad0 C0 sz post) args s mc ms (mg_A ad0 C0 sz)) ad C L cells slots [.int v] pc := by
  intro H locs ls hW hS hL
  refine W.widen h1 h2 ?_
  exact W.iret K.1.1 K.1.2.1 hr (fun t ht hWm => ⟨⟨_, ad, C, rfl, hp, by rw [ht]; exact hW⟩, hS.F ht⟩) hS.2.2 hd hk
theorem mg_zret {v : Int32} (K : mg_K p m c cc nL s args Ts own D cl Z tys) (hr : meth.sig.returnType = some .boolean) (hk : meth.locks = false) (hd : decode cc pc = .ok (.ireturn, 1)) (hn : narrow .boolean (.int v) = .int v) (h1 : cells ≤ mc) (h2 : slots ≤ ms) (hp : post (some (.int v)) ad C) : mg_G p l e R s m args below meth c D cl Z (mg_A ad0 C0 sz) s.heap nL (MQ below (mg_Qc D cl Z ad0 C0 sz post) args s mc ms (mg_A ad0 C0 sz)) ad C L cells slots [.int v] pc := by
  intro H locs ls hW hS hL
  refine W.widen h1 h2 ?_
  exact W.zret K.1.1 K.1.2.1 hr hn (fun t ht hWm => ⟨⟨_, ad, C, rfl, hp, by rw [ht]; exact hW⟩, hS.F ht⟩) hS.2.2 hd hk
theorem mg_vret (K : mg_K p m c cc nL s args Ts own D cl Z tys) (hr : meth.sig.returnType = none) (hk : meth.locks = false) (hd : decode cc pc = .ok (.return_, 1)) (h1 : cells ≤ mc) (h2 : slots ≤ ms) (hp : post none ad C) : mg_G p l e R s m args below meth c D cl Z (mg_A ad0 C0 sz) s.heap nL (MQ below (mg_Qc D cl Z ad0 C0 sz post) args s mc ms (mg_A ad0 C0 sz)) ad C L cells slots [] pc := by
  intro H locs ls hW hS hL
  refine W.widen h1 h2 ?_
  exact W.vret K.1.1 K.1.2.1 hr (fun t ht hWm => ⟨⟨_, ad, C, rfl, hp, by rw [ht]; exact hW⟩, hS.F ht⟩) hS.2.2 hd hk
theorem mg_aret {r : Option Nat} {nm : String} (K : mg_K p m c cc nL s args Ts own D cl Z tys) (hr : meth.sig.returnType = some (.object nm)) (hk : meth.locks = false) (hd : decode cc pc = .ok (.areturn, 1)) (h1 : cells ≤ mc) (h2 : slots ≤ ms) (hp : post (some (va_rf r)) ad C) : mg_G p l e R s m args below meth c D cl Z (mg_A ad0 C0 sz) s.heap nL (MQ below (mg_Qc D cl Z ad0 C0 sz post) args s mc ms (mg_A ad0 C0 sz)) ad C L cells slots [va_rf r] pc := by
  intro H locs ls hW hS hL
  refine W.widen h1 h2 ?_
  exact W.aret K.1.1 K.1.2.1 hr (Or.inl ⟨nm, rfl⟩) (by cases r <;> simp [va_rf]) (fun t ht hWm => ⟨⟨_, ad, C, rfl, hp, by rw [ht]; exact hW⟩, hS.F ht⟩) hS.2.2 hd hk
end MG3
