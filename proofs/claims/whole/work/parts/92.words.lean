/-! what the tables' words give at the law's entry, and in every later state that keeps the cell of Throwable's statics -/
def lw_c1 (w : Cond) : Bool := w.onTables && w.keeps
def lw_c2 (w : Cond) : Bool := w.onTables && w.faceAtom
def lw_c3 : Cond → Bool
  | .arrayClass _ => true
  | .methodLinkNest _ _ _ _ => true
  | .stringRef _ _ _ => true
  | .arrayOver (.object _) => true
  | .laysStatic o n d => o == Bundle.tN && ((n == "UNASSIGNED_STACK" && d == Bundle.steD) || (n == "SUPPRESSED_SENTINEL" && d == Bundle.listD))
  | .isRef (.static o n d) => o == Bundle.tN && ((n == "UNASSIGNED_STACK" && d == Bundle.steD) || (n == "SUPPRESSED_SENTINEL" && d == Bundle.listD))
  | _ => false
def lw_cls (w : Cond) : Bool := lw_c1 w || (lw_c2 w || lw_c3 w)
theorem lw_cls_all : mb_B.all lw_cls = true := by decide +kernel
theorem lw_lsU : Cond.laysStatic Bundle.tN "UNASSIGNED_STACK" Bundle.steD ∈ mb_B := mo_iae _ (by simp [Bundle.ownAtoms, Bundle.throwableAtoms])
theorem lw_lsS : Cond.laysStatic Bundle.tN "SUPPRESSED_SENTINEL" Bundle.listD ∈ mb_B := mo_iae _ (by simp [Bundle.ownAtoms, Bundle.throwableAtoms])
theorem lw_stat {s U : State} {o n d : String} {c : ClassId} {k : Class} {a : Nat} {cell : Cell} {A0 : Array Value} (hW : s.WarmedH U.vm) (hc : s.vm.findClass o = some c) (hk : s.vm.classes[c]? = some k) (ha : k.statics = some a) (hcell : s.heap[a]? = some cell) (h : (Cond.laysStatic o n d).before A0 s = true) : ∃ (k2 : Class) (i : Nat) (f : Field), U.vm.findClass o = some c ∧ U.fieldFound? o n d = some (c, k2, i, f) ∧ f.isStatic = true ∧ k2.statics = some a ∧ cell.vm.isStatics = true ∧ cell.cls = c ∧ f.slot < cell.slots.size ∧ k2.staticTypes[f.slot]? = some f.type := by
  have h1 : (Cond.laysStatic o n d).before A0 (s.setVm U.vm) = true := Cond.before_shiftedFace (State.Shifted.of_warmed hW) _ rfl h
  obtain ⟨c2, k2, i, f, a2, cell2, e1, e2, e3, e4, e5, e6, e7, e8, e9⟩ := Cond.laysStatic_spec h1
  have e1' : U.vm.findClass o = some c2 := e1
  have hcc : c2 = c := by
    rw [hW.alike.findClass] at e1'
    exact Option.some.inj (e1'.symm.trans hc)
  subst hcc
  obtain ⟨k', q1, q2⟩ := hW.alike.2.2 c2 k hk
  have hkk : k2 = k' := Option.some.inj ((State.fieldFound?_spec e2).1.symm.trans q1)
  subst hkk
  have hs : k2.statics = some a := by rw [q2]; exact ha
  have haa : a2 = a := Option.some.inj (e4.symm.trans hs)
  subst haa
  have hce : cell2 = cell := Option.some.inj (e5.symm.trans hcell)
  subst hce
  exact ⟨k2, i, f, e1', e2, e3, e4, e6, e7, e8, e9⟩
theorem lw_word {s U : State} {A0 A : Array Value} {c : ClassId} {k : Class} {a : Nat} {cell : Cell} (hW : s.WarmedH U.vm) (hc : s.vm.findClass Bundle.tN = some c) (hk : s.vm.classes[c]? = some k) (ha : k.statics = some a) (hcell : s.heap[a]? = some cell) (hz : U.heap[a]? = some cell)
    (hU : (Cond.laysStatic Bundle.tN "UNASSIGNED_STACK" Bundle.steD).before A0 s = true) (hS : (Cond.laysStatic Bundle.tN "SUPPRESSED_SENTINEL" Bundle.listD).before A0 s = true) (w : Cond) (hw : lw_cls w = true) (h : w.before A0 s = true) : w.before A U = true := by
  have key : ∀ n d : String, ((n == "UNASSIGNED_STACK" && d == Bundle.steD) || (n == "SUPPRESSED_SENTINEL" && d == Bundle.listD)) = true → (Cond.laysStatic Bundle.tN n d).before A0 s = true := by
    intro n d hn
    rw [Bool.or_eq_true, Bool.and_eq_true, Bool.and_eq_true, beq_iff_eq, beq_iff_eq, beq_iff_eq, beq_iff_eq] at hn
    rcases hn with ⟨rfl, rfl⟩ | ⟨rfl, rfl⟩
    · exact hU
    · exact hS
  unfold lw_cls at hw
  rw [Bool.or_eq_true, Bool.or_eq_true] at hw
  rcases hw with hw | hw | hw
  · exact word_at hW (Or.inl hw) h
  · unfold lw_c2 at hw
    rw [Bool.and_eq_true] at hw
    exact va_tabs (u := s.setVm U.vm) hw.1 rfl (Cond.faceAtom_setVm hW.alike w hw.2 h)
  · unfold lw_c3 at hw
    split at hw
    · exact word_at hW (Or.inr ⟨_, rfl⟩) h
    · exact va_Nw.use rfl (va_Nw.warmM hW (va_Nw.of rfl h))
    · exact Cond.stringRef_warmed hW h
    · exact va_AO.use (va_AO.moved hW.alike (va_AO.of h))
    · rw [Bool.and_eq_true, beq_iff_eq] at hw
      obtain ⟨rfl, hn⟩ := hw
      obtain ⟨k2, i, f, f1, f2, f3, f4, f5, f6, f7, f8⟩ := lw_stat hW hc hk ha hcell h
      simp [Cond.before, Cond.holds, Cond.value, f1, f2, f3, f4, f5, f6, f7, f8, hz]
    · rw [Bool.and_eq_true, beq_iff_eq] at hw
      obtain ⟨rfl, hn⟩ := hw
      obtain ⟨k2, i, f, f1, f2, f3, f4, f5, f6, f7, f8⟩ := lw_stat hW hc hk ha hcell (key _ _ hn)
      have h1 := Cond.before_shiftedFace (State.Shifted.of_warmed hW) _ rfl h
      have hv := Term.static_eval (args := A) (first := U) (o := none) (idx := []) f2 f3 f4 hz f5 (Array.getElem?_eq_getElem f7)
      have hv1 := Term.static_eval (args := A0) (first := s.setVm U.vm) (o := none) (idx := []) (s := s.setVm U.vm) f2 f3 f4 hcell f5 (Array.getElem?_eq_getElem f7)
      simp only [Cond.before, Cond.holds, Cond.value, hv1] at h1
      simp only [Cond.before, Cond.holds, Cond.value, hv]
      exact h1
    · cases hw
theorem lw_Zk {s : State} {A0 : Array Value} (hall : ∀ w ∈ mb_B, w.before A0 s = true) : ∃ Z : Nat × Cell, s.heap[Z.1]? = some Z.2 ∧ mg_Zk mb_B Z s := by
  obtain ⟨c, k, i, f, a, cell, h1, h2, h3, h4, h5, -⟩ := Cond.laysStatic_spec (hall _ lw_lsU)
  refine ⟨(a, cell), h5, fun U hW hz w hw A => ?_⟩
  exact lw_word hW h1 (State.fieldFound?_spec h2).1 h4 h5 hz (hall _ lw_lsU) (hall _ lw_lsS) w (List.all_eq_true.mp lw_cls_all w hw) (hall w hw)
theorem lw_kn {s : State} {A0 : Array Value} (hall : ∀ w ∈ mb_B, w.before A0 s = true) {own : String} {index kd N ci : Nat} {fl : List Nat} {q : vw_C} (h : mr_Nd mb_B mn_cl ma_sh own index kd N) (hk : ma_sh kd = .inl (ci, fl)) (hq : mn_cl[ci]? = some q) : ∃ (cC : ClassId) (iS : Nat → Nat), ∀ q', mn_cl[ci]? = some q' → u_Kn s q'.1 q'.2.1 q'.2.2 cC iS := by
  obtain ⟨ci', fl', Cn, T, ty0, h1, h2, h3, h4, h5, h6, h7, h8⟩ := h
  rw [hk] at h1
  cases h1
  obtain ⟨cC, iS, hKn⟩ := u_known hall h3 (hall _ h6)
  exact ⟨cC, iS, fun q' hq' => by rw [h2] at hq'; cases hq'; exact hKn⟩
theorem lw_ao {s : State} {A0 : Array Value} {n : String} (h : (Cond.arrayOver (.object n)).before A0 s = true) : ∃ c : ClassId, ArrOfT s c (.object n) ∧ va_RA s c (.object n) := by
  obtain ⟨comp, c, k, h1, -, h3, h4, h5⟩ := Cond.arrayOver_spec h
  exact ⟨c, fun N z => ⟨(fun k h => by cases h), k, h3, comp, h4⟩, k, comp, h3, h4, h1, h5⟩
theorem lw_ac {s : State} {A0 : Array Value} {ty : FieldType} (h : (Cond.arrayClass ty).before A0 s = true) : ∃ c : ClassId, ArrOfT s c ty ∧ s.vm.findClass ("[" ++ ty.toString) = some c := by
  obtain ⟨c, k, comp, h1, h2, h3⟩ := Cond.arrayClass_spec h
  exact ⟨c, fun N z => ⟨(fun k h => by cases h), k, h2, comp, h3⟩, h1⟩
theorem lw_K {s : State} {A0 : Array Value} (hall : ∀ w ∈ mb_B, w.before A0 s = true) : ∃ (D : va_G) (tys : List (ClassId × FieldType)), tys.map (·.2) = ma_ty ∧ va_K D mn_cl tys s := by
  have hc : ∀ ci : Nat, ∃ (cC : ClassId) (iS : Nat → Nat), ∀ q, mn_cl[ci]? = some q → u_Kn s q.1 q.2.1 q.2.2 cC iS := by
    intro ci
    match ci with
    | 0 => exact lw_kn hall mw_W_8 rfl rfl
    | 1 => exact lw_kn hall mw_A_25 rfl rfl
    | 2 => exact lw_kn hall mw_A_65 rfl rfl
    | 3 => exact lw_kn hall mw_A_9 rfl rfl
    | 4 => exact lw_kn hall mw_A_15 rfl rfl
    | 5 => exact lw_kn hall mw_W_41 rfl rfl
    | n + 6 => exact ⟨0, fun _ => 0, fun q hq => by simp [mn_cl] at hq⟩
  obtain ⟨t0, a0, r0⟩ := lw_ao (hall _ mq_A_9.2)
  obtain ⟨t1, a1, r1⟩ := lw_ao (hall _ mq_A_15.2)
  obtain ⟨t2, a2, r2⟩ := lw_ac (hall _ mb_ar_boolean)
  obtain ⟨t3, a3, r3⟩ := lw_ao (hall _ mq_L_9.2)
  obtain ⟨t4, a4, r4⟩ := lw_ac (hall _ mb_ar_int)
  obtain ⟨t5, a5, r5⟩ := lw_ac (hall _ mb_ar_long)
  refine ⟨(fun ci => (hc ci).choose, fun ci => (hc ci).choose_spec.choose), [(t0, .object mn_RS), (t1, .object mn_RU), (t2, .boolean), (t3, .object mn_RG), (t4, .int), (t5, .long)], rfl, fun ci q hq => (hc ci).choose_spec.choose_spec q hq, fun j q hq => ?_⟩
  match j, hq with
  | 0, hq => cases hq; exact ⟨a0, r0⟩
  | 1, hq => cases hq; exact ⟨a1, r1⟩
  | 2, hq => cases hq; exact ⟨a2, r2⟩
  | 3, hq => cases hq; exact ⟨a3, r3⟩
  | 4, hq => cases hq; exact ⟨a4, r4⟩
  | 5, hq => cases hq; exact ⟨a5, r5⟩
  | n + 6, hq => simp at hq
