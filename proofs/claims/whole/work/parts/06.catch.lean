/-! a catch whose class is named by a link, cold or warm -/
def mg_Fi (e : Env) (s : State) (f : JFrame) (a : Addr) (pc : Nat) (v : Vm) : Prop := ∀ (Q : Handler → Pre) (E : CtlPost) (d : Bool) (acts : List Action), wp (findHandler f a) Q E e d acts s ↔ Q (.found pc) d acts (s.setVm v)
theorem mg_Fi.one {e : Env} {s : State} {f : JFrame} {a : Addr} {meth : Method} {code : Code} {x : ExceptionTableEntry} {k : ClassId} {cell : Cell} (hm : s.vm.method? f.method = some meth) (hc : meth.code = some code) (h1 : code.exceptionTable.toList = [x]) (hx : covers x f.pc = true) (h0 : x.catchType ≠ 0)
    (hl : s.vm.ClassLinks e.platform f.method.cls x.catchType k) (hcell : s.heap[a]? = some cell) (hobj : ∀ j, cell.vm ≠ .statics j) (hA : ∃ j, s.vm.classes[cell.cls]? = some j) (hB : ∃ j, s.vm.classes[k]? = some j) (hfit : s.vm.assignable cell.cls k = true) :
    mg_Fi e s f a x.handlerPc (s.vm.noted f.method.cls x.catchType (.cls k)) := by
  intro Q E d acts
  rw [W.findHandler_eq hm hc, h1]
  simp only [covers] at hx
  obtain ⟨ha, ht⟩ := (resolveClass_links e.toSetting hl).op (op := VmOp.resolveClass f.method.cls x.catchType) rfl
  have hal : s.vm.Alike (s.vm.noted f.method.cls x.catchType (.cls k)) := (Vm.Alike.refl s.vm).noted _ _ _
  obtain ⟨a1, ha1⟩ := hA
  obtain ⟨b1, hb1⟩ := hB
  obtain ⟨a2, ha2, -⟩ := hal.2.2 _ _ ha1
  obtain ⟨b2, hb2, -⟩ := hal.2.2 _ _ hb1
  have hf2 : (s.vm.noted f.method.cls x.catchType (.cls k)).assignable cell.cls k = true := by rw [hal.assignable]; exact hfit
  simp [findHandler.go, hx, h0, ha, ht, hcell, hobj, ha2, hb2, hf2, VmOp.dirties, VmOp.acts]
theorem mg_Fi.step {e : Env} {s : State} {f : JFrame} {a : Addr} {pc : Nat} {v : Vm} (h : mg_Fi e s f a pc v) (r : List Frame) : (stepThrowing e s a (.java f :: r)).Is ((s.setVm v).setFrames (.java { f with pc := pc, stack := [.ref a] } :: r)) [] := by
  simp only [stepThrowing, searchFrame, vmDo]
  generalize hr : Sem.go _ e false [] s = res
  obtain ⟨as, rfl, ha⟩ := Sem.eq_ok_of hr (a := Handler.found pc) (s' := s.setVm v) (acts' := []) (by simp [h _ _ _ _])
  exact ⟨rfl, ha⟩
theorem mg_Fi.goes {tb : Tables} {e : Env} {s target : State} {g : JFrame} {c : Code} {below : List Frame} {a : Addr} (h : At s g.method c below) {pc : Nat} {v : Vm} (hf : mg_Fi e ((s.setTop g).pushFrame (.throwing a)) g a pc v) (hrest : Steps tb e below ((s.setVm v).setTop { g with pc := pc, stack := [.ref a] }) target) :
    Steps tb e below ((s.setTop g).pushFrame (.throwing a)) target := by
  obtain ⟨hgo, hw⟩ := h.throwing a
  refine Steps.head hgo hw ?_
  rw [stepThread_throwing (frames_entered h.top _), (hf.step _).1]
  obtain ⟨g₀, hg⟩ := Option.isSome_iff_exists.mp h.top
  obtain ⟨r, hr⟩ := State.topJava?_eq_some.mp hg
  have hr' : (s.setVm v).frames = .java g₀ :: r := hr
  have key : ∀ (u : State) (F G : List Frame), ((u.setFrames F).setVm v).setFrames G = (u.setVm v).setFrames G := fun u F G => by
    have h1 : (u.setFrames F).setVm v = (u.setVm v).setFrames F := rfl
    rw [h1, State.setFrames_setFrames]
  rw [State.setTop_of_frames _ hr'] at hrest
  rw [hr, List.tail_cons, State.pushFrame, key, State.setTop_of_frames _ hr, key]
  exact hrest
theorem mg_caught {p : Program} {l : Launch} {e : Env} {R : Room} {s : State} {m : MethodId} {args : Array Value} {below : List Frame} {meth : Method} {c : Code} {T : State} {locs : List Loc} {cells slots : Nat} (X : Stand p l e R s m args below meth c T locs cells slots) {a : Addr} {g : JFrame} (hg : g.method = m) {own nm : String} (hown : s.vm.findClass own = some m.cls) {x : ExceptionTableEntry}
    (h1 : c.exceptionTable.toList = [x]) (hx : covers x g.pc = true) (h0 : x.catchType ≠ 0) (hlink : (Cond.classLink own x.catchType nm).before args s = true) {k : ClassId} {cell : Cell} (hk : s.vm.findClass nm = some k) (hcell : T.heap[a]? = some cell) (hobj : cell.vm.isStatics = false) (hfit : s.vm.assignable cell.cls k = true) :
    ∃ v, Stand p l e R s m args below meth c (T.setVm v) locs cells slots ∧ ∀ target, Steps p.tables e below ((T.setVm v).setTop { g with pc := x.handlerPc, stack := [.ref a] }) target → Steps p.tables e below ((T.setTop g).pushFrame (.throwing a)) target := by
  have hpl : e.platform.magicAccessors = ({} : Platform).magicAccessors := by rw [X.admits.platform]
  obtain ⟨k', hk', hcl⟩ := Cond.classLink_spec hown hlink e.platform hpl
  cases hk.symm.trans hk'
  obtain ⟨dk, _, _, kt, hd, _, _, _, _, hkt, _, hopen⟩ := hcl.here
  have hcl₀ := X.warmed.classLinks hcl
  have hW' : s.WarmedH (T.vm.noted m.cls x.catchType (.cls k)) := X.warmed.noted hd hopen (State.rightAt_cls hcl)
  have hal := X.warmed.alike
  obtain ⟨kt', hkt', -⟩ := hal.2.2 _ _ hkt
  have hfit' : T.vm.assignable cell.cls k = true := by rw [hal.assignable]; exact hfit
  subst hg
  have hfi : mg_Fi e ((T.setTop g).pushFrame (.throwing a)) g a x.handlerPc (T.vm.noted g.method.cls x.catchType (.cls k)) :=
    mg_Fi.one (s := (T.setTop g).pushFrame (.throwing a)) (meth := meth) (code := c) X.method' X.code h1 hx h0 hcl₀ hcell (VmData.ne_statics_of hobj) (Vm.classAt_of_assignable hfit' ⟨kt', hkt'⟩) ⟨kt', hkt'⟩ hfit'
  exact ⟨_, X.noted hW', fun target hrest => hfi.goes X.here hrest⟩
section MT4
variable {p : Program} {l : Launch} {e : Env} {R : Room} {s : State} {m : MethodId} {args : Array Value} {below : List Frame} {meth : Method} {c : Code} {Q : State → Prop}
variable {D : va_G} {cl : List vw_C} {Z : Nat × Cell} {tys : List (ClassId × FieldType)} {A : Nat → Prop} {H0 : Heap} {nL : Nat} {cc : ByteArray} {Ts : List Cond} {own : String}
variable {ad : mg_Ad} {C : mg_Ct} {L : List (Option Value)} {cells slots pc mc ms : Nat} {st rest st0 : List Value} {post : Option Value → mg_Ad → mg_Ct → Prop}
/-- a callee throws, and this method catches it -/
theorem mg_catchV (K : mg_K p m c cc nL s args Ts own D cl Z tys) (hA : ∀ q, H0.size ≤ q → A q) {y : MethodName} {ws : List Cond} {rm : Room} {bytes : ByteArray} {maxL n index ci N k i : Nat} {ret : Option FieldType} {Cn Xn nm : String} {T : u_T} {fs As : List Value} {a0 a1 hpc ct : Nat} (hM : mg_T l y ws rm D cl Z Ts tys (va_rf (some (ad k i)) :: As) ad C Xn) (cw : CallW R s args own Cn index y bytes maxL ret ws rm 1 6 n) (hd : decode cc pc = .ok (.invokevirtual index, 3)) (hst : st0 = As.reverse ++ va_rf (some (ad k i)) :: rest) (he : C k i = some (.inr (ci, fs))) (hc : cl[ci]? = some (Cn, T, N)) (hn : As.length = n) (hrm : (rest.map fun v => v.category).sum ≤ 8) (hf : cells + 1 ≤ R.cells ∧ slots + 6 ≤ R.slots)
    (htab : c.exceptionTable.toList.map (fun h => (h.startPc, h.endPc, h.handlerPc, h.catchType)) = [(a0, a1, hpc, ct)]) (hcov : a0 ≤ pc ∧ pc < a1) (h0 : ct ≠ 0) (hlink : Cond.classLink own ct nm ∈ Ts) (hcast : Cond.castable Xn nm ∈ Ts)
    (kk : ∀ q : Nat, mg_G p l e R s m args below meth c D cl Z A H0 nL Q ad C L (cells + 1) (slots + 6) [va_rf (some q)] hpc) : mg_G p l e R s m args below meth c D cl Z A H0 nL Q ad C L cells slots st0 pc := by
  intro H locs ls hW hS hL
  have hr := mg_runVT (l := l) (e := e) (below := below) (meth := meth) (locs := locs) (cells := cells) (slots := slots) (g := F0 m pc ls st0) (As := As) (rest := rest) K.1 (hM H.size) cw ⟨mg_Pc.blind, va_recv K.2.1 (mg_P1 hW he) hc (q0 := 0) rfl, mg_pre K hW⟩ rfl hn hL.1 hst (lv_room hrm) hd hf
  obtain ⟨x, hx1, hx2⟩ : ∃ x : ExceptionTableEntry, c.exceptionTable.toList = [x] ∧ (x.startPc, x.endPc, x.handlerPc, x.catchType) = (a0, a1, hpc, ct) := by
    match hq : c.exceptionTable.toList, htab with
    | [x], h => exact ⟨x, rfl, by simpa using h⟩
    | [], h => simp at h
    | x :: y :: r, h => simp at h
  simp only [Prod.mk.injEq] at hx2
  obtain ⟨rfl, rfl, rfl, rfl⟩ := hx2
  have hts := K.1.2.2.2.2
  obtain ⟨c3, cT, hc3, hcT, hasg⟩ := Cond.castable_spec (hts _ hcast)
  intro T hT X
  obtain ⟨xa, st₀, t, T', Lc, g0, X', hLc, e1, e2, ⟨⟨x', cell, hx, hcell, hfc, hvm⟩, hz, hk⟩, sT⟩ := hr T hT X
  cases hx
  rw [g0] at hz hk
  have hfs : s.vm.findClass Xn = some cell.cls := by rw [← X'.warmed.alike.findClass, e2]; exact hfc
  have hasg' : s.vm.assignable cell.cls cT = true := by rw [Option.some.inj (hfs.symm.trans hc3)]; exact hasg
  obtain ⟨v, X2, hgo⟩ := mg_caught X' (a := xa) (g := F0 m pc ls rest) rfl K.1.2.2.2.1 hx1 (by simp [covers, hcov.1, hcov.2]) h0 (hts _ hlink) hcT (by rw [e1]; exact hcell) hvm hasg'
  have hkeep : ∀ q : Nat, q < H.size → T'.heap[q]? = H[q]? := fun q hq => by rw [e1]; exact hk q hq (Nat.not_le.mpr hq)
  obtain ⟨t2, b1, b2⟩ := kk xa T'.heap (locs ++ Lc) ls (hW.kept hkeep)
    ⟨Nat.le_trans hS.1 (by rw [e1]; exact hz), fun q h1 h2 => by rw [hkeep q (Nat.lt_of_lt_of_le h1 hS.1)]; exact hS.2.1 q h1 h2, fun q hq => by
      rcases List.mem_append.mp hq with h | h
      · exact hS.2.2 q h
      · exact hA _ (Nat.le_trans hS.1 (hLc q h))⟩ hL (T'.setVm v) rfl X2
  exact ⟨t2, sT _ (hgo _ b1), b2⟩
/-- a static method that has handlers, called -/
theorem mg_backW {y : MethodName} {ws : List Cond} {rm : Room} {Pc : Array Value → State → Prop} {Qc : Array Value → State → Outcome → State → Prop} {free : Addr → Prop} {bytes : ByteArray} {maxL W len : Nat} {ret : Option FieldType} {handlers : List (Nat × Nat × Nat × Nat)}
    (hM : Met l y ws rm Pc Qc mc ms free) (hblind : FrameBlind Pc) (hrc : rm.cells = mc) (hrs : rm.slots = ms)
    (hframes : rm.frames + 1 ≤ R.frames) (hlocals : W + (maxL + 11) + rm.locals ≤ R.locals)
    (hws : ∀ w ∈ ws, ∀ a' U, s.WarmedH U.vm → w.before a' U = true) (hcode : Cond.codeWith y bytes maxL ret handlers ∈ ws) (hinit : ∀ a' U, s.WarmedH U.vm → (Cond.initialized y.cls).before a' U = true) :
    Back l R p e below s args y len W (PreOf R mc ms Pc) (PostOf Qc mc ms free) := by
  refine Jvm.Free.Back.of_freeWith (handlers := handlers) (S := headSpec ws rm) (P := Pc) (K := fun _ _ _ _ _ => True) (Q := fun a st o t => Qc a st o t ∧ ∃ L, FrameEnd st o t L mc ms ∧ ∀ q ∈ L, free q.base) (bytes := bytes) (maxL := maxL) (ret := ret)
    (E := fun a st o t L k n => k = mc ∧ n = ms ∧ ∀ q ∈ L, free q.base) hM hframes hlocals ?_ ?_ (fun _ _ _ _ _ _ _ _ _ => trivial) ?_ ?_
  · intro m meth c A a X hp
    exact ⟨atoms_intro fun w hw => hws w hw _ _ X.warmed, hws _ hcode _ _ X.warmed, hinit _ _ X.warmed, by rw [show (headSpec ws rm).room.cells = mc from hrc]; exact hp.1, by rw [show (headSpec ws rm).room.slots = ms from hrs]; exact hp.2.1⟩
  · intro m meth c A a g mk X hp
    exact hblind _ _ _ _ hp.2.2
  · intro a st o t ⟨hq, L, hF, hL⟩
    exact ⟨L, mc, ms, hF, rfl, rfl, hL⟩
  · intro m meth c A a g mk v t L k n X hp hq hF ⟨e1, e2, hL⟩
    subst e1; subst e2
    exact ⟨g, mk, t, L, rfl, rfl, hq.1, rfl, hL, rfl, rfl⟩
theorem mg_callSW (K : mg_K p m c cc nL s args Ts own D cl Z tys) (hA : ∀ q, H0.size ≤ q → A q) {y : MethodName} {ws : List Cond} {rm : Room} {bytes : ByteArray} {maxL n index : Nat} {ret : Option FieldType} {As : List Value} {handlers : List (Nat × Nat × Nat × Nat)} (hM : mg_M l y ws rm D cl Z Ts tys As ad C mc ms post)
    (hrc : rm.cells = mc) (hrs : rm.slots = ms) (hfr : rm.frames + 1 ≤ R.frames) (hlo : 8 + (maxL + 11) + rm.locals ≤ R.locals) (hws : ws = [Cond.codeWith y bytes maxL ret handlers]) (hcode : Cond.codeWith y bytes maxL ret handlers ∈ Ts) (hini : Cond.initialized y.cls ∈ Ts) (hstt : Cond.static y ∈ Ts) (hl : Cond.methodLink own index y ∈ Ts)
    (hy : y.cls ≠ "java/lang/invoke/MethodHandle" ∧ y.cls ≠ "java/lang/invoke/VarHandle") (hdn : (parseMethodDescriptor y.desc).map (fun d => d.parameters.length) = some n)
    (hd : decode cc pc = .ok (.invokestatic index, 3)) (hst : st0 = As.reverse ++ rest) (hn : As.length = n) (hrm : (rest.map fun v => v.category).sum ≤ 8) (hf : cells + mc ≤ R.cells ∧ slots + ms ≤ R.slots)
    (kk : ∀ (r : Option Value) (ad' : mg_Ad) (C' : mg_Ct), post r ad' C' → mg_G p l e R s m args below meth c D cl Z A H0 nL Q ad' C' L (cells + mc) (slots + ms) (r.toList ++ rest) (pc + 3)) : mg_G p l e R s m args below meth c D cl Z A H0 nL Q ad C L cells slots st0 pc := by
  intro H locs ls hW hS hL
  have hts := K.1.2.2.2.2
  have hr : va_Run p l e R s m args below meth c H locs cells slots mc ms (F0 m pc ls st0) rest (mg_Qc D cl Z ad C H.size post As.toArray) (mg_A ad C H.size) := by
    have hK : Back l R p e below s args y 3 8 (PreOf R mc ms (mg_Pc D cl Z Ts tys As ad C H.size)) (PostOf (mg_Qc D cl Z ad C H.size post) mc ms (mg_A ad C H.size)) :=
      mg_backW (hM H.size) mg_Pc.blind hrc hrs hfr hlo (fun w hw a' U hW => by rw [hws] at hw; rw [List.mem_singleton.mp hw]; exact word_at hW (Or.inl rfl) (hts _ hcode)) (by rw [hws]; exact List.mem_singleton.mpr rfl) (fun a' U hW => word_at hW (Or.inl (by first | rfl | simp [Cond.onTables, Cond.keeps, Cond.steady])) (hts _ hini))
    obtain ⟨mk, methM, cM, hnamed, hmethM, -, -, -, -, -, -, hsigM⟩ := Cond.codeWith_spec (hts _ hcode)
    have hstatic : methM.isStatic = true := Cond.static_spec hnamed hmethM (hts _ hstt)
    obtain ⟨kP, hkP, -⟩ := className_of_methodNamed hnamed
    have hinitP : kP.init = .initialized := Cond.initialized_spec (findClass_of_methodNamed hnamed) hkP (hts _ hini)
    have hdg' : decode c.code pc = .ok (.invokestatic index, 3) := by rw [K.1.2.1]; exact hd
    have hlen : As.length = methM.sig.parameters.length := by
      rw [hsigM] at hdn
      exact hn.trans (Option.some.inj hdn).symm
    intro T hT X
    obtain ⟨vm₁, X₁, hstep₁⟩ := X.invokestatic K.1.1 K.1.2.2.2.1 (hts _ hl) hnamed hmethM hstatic hkP hinitP hy (g := F0 m pc ls st0) rfl (argsL := As) (rest := rest) hlen hst hdg'
    obtain ⟨v, ⟨U', l2, c2, s2⟩, X', ⟨g', mk', t, Lx, e1, e2, hq, h1, hLx, h2, h3⟩, hsteps⟩ := hK m meth c ⟨T.setVm vm₁, locs, cells, slots⟩ { F0 m pc ls st0 with stack := rest } (.invokestatic index) mk As.toArray X₁ rfl (hL.1.trans K.1.2.2.1.symm) hdg' (lv_room hrm) (X₁.named hnamed) ⟨hf.1, hf.2, mg_pre K hW (T.setVm vm₁) hT X₁.warmed⟩
    dsimp only [Jvm.Free.Pt.U, Jvm.Free.Pt.locs, Jvm.Free.Pt.cells, Jvm.Free.Pt.slots] at X' e1 e2 h1 h2 h3 hsteps
    subst h1; subst h2; subst h3
    exact ⟨v, (T.setVm vm₁).calling g' mk' As.toArray, t, U', Lx, hT, X', hLx, e1, e2, hq, fun target h => hstep₁ _ fun acts => by rw [doInvoke_state]; exact hsteps.trans h⟩
  exact mg_run hr hW hS hA hL kk
end MT4
theorem mg_M.ofW {l : Launch} {y : MethodName} {ws ws' : List Cond} {rm : Room} {D : va_G} {cl : List vw_C} {Z : Nat × Cell} {B : List Cond} {tys : List (ClassId × FieldType)} {av : List Value} {ad : mg_Ad} {C : mg_Ct} {mc ms maxL : Nat} {cc : ByteArray} {ret : Option FieldType} {handlers : List (Nat × Nat × Nat × Nat)} {post : Option Value → mg_Ad → mg_Ct → Prop}
    (hy : plainName y.cls = true) (hw : ws = Cond.codeWith y cc maxL ret handlers :: ws') (hcap : (lg_sl av).length ≤ maxL) (hcat : ∀ w ∈ av, w.category = 1)
    (body : ∀ (p : Program) (e : Env) (s : State) (m : MethodId) (args : Array Value) (below : List Frame) (meth : Method) (c : Code), mg_K p m c cc maxL s args B y.cls D cl Z tys → meth.sig.returnType = ret → meth.locks = false → c.exceptionTable.toList.map (fun h => (h.startPc, h.endPc, h.handlerPc, h.catchType)) = handlers → (∀ q, s.heap.size ≤ q → mg_A ad C s.heap.size q) →
      mg_G p l e rm s m args below meth c D cl Z (mg_A ad C s.heap.size) s.heap maxL (MQ below (mg_Qc D cl Z ad C s.heap.size post) args s mc ms (mg_A ad C s.heap.size)) ad C (av.map some) 0 0 [] 0) : mg_M l y ws rm D cl Z B tys av ad C mc ms post := by
  intro sz
  refine MetFree.of_bodyS (code := cc) (maxLocals := maxL) (ret := ret) hy ?_ ?_
  · intro args s m h hn
    obtain ⟨m', meth, c, hn', h1, h2, h3, h4, -, h5, h6, -⟩ := Cond.codeWith_spec (atoms_spec (ws := ws) h _ (by rw [hw]; exact List.mem_cons_self))
    cases hn.symm.trans hn'
    exact ⟨meth, c, h1, h2, h3, h4, h5, h6⟩
  · intro p e s m args below meth c s₁ Bd hml hP _
    have hh0 : s₁.heap = s.heap := by rw [Bd.state]; rfl
    obtain ⟨rfl, hsz, hW, hK, hZk⟩ := hP
    subst hsz
    have hts : ∀ w ∈ B, w.before av.toArray s = true := fun w h => hZk s (State.WarmedH.refl s) hW.2.2.2.1 w h _
    have hown := findClass_of_methodNamed Bd.named
    obtain ⟨m', meth', c', hn', h1, h2, h3, h4, htab, h5, h6, -⟩ := Cond.codeWith_spec (atoms_spec (ws := ws) Bd.pre _ (by rw [hw]; exact List.mem_cons_self))
    cases Bd.named.symm.trans hn'
    cases Bd.method.symm.trans h1
    cases (Stand.of_body Bd).code.symm.trans h2
    have hl := lv_entry av (n := maxL) hcap
    have hb := body p e s m av.toArray below meth c ⟨⟨Bd.exec, Bd.bytes, hml, hown, hts⟩, hK, hZk⟩ Bd.returns Bd.notSynchronized htab (fun q h => Or.inr h)
    rw [lg_entry_eq]
    generalize (lg_sl av ++ List.replicate (maxL - (lg_sl av).length) Slot.unset).toArray = ls at hl ⊢
    obtain ⟨t, a1, o, b1, b2, b3⟩ := hb s.heap [] ls ⟨hW.1, hW.2.1, fun k i h => Or.inl ⟨k, i, h, rfl⟩, hW.2.2.2⟩ va_S.rf (mg_L.entry hcat hl) s₁ hh0 (Stand.of_body Bd)
    exact ⟨t, o, a1, b1, b2, ⟨b3.1, b3.2⟩⟩
