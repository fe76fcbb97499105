/-! a method that throws: mg_T; its making of an exception, its passing on, its catching -/
def mg_FT (first : State) (o : Outcome) (t : State) (L : List Loc) (k n : Nat) : Prop := (∃ x, o = .threw x) ∧ first.WarmedH t.vm ∧ first.sameButNew ({ t with vm := first.vm } : State) L k n
def mg_MT (l : Launch) (y : MethodName) (ws : List Cond) (rm : Room) (Pc : Array Value → State → Prop) (Qc : Array Value → State → Outcome → State → Prop) (mc ms : Nat) (free : Addr → Prop) : Prop :=
  MetFree l y (headSpec ws rm) Pc (fun _ _ _ _ _ => True) (fun a st o t => Qc a st o t ∧ ∃ L, mg_FT st o t L mc ms ∧ ∀ q ∈ L, free q.base)
section MT1
variable {l : Launch} {R : Room} {p : Program} {e : Env} {below : List Frame} {s : State} {args : Array Value} {y : MethodName} {W len : Nat} {m : MethodId} {meth : Method} {c : Code} {U : State} {Ls : List Loc} {c0 s0 : Nat}
theorem mg_backT {ws : List Cond} {rm : Room} {Pc : Array Value → State → Prop} {Qc : Array Value → State → Outcome → State → Prop} {mc ms : Nat} {free : Addr → Prop} {bytes : ByteArray} {maxL : Nat} {ret : Option FieldType}
    (hM : mg_MT l y ws rm Pc Qc mc ms free) (hblind : FrameBlind Pc) (hrc : rm.cells = mc) (hrs : rm.slots = ms)
    (hframes : rm.frames + 1 ≤ R.frames) (hlocals : W + (maxL + 11) + rm.locals ≤ R.locals)
    (hws : ∀ w ∈ ws, ∀ a' U, s.WarmedH U.vm → w.before a' U = true) (hcode : Cond.code y bytes maxL ret ∈ ws) (hinit : ∀ a' U, s.WarmedH U.vm → (Cond.initialized y.cls).before a' U = true)
    (X : Stand p l e R s m args below meth c U Ls c0 s0) {g : JFrame} {ig : Instr} {mk : MethodId} {a : Array Value} (hg : g.method = m) (hsize : g.locals.size = c.maxLocals) (hdg : decode c.code g.pc = .ok (ig, len))
    (hW : 2 * g.monitorRoom + (g.stack.map fun v => v.category).sum ≤ W) (hn : U.methodNamed? y = some mk) (hp : c0 + mc ≤ R.cells ∧ s0 + ms ≤ R.slots ∧ Pc a U) :
    ∃ (x : Addr) (t T' : State) (L : List Loc), Stand p l e R s m args below meth c T' (Ls ++ L) (c0 + mc) (s0 + ms) ∧ T'.heap = t.heap ∧ T'.vm = t.vm ∧ (∀ q ∈ L, free q.base) ∧ Qc a (U.calling g mk a) (.threw x) t ∧
      Steps p.tables e below (doInvoke e (U.setTop g) [] mk a).1 ((T'.setTop g).pushFrame (.throwing x)) := by
  have hc1 := hws _ hcode a _ X.warmed
  obtain ⟨methY, cY, hmY, hcY, -, hlY, -, -, -, -⟩ := Cond.code_spec hn hc1
  obtain ⟨kY, hkY, -⟩ := className_of_methodNamed hn
  have hinitY : kY.init = .initialized := Cond.initialized_spec (findClass_of_methodNamed hn) hkY (hinit a _ X.warmed)
  have h : At U g.method c below := by rw [hg]; exact X.here
  have happ : (headSpec ws rm).appliesLoose y e.platform (U.calling g mk a) = true :=
    Spec.appliesLoose_calling (g := g) h hdg hn hkY hinitY
      (X.room_calling (g := g) (R' := (headSpec ws rm).room) hsize hmY hcY hframes (by rw [hlY]; show _ + _ + rm.locals ≤ _; omega) (by show c0 + rm.cells ≤ _; rw [hrc]; exact hp.1) (by show s0 + rm.slots ≤ _; rw [hrs]; exact hp.2.1)) (atoms_intro fun w hw => hws w hw _ _ X.warmed)
  obtain ⟨mid, hmid⟩ := h.above
  have hfr : (U.setTop g).frames = (.java g :: mid) ++ below := by rw [State.frames_setTop' g h.top, hmid]; rfl
  obtain ⟨o, s₂, hsteps, -, hend, hq⟩ := Steps.callFree hM p X.admits X.cas X.clock (acts := []) hfr happ (hblind _ _ g mk hp.2.2) trivial
  obtain ⟨hq1, L, hfe, hL⟩ : Qc a (U.calling g mk a) o s₂ ∧ ∃ L, mg_FT (U.calling g mk a) o s₂ L mc ms ∧ ∀ q ∈ L, free q.base := hq
  rw [State.frames_setTop' g h.top] at hend
  obtain ⟨⟨v, rfl⟩, hW₂, e2, q2, q3, q4, q5, q6⟩ := hfe
  have e3 : s₂ = ({ (U.calling g mk a).setFrames s₂.frames with heap := s₂.heap, slotsUsed := s₂.slotsUsed } : State).setVm s₂.vm := by
    have : s₂ = ({ s₂ with vm := (U.calling g mk a).vm } : State).setVm s₂.vm := rfl
    rw [e2] at this
    exact this
  have hf₂ : s₂.frames = .throwing v :: .java g :: U.frames.tail := hend
  have hW' : U.WarmedH s₂.vm := hW₂
  obtain ⟨g₀, hg0⟩ := Option.isSome_iff_exists.mp h.top
  obtain ⟨r, hr⟩ := State.topJava?_eq_some.mp hg0
  have hs₂ : s₂ = ((({ U with heap := s₂.heap, slotsUsed := s₂.slotsUsed } : State).setVm s₂.vm).setTop g).pushFrame (.throwing v) := by
    have hr' : (({ U with heap := s₂.heap, slotsUsed := s₂.slotsUsed } : State).setVm s₂.vm).frames = .java g₀ :: r := hr
    refine e3.trans ?_
    rw [hf₂, State.calling_eq h.top, State.setFrames_setFrames, State.pushFrame, State.frames_setTop _ hr', State.setTop_of_frames _ hr', State.setFrames_setFrames, hr]
    rfl
  have hsame : U.sameButNew ({ U with heap := s₂.heap, slotsUsed := s₂.slotsUsed } : State) L mc ms := by
    refine ⟨?_, q2, q3, q4, q5, q6⟩
    obtain ⟨t, ht, -⟩ := State.frames_cons hr
    show ({ U with heap := s₂.heap, slotsUsed := s₂.slotsUsed } : State) = { U.setFrames U.frames with heap := s₂.heap, slotsUsed := s₂.slotsUsed }
    rw [State.setFrames_self ht]
  subst hg
  refine ⟨v, s₂, ({ U with heap := s₂.heap, slotsUsed := s₂.slotsUsed } : State).setVm s₂.vm, L,
    ⟨X.admits, X.cas, X.clock, X.frames, X.room, X.hears, X.method, X.code, (X.here.setHeapUsed s₂.heap s₂.slotsUsed).setVm hW'.alike, X.tail, State.WarmedH.trans X.warmed hW', X.limits, X.bytes, X.same.trans (hsame.setVm s.vm)⟩,
    rfl, rfl, hL, hq1, ?_⟩
  rw [← hs₂]
  exact hsteps
end MT1
section MT2
variable {p : Program} {l : Launch} {e : Env} {R : Room} {s : State} {m : MethodId} {args : Array Value} {below : List Frame} {meth : Method} {c : Code} {H : Heap} {locs : List Loc} {cells slots : Nat}
/-- a call that throws -/
def mg_RunT (p : Program) (l : Launch) (e : Env) (R : Room) (s : State) (m : MethodId) (args : Array Value) (below : List Frame) (meth : Method) (c : Code) (H : Heap) (locs : List Loc) (cells slots mc ms : Nat) (g : JFrame) (rest : List Value) (Qa : State → Outcome → State → Prop) (free : Addr → Prop) : Prop :=
  ∀ T : State, T.heap = H → Stand p l e R s m args below meth c T locs cells slots → ∃ (x : Addr) (st₀ t T' : State) (L : List Loc), st₀.heap = H ∧ Stand p l e R s m args below meth c T' (locs ++ L) (cells + mc) (slots + ms) ∧ (∀ q ∈ L, free q.base) ∧ T'.heap = t.heap ∧ T'.vm = t.vm ∧ Qa st₀ (.threw x) t ∧
    ∀ tg, Steps p.tables e below ((T'.setTop { g with stack := rest }).pushFrame (.throwing x)) tg → Steps p.tables e below (T.setTop g) tg
variable {y : MethodName} {bytes cc : ByteArray} {maxL nL mc ms n index : Nat} {ret : Option FieldType} {ws : List Cond} {rm : Room} {Pc : Array Value → State → Prop} {Qc : Array Value → State → Outcome → State → Prop} {free : Addr → Prop} {Ts : List Cond} {own C : String} {b : Addr} {As rest : List Value} {g : JFrame}
theorem mg_runST (S : CallFix p m c cc nL s args Ts own) (hM : mg_MT l y ws rm Pc Qc mc ms free) (cw : CallB R s args own index y bytes maxL ret ws rm mc ms n ∧ (Cond.static y).before args s = true) (hp : PreS s H Pc As)
    (hg : g.method = m) (hn : As.length = n) (hsize : g.locals.size = nL) (hstack : g.stack = As.reverse ++ rest) (hW : 2 * g.monitorRoom + (rest.map fun v => v.category).sum ≤ 8) (hdg : decode cc g.pc = .ok (.invokestatic index, 3)) (hf : cells + mc ≤ R.cells ∧ slots + ms ≤ R.slots) :
    mg_RunT p l e R s m args below meth c H locs cells slots mc ms g rest (Qc As.toArray) free := by
  obtain ⟨⟨hrc, hrs, hfr, hlo, hws, hcw, hcode, hini, hy, hlen, hl⟩, hstt⟩ := cw
  obtain ⟨hx, hb, hml, ho, -⟩ := S
  intro T hT X
  obtain ⟨mk, hnamed⟩ := Cond.code_named hcode
  obtain ⟨methM, cM, hmethM, -, -, -, -, -, -, hsigM⟩ := Cond.code_spec hnamed hcode
  have hstatic : methM.isStatic = true := Cond.static_spec hnamed hmethM hstt
  obtain ⟨kP, hkP, -⟩ := className_of_methodNamed hnamed
  have hinitP : kP.init = .initialized := Cond.initialized_spec (findClass_of_methodNamed hnamed) hkP hini
  have hdg' : decode c.code g.pc = .ok (.invokestatic index, 3) := by rw [hb]; exact hdg
  obtain ⟨vm₁, X₁, hstep₁⟩ := X.invokestatic hx ho hl hnamed hmethM hstatic hkP hinitP hy (g := g) hg (argsL := As) (rest := rest) (hn.trans (hlen _ hsigM)) hstack hdg'
  obtain ⟨x, t, T', L, X', e1, e2, hL, hq, hsteps⟩ := mg_backT (g := { g with stack := rest }) (mk := mk) (a := As.toArray) (W := 8) hM hp.1 hrc hrs hfr hlo hws hcw (fun a' U hW => word_at hW (Or.inl (by first | rfl | simp [Cond.onTables, Cond.keeps, Cond.steady])) hini) X₁ hg (hsize.trans hml.symm) hdg' hW (X₁.named hnamed) ⟨hf.1, hf.2, hp.2 (T.setVm vm₁) hT X₁.warmed⟩
  exact ⟨x, (T.setVm vm₁).calling { g with stack := rest } mk As.toArray, t, T', L, hT, X', hL, e1, e2, hq, fun tg h => hstep₁ _ fun acts => by rw [doInvoke_state]; exact hsteps.trans h⟩
theorem mg_runVT (S : CallFix p m c cc nL s args Ts own) (hM : mg_MT l y ws rm Pc Qc mc ms free) (cw : CallW R s args own C index y bytes maxL ret ws rm mc ms n) (hp : PreV s H C b Pc As)
    (hg : g.method = m) (hn : As.length = n) (hsize : g.locals.size = nL) (hstack : g.stack = As.reverse ++ .ref b :: rest) (hW : 2 * g.monitorRoom + (rest.map fun v => v.category).sum ≤ 8) (hdg : decode cc g.pc = .ok (.invokevirtual index, 3)) (hf : cells + mc ≤ R.cells ∧ slots + ms ≤ R.slots) :
    mg_RunT p l e R s m args below meth c H locs cells slots mc ms g rest (Qc (Value.ref b :: As).toArray) free := by
  obtain ⟨⟨hrc, hrs, hfr, hlo, hws, hcw, hcode, hini, hy, hlen, hl⟩, hinst, hsel⟩ := cw
  obtain ⟨hx, hb, hml, ho, -⟩ := S
  obtain ⟨hbl, ⟨cellB, hcB, hoB, hclB⟩, hPc⟩ := hp
  intro T hT X
  obtain ⟨mk, methM, hnamed, hmethM, hstM, habM⟩ := Cond.instanceMethod_spec hinst
  obtain ⟨methM', cM, hmethM', -, -, -, -, -, -, hsigM⟩ := Cond.code_spec hnamed hcode
  cases hmethM.symm.trans hmethM'
  obtain ⟨c2, r2, m2, q1, q2, q3, q4, kP, hkP, hkPi⟩ := Cond.selects_spec hsel
  cases hclB.symm.trans q1
  cases (State.methodFound?_of_named hnamed hy).symm.trans q2
  cases hnamed.symm.trans q3
  have hselP : selectMethod e.platform s.vm cellB.cls mk = .method mk := by rw [Launch.admits_selectMethod X.admits]; exact q4
  have hdg' : decode c.code g.pc = .ok (.invokevirtual index, 3) := by rw [hb]; exact hdg
  obtain ⟨vm₁, X₁, hstep₁⟩ := X.invokevirtual hx ho hl hnamed hmethM hstM hkP hkPi hy (a := b) (cell := cellB) (by rw [hT]; exact hcB)
    (fun z h => by rw [h] at hoB; cases hoB) hselP hmethM habM hkP hkPi (g := g) hg (argsL := As) (rest := rest) (hn.trans (hlen _ hsigM)) hstack hdg'
  obtain ⟨x, t, T', L, X', e1, e2, hL, hq, hsteps⟩ := mg_backT (g := { g with stack := rest }) (mk := mk) (a := (Value.ref b :: As).toArray) (W := 8) hM hbl hrc hrs hfr hlo hws hcw (fun a' U hW => word_at hW (Or.inl (by first | rfl | simp [Cond.onTables, Cond.keeps, Cond.steady])) hini) X₁ hg (hsize.trans hml.symm) hdg' hW (X₁.named hnamed) ⟨hf.1, hf.2, hPc (T.setVm vm₁) hT X₁.warmed⟩
  exact ⟨x, (T.setVm vm₁).calling { g with stack := rest } mk (Value.ref b :: As).toArray, t, T', L, hT, X', hL, e1, e2, hq, fun tg h => hstep₁ _ fun acts => by rw [doInvoke_state]; exact hsteps.trans h⟩
end MT2
/-- nothing of the world is told: the road of a throw -/
def mg_0 : mg_Ct := fun _ _ => none
def mg_fr (sz : Nat) : Nat → Prop := fun q => sz ≤ q
def mg_QT (sz : Nat) (Xn : String) : Array Value → State → Outcome → State → Prop := fun _ s0 oc t => (∃ (x : Addr) (cell : Cell), oc = .threw x ∧ t.heap[x]? = some cell ∧ t.vm.findClass Xn = some cell.cls ∧ cell.vm.isStatics = false) ∧ va_F (mg_fr sz) s0 t
/-- A CONTRACT of a method that throws an Xn, and changes nothing -/
def mg_T (l : Launch) (y : MethodName) (ws : List Cond) (rm : Room) (D : va_G) (cl : List vw_C) (Z : Nat × Cell) (B : List Cond) (tys : List (ClassId × FieldType)) (av : List Value) (ad : mg_Ad) (C : mg_Ct) (Xn : String) : Prop :=
  ∀ sz : Nat, mg_MT l y ws rm (mg_Pc D cl Z B tys av ad C sz) (mg_QT sz Xn) 1 6 (mg_fr sz)
def mg_MQT (below : List Frame) (Qc : Array Value → State → Outcome → State → Prop) (a : Array Value) (s : State) (mc ms : Nat) (free : Addr → Prop) : State → Prop := fun t =>
  ∃ o, t.status = .running ∧ Ended t below o ∧ Qc a s o t ∧ ∃ L, mg_FT s o t L mc ms ∧ ∀ q ∈ L, free q.base
theorem mg_W.zero {D : va_G} {cl : List vw_C} {Z : Nat × Cell} {A : Nat → Prop} {ad : mg_Ad} {H : Heap} (h : H[Z.1]? = some Z.2) : mg_W D cl Z A ad mg_0 H :=
  ⟨fun _ _ _ h => (by cases h), fun _ _ _ _ h => absurd rfl h, fun _ _ h => absurd rfl h, h, fun _ _ h => absurd rfl h⟩
theorem mg_A.zero {ad : mg_Ad} {sz : Nat} : ∀ q, mg_A ad mg_0 sz q → mg_fr sz q := fun q h => by
  rcases h with ⟨_, _, h, -⟩ | h
  · exact absurd rfl h
  · exact h
theorem mg_T.of {l : Launch} {y : MethodName} {ws ws' : List Cond} {rm : Room} {D : va_G} {cl : List vw_C} {Z : Nat × Cell} {B : List Cond} {tys : List (ClassId × FieldType)} {av : List Value} {ad : mg_Ad} {C : mg_Ct} {maxL : Nat} {cc : ByteArray} {ret : Option FieldType} {Xn : String}
    (hfl : l.flags = pinnedFlags ++ [noTraceFlag]) (hy : plainName y.cls = true) (hw : ws = Cond.code y cc maxL ret :: ws') (hcap : (lg_sl av).length ≤ maxL) (hcat : ∀ w ∈ av, w.category = 1)
    (body : ∀ (p : Program) (e : Env) (s : State) (m : MethodId) (args : Array Value) (below : List Frame) (meth : Method) (c : Code), mg_K p m c cc maxL s args B y.cls D cl Z tys → meth.locks = false → c.exceptionTable.isEmpty = true → e.platform.stackTraces = false → mg_W D cl Z (fun _ => True) ad C s.heap →
      mg_G p l e rm s m args below meth c D cl Z (mg_fr s.heap.size) s.heap maxL (mg_MQT below (mg_QT s.heap.size Xn) args s 1 6 (mg_fr s.heap.size)) ad mg_0 (av.map some) 0 0 [] 0) : mg_T l y ws rm D cl Z B tys av ad C Xn := by
  intro sz
  refine MetFree.of_bodyS (code := cc) (maxLocals := maxL) (ret := ret) hy ?_ ?_
  · intro args s m h hn
    obtain ⟨meth, c, h1, h2, h3, h4, h5, h6, -, -⟩ := Cond.code_spec hn (atoms_spec (ws := ws) h _ (by rw [hw]; exact List.mem_cons_self))
    exact ⟨meth, c, h1, h2, h3, h4, h5, h6⟩
  · intro p e s m args below meth c s₁ Bd hml hP _
    have hh0 : s₁.heap = s.heap := by rw [Bd.state]; rfl
    obtain ⟨rfl, hsz, hW, hK, hZk⟩ := hP
    subst hsz
    have hts : ∀ w ∈ B, w.before av.toArray s = true := fun w h => hZk s (State.WarmedH.refl s) hW.2.2.2.1 w h _
    have hown := findClass_of_methodNamed Bd.named
    have hno := Bd.noHandlers (atoms_spec (ws := ws) Bd.pre _ (by rw [hw]; exact List.mem_cons_self))
    have hl := lv_entry av (n := maxL) hcap
    have hb := body p e s m av.toArray below meth c ⟨⟨Bd.exec, Bd.bytes, hml, hown, hts⟩, hK, hZk⟩ Bd.notSynchronized hno (Launch.traces_off hfl Bd.admits) hW
    rw [lg_entry_eq]
    generalize (lg_sl av ++ List.replicate (maxL - (lg_sl av).length) Slot.unset).toArray = ls at hl ⊢
    obtain ⟨t, a1, o, b1, b2, b3⟩ := hb s.heap [] ls (mg_W.zero hW.2.2.2.1) va_S.rf (mg_L.entry hcat hl) s₁ hh0 (Stand.of_body Bd)
    exact ⟨t, o, a1, b1, b2, ⟨b3.1, b3.2⟩⟩
section MT3
variable {p : Program} {l : Launch} {e : Env} {R : Room} {s : State} {m : MethodId} {args : Array Value} {below : List Frame} {meth : Method} {c : Code} {Q : State → Prop}
variable {D : va_G} {cl : List vw_C} {Z : Nat × Cell} {tys : List (ClassId × FieldType)} {A : Nat → Prop} {H0 : Heap} {nL : Nat} {cc : ByteArray} {Ts : List Cond} {own : String}
variable {ad : mg_Ad} {C : mg_Ct} {L : List (Option Value)} {cells slots pc mc ms : Nat} {st rest st0 : List Value}
/-- new Xn(text) is made, and thrown -/
theorem mg_throw (K : mg_K p m c cc nL s args Ts own D cl Z tys) (hlocks : meth.locks = false) (hno : c.exceptionTable.isEmpty = true) (htr : e.platform.stackTraces = false) {i0 i1 i2 : Nat} {Xn tx : String} (names : List String)
    (h0 : decode cc pc = .ok (.new i0, 3)) (h3 : decode cc (pc + 3) = .ok (.dup, 1)) (h4 : decode cc (pc + 4) = .ok (.ldc i1, 2)) (h6 : decode cc (pc + 6) = .ok (.invokespecial i2, 3)) (h9 : decode cc (pc + 9) = .ok (.athrow, 1))
    (hcl : Cond.classLink own i0 Xn ∈ Ts) (hini : Cond.initialized Xn ∈ Ts) (hfit : Bundle.fit Xn = true) (hnames : ∀ n ∈ names, Bundle.fit n = true) (hw : ∀ a ∈ Bundle.ownAtoms own i2 Xn names, a ∈ Ts) (hstr : Cond.stringRef own i1 tx ∈ Ts)
    (hRf : names.length + 3 < R.frames) (hRl : 1 + (13 * (names.length + 1) + 42) ≤ R.locals) (hRc : 1 ≤ R.cells) (hRs : 6 ≤ R.slots) :
    mg_G p l e R s m args below meth c D cl Z (mg_fr s.heap.size) s.heap nL (mg_MQT below (mg_QT s.heap.size Xn) args s 1 6 (mg_fr s.heap.size)) ad mg_0 L 0 0 [] pc := by
  intro H locs ls hW hS hL
  have hts := K.1.2.2.2.2
  have hall : ∀ a ∈ Bundle.ownAtoms own i2 Xn names, a.before args s = true := fun a ha => hts a (hw a ha)
  have hinst := hall (.instantiable Xn 6) (by simp [Bundle.ownAtoms])
  refine W.newc K.1.1 K.1.2.1 K.1.2.2.2.1 (hts _ hcl) hinst (hts _ hini) rfl h0 (by omega) (by omega) fun cC kC hfC hkC hord hn6 => ?_
  refine lv_dup K.1.1 K.1.2.1 h3 rfl ?_
  obtain ⟨k1, cf1, i1', a1, hk1, hcf1, hcp1, hx1, hr1, hev1⟩ := Cond.stringRef_spec K.1.2.2.2.1 (hts _ hstr)
  intro T hT X
  obtain ⟨U, hst, hrun, hend, hWm, hsame, ce, hce, hown⟩ := X.ctorThrowS K.1.1 htr (own := own) (cls := Xn) (names := names) (ic := i2) K.1.2.2.2.1 hfit hnames hall
    (fun x hx cell hcell => absurd (Array.getElem?_eq_some_iff.mp hcell).1 (Nat.not_lt.mpr (hS.2.2 x hx))) (a := H.size) (cX := cC) (kX := kC) hfC hkC (by rw [hT, Array.getElem?_push_size]) hS.1
    (msg := .ref a1) rfl (g := F0 m (pc + 6) ls [.ref a1, .ref H.size, .ref H.size]) rfl (by rw [K.1.2.2.1]; exact hL.1) rfl rfl (rest := []) rfl (by rw [K.1.2.1]; exact h6) (by rw [K.1.2.1]; exact h9)
    (fun x hx => by have := Array.isEmpty_iff.mp hno; rw [this] at hx; simp at hx) hRf (by simpa [JFrame.monitorRoom, Value.category] using hRl) hlocks
  refine ⟨U, X.ldcString K.1.1 K.1.2.2.2.1 (hts _ hstr) hev1 rfl (by rw [K.1.2.1]; exact h4) _ hst, .threw H.size, hrun, hend, ⟨⟨H.size, ce, rfl, hce, ?_, by rw [hown.vm]; rfl⟩, ?_, ?_⟩, locs, ⟨⟨_, rfl⟩, hWm, hsame.mono (by omega) (by omega)⟩, hS.2.2⟩
  · rw [hWm.alike.findClass]; exact hown.cls
  · exact hsame.2.1
  · intro q hq _
    have hs0 := hsame.weaken (l' := []) (fun x hx hlt => absurd hlt (Nat.not_lt.mpr (hS.2.2 x hx))) (Nat.le_refl _) (Nat.le_refl _)
    rw [Array.getElem?_eq_getElem hq]
    exact State.sameButNew.old_cell hs0 (Array.getElem?_eq_getElem hq)
/-- a static callee throws, and so does this method -/
theorem mg_passS (K : mg_K p m c cc nL s args Ts own D cl Z tys) (hlocks : meth.locks = false) (hno : c.exceptionTable.isEmpty = true) {y : MethodName} {ws : List Cond} {rm : Room} {bytes : ByteArray} {maxL n index : Nat} {ret : Option FieldType} {As : List Value} {ad0 : mg_Ad} {Xn : String}
    (hM : mg_T l y ws rm D cl Z Ts tys As ad0 mg_0 Xn) (cw : CallB R s args own index y bytes maxL ret ws rm 1 6 n ∧ (Cond.static y).before args s = true) (hd : decode cc pc = .ok (.invokestatic index, 3)) (hst : st0 = As.reverse ++ rest) (hn : As.length = n) (hrm : (rest.map fun v => v.category).sum ≤ 8) (hf : 1 ≤ R.cells ∧ 6 ≤ R.slots) :
    mg_G p l e R s m args below meth c D cl Z (mg_fr s.heap.size) s.heap nL (mg_MQT below (mg_QT s.heap.size Xn) args s 1 6 (mg_fr s.heap.size)) ad mg_0 L 0 0 st0 pc := by
  intro H locs ls hW hS hL
  have hW0 : mg_W D cl Z (mg_fr s.heap.size) ad0 mg_0 H := mg_W.zero hW.2.2.2.1
  have hr := mg_runST (l := l) (e := e) (below := below) (meth := meth) (locs := locs) (cells := 0) (slots := 0) (g := F0 m pc ls st0) (As := As) (rest := rest) K.1 (hM H.size) cw ⟨mg_Pc.blind, mg_pre K hW0⟩ rfl hn hL.1 hst (lv_room hrm) hd (by omega)
  intro T hT X
  obtain ⟨x, st₀, t, T', Lc, h0, X', hLc, e1, e2, ⟨⟨x', cell, hx, hcell, hfc, hvm⟩, hz, hk⟩, sT⟩ := hr T hT X
  cases hx
  rw [h0] at hz hk
  obtain ⟨hwalk, hrun, hend, hWm, hsame⟩ := X'.leaveThrown x (g := F0 m pc ls rest) rfl rfl rfl (fun x hx => by have := Array.isEmpty_iff.mp hno; rw [this] at hx; simp at hx) hlocks
  refine ⟨_, sT _ hwalk, .threw x, hrun, hend, ⟨⟨x, cell, rfl, ?_, ?_, hvm⟩, ?_, ?_⟩, locs ++ Lc, ⟨⟨_, rfl⟩, hWm, hsame.mono (by omega) (by omega)⟩, ?_⟩
  · show T'.heap[x]? = _
    rw [e1]; exact hcell
  · show T'.vm.findClass Xn = _
    rw [e2]; exact hfc
  · show _ ≤ T'.heap.size
    rw [e1]; exact Nat.le_trans hS.1 hz
  · intro q h1 h2
    show T'.heap[q]? = _
    rw [e1, hk q (Nat.lt_of_lt_of_le h1 hS.1) (Nat.not_le.mpr (Nat.lt_of_lt_of_le h1 hS.1))]
    exact hS.2.1 q h1 h2
  · intro q hq
    rcases List.mem_append.mp hq with h | h
    · exact hS.2.2 q h
    · exact Nat.le_trans hS.1 (hLc q h)
/-- reading a cell of the method's entry on the road of a throw -/
theorem mg_old {B : Nat → Prop} {H : Heap} {locs : List Loc} {C0 : mg_Ct} (hW0 : mg_W D cl Z B ad C0 s.heap) (hS : va_S (mg_fr s.heap.size) s.heap H locs) {k i : Nat} {x : va_E} (he : C0 k i = some x) : va_P D cl [(ad k i, x)] H := fun j q hq => by
  cases j with
  | zero =>
    cases hq
    have hl := (hW0.1 k i _ he).lt
    exact (hW0.1 k i _ he).kept (hS.2.1 _ hl (Nat.not_le.mpr hl))
  | succ j => simp at hq
theorem mg_getO {B : Nat → Prop} {C0 : mg_Ct} (K : mg_K p m c cc nL s args Ts own D cl Z tys) (hW0 : mg_W D cl Z B ad C0 s.heap) {k i ci index f N : Nat} {fs : List Value} {v : Value} {Cn ref : String} {T : u_T} (hd : decode cc pc = .ok (.getfield index, 3)) (he : C0 k i = some (.inr (ci, fs))) (hc : cl[ci]? = some (Cn, T, N)) (hin : ∀ w ∈ u_ws Cn T N, w ∈ Ts) (hf : f < N) (hlink : Cond.fieldLink own index ref (T f).2.1 (T f).2.2.1 ∈ Ts) (hr : ref = (T f).1) (hv : fs[f]? = some v) (kk : mg_G p l e R s m args below meth c D cl Z (mg_fr s.heap.size) s.heap nL Q ad C L cells slots (v :: st) (pc + 3)) : mg_G p l e R s m args below meth c D cl Z (mg_fr s.heap.size) s.heap nL Q ad C L cells slots (va_rf (some (ad k i)) :: st) pc := by
  intro H locs ls hW hS hL
  subst hr
  exact va_get K.1.1 K.1.2.1 K.1.2.2.2.2 hin K.1.2.2.2.1 K.2.1 (mg_old hW0 hS he) 0 rfl hc f hf (K.1.2.2.2.2 _ hlink) (fun _ h => h) hv hd (kk H locs ls hW hS hL)
theorem mg_aaldO {B : Nat → Prop} {C0 : mg_Ct} (K : mg_K p m c cc nL s args Ts own D cl Z tys) (hW0 : mg_W D cl Z B ad C0 s.heap) {k i n : Nat} {cA : ClassId} {Cn : String} {f : Nat → Option Nat} {x : Int32} (t0 : Nat) (hd : decode cc pc = .ok (.aaload, 1)) (he : C0 k i = some (.inl (cA, n, .inr (.inr (.inr (.inr f)))))) (ht : tys[t0]? = some (cA, .object Cn)) (hin : vp_in x n) (kk : mg_G p l e R s m args below meth c D cl Z (mg_fr s.heap.size) s.heap nL Q ad C L cells slots (va_rf (f x.toNatClampNeg) :: st) (pc + 1)) : mg_G p l e R s m args below meth c D cl Z (mg_fr s.heap.size) s.heap nL Q ad C L cells slots (.int x :: va_rf (some (ad k i)) :: st) pc :=
  fun H locs ls hW hS hL => va_aldq K.1.1 K.1.2.1 K.2.1 (mg_old hW0 hS he) 0 t0 rfl ht hin hd (kk H locs ls hW hS hL)
end MT3
