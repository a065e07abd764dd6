/-! EXCEPTIONS over W: a method that throws (a new exception of a class, no stack traces), a call that throws and goes on out of the caller, a call that throws and is caught in the caller's own table (catch types cold or warm). -/
/-- it threw a new object of that class; nothing that was there has changed; one cell of six slots is new -/
def xt_E (cls : String) (st : State) (o : Outcome) (t : State) : Prop :=
  ∃ x : Addr, o = .threw x ∧ st.heap.size ≤ x ∧ (∃ ce : Cell, t.heap[x]? = some ce ∧ st.vm.findClass cls = some ce.cls ∧ ce.vm = .none) ∧ st.WarmedH t.vm ∧ st.sameButNew ({ t with vm := st.vm } : State) [] 1 6
def xt_Met (l : Launch) (y : MethodName) (ws : List Cond) (rm : Room) (Pc : Array Value → State → Prop) (cls : String) : Prop :=
  MetFree l y (headSpec ws rm) Pc (fun _ _ _ _ _ => True) (fun _ st o t => xt_E cls st o t)
def xt_Q (below : List Frame) (cls : String) (s : State) : State → Prop := fun t => ∃ o, t.status = .running ∧ Ended t below o ∧ xt_E cls s o t
section XT
variable {p : Program} {l : Launch} {e : Env} {R : Room} {s : State} {m : MethodId} {args : Array Value} {below : List Frame} {meth : Method} {c : Code}
theorem xt_ofW {y : MethodName} {ws ws' : List Cond} {rm : Room} {Pc : Array Value → State → Prop} {cls : String} {cc : ByteArray} {maxL : Nat} {ret : Option FieldType}
    (hy : plainName y.cls = true) (hw : ws = Cond.code y cc maxL ret :: ws')
    (body : ∀ p e s m args below meth c s₁, BodyLoose p l y (headSpec ws rm) cc maxL ret e s m args below meth c s₁ → c.maxLocals = maxL → Pc args s →
      W p l e (headSpec ws rm).room s m args below meth c s.heap [] 0 0 (xt_Q below cls s) (entryFrame m args maxL)) : xt_Met l y ws rm Pc cls := by
  refine MetFree.of_bodyS (code := cc) (maxLocals := maxL) (ret := ret) hy ?_ ?_
  · intro args s m h hn
    obtain ⟨meth, c, h1, h2, h3, h4, h5, h6, -, -⟩ := Cond.code_spec hn (atoms_spec (ws := ws) h _ (by rw [hw]; exact List.mem_cons_self))
    exact ⟨meth, c, h1, h2, h3, h4, h5, h6⟩
  · intro p e s m args below meth c s₁ B hml hP _
    have hh0 : s₁.heap = s.heap := by rw [B.state]; rfl
    obtain ⟨t, a1, o, b1, b2, b3⟩ := body p e s m args below meth c s₁ B hml hP s₁ hh0 (Stand.of_body B)
    exact ⟨t, o, a1, b1, b2, b3⟩
theorem xt_new {cc : ByteArray} (hx : p.tables.exec = Jvm.exec) (hb : c.code = cc) (hl : l.stackTraces = false) {own cls : String} {names : List String} {ic inew : Nat}
    (hown : s.vm.findClass own = some m.cls) (hcls : Bundle.fit cls = true) (hnames : ∀ n ∈ names, Bundle.fit n = true) (hlink : (Cond.classLink own inew cls).before args s = true) (hini : (Cond.initialized cls).before args s = true)
    (h : ∀ a ∈ Bundle.ownAtoms0 own ic cls names, a.before args s = true) {pc : Nat} {ls : Array Slot} (hml : c.maxLocals = ls.size) (hex : c.exceptionTable.isEmpty = true) (hlocks : meth.locks = false)
    (d0 : decode cc pc = .ok (.new inew, 3)) (d3 : decode cc (pc + 3) = .ok (.dup, 1)) (d4 : decode cc (pc + 3 + 1) = .ok (.invokespecial ic, 3)) (d7 : decode cc (pc + 3 + 1 + 3) = .ok (.athrow, 1))
    (hRf : names.length + 3 < R.frames) (hRl : 13 * (names.length + 1) + 42 ≤ R.locals) (hRc : 0 + 1 ≤ R.cells) (hRs : 0 + 6 ≤ R.slots) :
    W p l e R s m args below meth c s.heap [] 0 0 (xt_Q below cls s) (F0 m pc ls []) := by
  intro T hT X
  have htr : e.platform.stackTraces = false := by rw [X.admits.platform]; exact hl
  obtain ⟨vm₁, cX, kX, hfX, hkX, -, -, X₁, st1⟩ := X.newCold hx (C := cls) (n := 6) hown hlink (h (.instantiable cls 6) (by simp [Bundle.ownAtoms0])) hini (g := F0 m pc ls []) rfl (by rw [hb]; exact d0) hRc hRs
  generalize hT1 : (T.setVm vm₁).pushCell { cls := cX, slots := kX.instanceTypes.map defaultValue, vm := .none } = T1 at X₁ st1
  have hcellA : T1.heap[T.heap.size]? = some (freshCell cX kX) := by rw [← hT1]; exact State.heap_pushCell_size _ _
  obtain ⟨U, hsteps, hrun, hend, hW, hsame, ce, hce, K⟩ := X₁.ctorThrow0 hx htr (own := own) (cls := cls) (names := names) (ic := ic) hown hcls hnames h (fun y hy => by cases hy) hfX hkX hcellA (by rw [hT]; exact Nat.le_refl _)
    (g := F0 m (pc + 3 + 1) ls [.ref T.heap.size, .ref T.heap.size]) rfl hml.symm rfl rfl (rest := []) rfl (by rw [hb]; exact d4) (by rw [hb]; exact d7) (covers_of_empty hex _) hRf (by show 2 * 0 + (1 + 0) + _ ≤ _; omega) hlocks
  refine ⟨U, ?_, .threw T.heap.size, hrun, hend, T.heap.size, rfl, by rw [hT]; exact Nat.le_refl _, ⟨ce, hce, K.cls, K.vm⟩, hW, hsame⟩
  refine st1 _ ?_
  jvm_step X₁.here [X₁.here.top, hx, hb, d3, Value.category]
  exact hsteps
/-- the call of a method that throws, up to the note over the caller's frame -/
theorem xt_go {y : MethodName} {ws : List Cond} {rm : Room} {Pc : Array Value → State → Prop} {cls : String} {bytes : ByteArray} {maxL : Nat} {ret : Option FieldType} {T : State} {locs : List Loc} {cells slots : Nat}
    (hM : xt_Met l y ws rm Pc cls) (hbl : FrameBlind Pc) (hrc : rm.cells = 1) (hrs : rm.slots = 6) (hfr : rm.frames + 1 ≤ R.frames) (hlo : 8 + (maxL + 11) + rm.locals ≤ R.locals)
    (hws : ∀ w ∈ ws, ∀ (a' : Array Value) (U : State), s.WarmedH U.vm → w.before a' U = true) (hcw : Cond.code y bytes maxL ret ∈ ws) (hini : (Cond.initialized y.cls).before args s = true)
    (X : Stand p l e R s m args below meth c T locs cells slots) {g : JFrame} (hg : g.method = m) (hsize : g.locals.size = c.maxLocals) {ig : Instr} (hdg : decode c.code g.pc = .ok (ig, 3))
    (hW8 : 2 * g.monitorRoom + (g.stack.map fun v => v.category).sum ≤ 8) {mk : MethodId} (hn : T.methodNamed? y = some mk) {a : Array Value} (hP : Pc a T) (hc : cells + 1 ≤ R.cells) (hs : slots + 6 ≤ R.slots) :
    ∃ (x : Addr) (T' : State), Stand p l e R s m args below meth c T' locs (cells + 1) (slots + 6) ∧ T.heap.size ≤ T'.heap.size ∧ (∀ q : Nat, q < T.heap.size → T'.heap[q]? = T.heap[q]?) ∧ T.heap.size ≤ x ∧
      (∃ ce : Cell, T'.heap[x]? = some ce ∧ s.vm.findClass cls = some ce.cls ∧ ce.vm = .none) ∧ Steps p.tables e below (doInvoke e (T.setTop g) [] mk a).1 ((T'.setTop g).pushFrame (.throwing x)) := by
  have hcode := hws _ hcw a T X.warmed
  obtain ⟨methY, cY, hmY, hcY, -, hlY, -, -, -, -⟩ := Cond.code_spec hn hcode
  obtain ⟨kY, hkY, -⟩ := className_of_methodNamed hn
  have hini' : (Cond.initialized y.cls).before a T = true := word_at X.warmed (Or.inl (by first | rfl | simp [Cond.onTables, Cond.keeps, Cond.steady])) hini
  have hinitY : kY.init = .initialized := Cond.initialized_spec (findClass_of_methodNamed hn) hkY hini'
  have h : At T g.method c below := by rw [hg]; exact X.here
  have hpre : (headSpec ws rm).pre.before a T = true := atoms_intro fun w hw => hws w hw _ _ X.warmed
  have happ : (headSpec ws rm).appliesLoose y e.platform (T.calling g mk a) = true :=
    Spec.appliesLoose_calling (g := g) h hdg hn hkY hinitY (X.room_calling (g := g) (R' := (headSpec ws rm).room) hsize hmY hcY hfr (by rw [hlY]; show _ + _ + rm.locals ≤ _; omega) (by show _ + rm.cells ≤ _; omega) (by show _ + rm.slots ≤ _; omega)) hpre
  obtain ⟨mid, hmid⟩ := h.above
  have hfr2 : (T.setTop g).frames = (.java g :: mid) ++ below := by rw [State.frames_setTop' g h.top, hmid]; rfl
  obtain ⟨o, s₂, hsteps, -, hend, hq⟩ := Steps.callFree hM p X.admits X.cas X.clock (acts := []) hfr2 happ (hbl _ _ g mk hP) trivial
  obtain ⟨x, rfl, hx1, ⟨ce, hce, hcl, hvm⟩, hW₂, hsame⟩ := hq
  rw [State.frames_setTop' g h.top, X.tail] at hend
  obtain ⟨T', X', hW', hS', rfl⟩ := X.outOfThrown hg hend hW₂ hsame
  rw [List.append_nil] at X'
  refine ⟨x, T', X', hS'.2.1, fun q hq => ?_, hx1, ⟨ce, ?_, ?_, hvm⟩, hsteps⟩
  · have h1 : T.heap[q]? = some T.heap[q] := Array.getElem?_eq_getElem hq
    rw [h1]
    exact hS'.old_cell h1
  · rw [← hce]; exact (Stand.throwing_heap T' g x).symm ▸ rfl
  · rw [← X.warmed.alike.findClass]; exact hcl
/-- a call that throws: from the invoke at g0 to the note over the frame g with the arguments gone -/
def xt_Run (p : Program) (l : Launch) (e : Env) (R : Room) (s : State) (m : MethodId) (args : Array Value) (below : List Frame) (meth : Method) (c : Code) (H : Heap) (locs : List Loc) (cells slots : Nat) (g0 g : JFrame) (cls : String) : Prop :=
  ∀ T : State, T.heap = H → Stand p l e R s m args below meth c T locs cells slots → ∃ (x : Addr) (T' : State), Stand p l e R s m args below meth c T' locs (cells + 1) (slots + 6) ∧ H.size ≤ T'.heap.size ∧ (∀ q : Nat, q < H.size → T'.heap[q]? = H[q]?) ∧ H.size ≤ x ∧
    (∃ ce : Cell, T'.heap[x]? = some ce ∧ s.vm.findClass cls = some ce.cls ∧ ce.vm = .none) ∧ Steps p.tables e below (T.setTop g0) ((T'.setTop g).pushFrame (.throwing x))
variable {H : Heap} {locs : List Loc} {cells slots : Nat} {Q : State → Prop}
theorem xt_runV {y : MethodName} {bytes cc : ByteArray} {maxL nL n index : Nat} {ret : Option FieldType} {ws : List Cond} {rm : Room} {Pc : Array Value → State → Prop} {cls : String} {Ts : List Cond} {own C : String} {b : Addr} {As rest : List Value} {g : JFrame}
    (S : CallFix p m c cc nL s args Ts own) (hM : xt_Met l y ws rm Pc cls) (cw : CallW R s args own C index y bytes maxL ret ws rm 1 6 n) (hp : PreV s H C b Pc As)
    (hg : g.method = m) (hn : As.length = n) (hsize : g.locals.size = nL) (hstack : g.stack = As.reverse ++ .ref b :: rest) (hW : 2 * g.monitorRoom + (rest.map fun v => v.category).sum ≤ 8) (hdg : decode cc g.pc = .ok (.invokevirtual index, 3)) (hf : cells + 1 ≤ R.cells ∧ slots + 6 ≤ R.slots) :
    xt_Run p l e R s m args below meth c H locs cells slots g { g with stack := rest } cls := by
  obtain ⟨⟨hrc, hrs, hfr, hlo, hws, hcw, hcode, hini, hy, hlen, hl⟩, hin, hse⟩ := cw
  obtain ⟨hx, hb, hml, ho, -⟩ := S
  obtain ⟨hbl, ⟨cellB, hcB, hoB, hclB⟩, hPc⟩ := hp
  intro T hT X
  subst hT
  obtain ⟨mk, methM, hnamed, hmethM, hstM, habM⟩ := Cond.instanceMethod_spec hin
  obtain ⟨methM', cM, hmethM', -, -, -, -, -, -, hsigM⟩ := Cond.code_spec hnamed hcode
  cases hmethM.symm.trans hmethM'
  obtain ⟨c2, r2, m2, q1, q2, q3, q4, kP, hkP, hkPi⟩ := Cond.selects_spec hse
  cases hclB.symm.trans q1
  cases (State.methodFound?_of_named hnamed hy).symm.trans q2
  cases hnamed.symm.trans q3
  have hselP : selectMethod e.platform s.vm cellB.cls mk = .method mk := by rw [Launch.admits_selectMethod X.admits]; exact q4
  obtain ⟨vm₁, X₁, hstep₁⟩ := X.invokevirtual hx ho hl hnamed hmethM hstM hkP hkPi hy (a := b) (cell := cellB) hcB
    (fun z h => by rw [h] at hoB; cases hoB) hselP hmethM habM hkP hkPi (g := g) hg (argsL := As) (rest := rest) (hn.trans (hlen _ hsigM)) hstack (by rw [hb]; exact hdg)
  obtain ⟨x, T', X', z1, z2, z3, z4, hst⟩ := xt_go hM hbl hrc hrs hfr hlo hws hcw hini X₁ (g := { g with stack := rest }) hg (hsize.trans hml.symm) (by rw [hb]; exact hdg) hW (X₁.named hnamed) (hPc (T.setVm vm₁) rfl X₁.warmed) hf.1 hf.2
  exact ⟨x, T', X', z1, z2, z3, z4, hstep₁ _ fun acts => by rw [doInvoke_state]; exact hst⟩
theorem xt_runS {y : MethodName} {bytes cc : ByteArray} {maxL nL n index : Nat} {ret : Option FieldType} {ws : List Cond} {rm : Room} {Pc : Array Value → State → Prop} {cls : String} {Ts : List Cond} {own : String} {As rest : List Value} {g : JFrame}
    (S : CallFix p m c cc nL s args Ts own) (hM : xt_Met l y ws rm Pc cls) (cw : CallB R s args own index y bytes maxL ret ws rm 1 6 n ∧ (Cond.static y).before args s = true) (hp : PreS s H Pc As)
    (hg : g.method = m) (hn : As.length = n) (hsize : g.locals.size = nL) (hstack : g.stack = As.reverse ++ rest) (hW : 2 * g.monitorRoom + (rest.map fun v => v.category).sum ≤ 8) (hdg : decode cc g.pc = .ok (.invokestatic index, 3)) (hf : cells + 1 ≤ R.cells ∧ slots + 6 ≤ R.slots) :
    xt_Run p l e R s m args below meth c H locs cells slots g { g with stack := rest } cls := by
  obtain ⟨⟨hrc, hrs, hfr, hlo, hws, hcw, hcode, hini, hy, hlen, hl⟩, hstt⟩ := cw
  obtain ⟨hx, hb, hml, ho, -⟩ := S
  intro T hT X
  subst hT
  obtain ⟨mk, hnamed⟩ := Cond.code_named hcode
  obtain ⟨methM, cM, hmethM, -, -, -, -, -, -, hsigM⟩ := Cond.code_spec hnamed hcode
  have hstatic : methM.isStatic = true := Cond.static_spec hnamed hmethM hstt
  obtain ⟨kP, hkP, -⟩ := className_of_methodNamed hnamed
  have hinitP : kP.init = .initialized := Cond.initialized_spec (findClass_of_methodNamed hnamed) hkP hini
  obtain ⟨vm₁, X₁, hstep₁⟩ := X.invokestatic hx ho hl hnamed hmethM hstatic hkP hinitP hy (g := g) hg (argsL := As) (rest := rest) (hn.trans (hlen _ hsigM)) hstack (by rw [hb]; exact hdg)
  obtain ⟨x, T', X', z1, z2, z3, z4, hst⟩ := xt_go hM hp.1 hrc hrs hfr hlo hws hcw hini X₁ (g := { g with stack := rest }) hg (hsize.trans hml.symm) (by rw [hb]; exact hdg) hW (X₁.named hnamed) (hp.2 (T.setVm vm₁) rfl X₁.warmed) hf.1 hf.2
  exact ⟨x, T', X', z1, z2, z3, z4, hstep₁ _ fun acts => by rw [doInvoke_state]; exact hst⟩
/-- the caller has no handler: it throws the same -/
theorem xt_out {g0 : JFrame} {pc : Nat} {ls : Array Slot} {rest : List Value} {cls : String} (hr : xt_Run p l e R s m args below meth c s.heap [] 0 0 g0 (F0 m pc ls rest) cls) (hex : c.exceptionTable.isEmpty = true) (hlocks : meth.locks = false) :
    W p l e R s m args below meth c s.heap [] 0 0 (xt_Q below cls s) g0 := by
  intro T hT X
  obtain ⟨x, T', X', z1, z2, z3, z4, hst⟩ := hr T hT X
  obtain ⟨w1, w2, w3, w4, w5⟩ := X'.leaveThrown x (g := F0 m pc ls rest) rfl rfl rfl (covers_of_empty hex _) hlocks
  exact ⟨_, hst.trans w1, .threw x, w2, w3, x, rfl, z3, z4, w4, w5⟩
/-- the search at an entry that covers the place: its class is found, cold or warm -/
theorem xt_hit {Qh : Handler → Pre} {E : CtlPost} {d : Bool} {acts : List Action} {u : State} {f : JFrame} {a : Addr} {x : ExceptionTableEntry} {t : List ExceptionTableEntry} {cT : ClassId} {cell : Cell} (hx : covers x f.pc = true) (h0 : x.catchType ≠ 0)
    (hl : u.vm.ClassLinks e.platform f.method.cls x.catchType cT) (hcell : u.heap[a]? = some cell) (hobj : ∀ k, cell.vm ≠ .statics k) (hk : ∃ k, u.vm.classes[cell.cls]? = some k) (hc : ∃ k, u.vm.classes[cT]? = some k) :
    wp (findHandler.go f a (x :: t)) Qh E e d acts u ↔ if u.vm.assignable cell.cls cT = true then Qh (.found x.handlerPc) d acts (u.setVm (u.vm.noted f.method.cls x.catchType (.cls cT))) else wp (findHandler.go f a t) Qh E e d acts (u.setVm (u.vm.noted f.method.cls x.catchType (.cls cT))) := by
  simp only [covers] at hx
  obtain ⟨ha, ht⟩ := (resolveClass_links e.toSetting hl).op (op := VmOp.resolveClass f.method.cls x.catchType) rfl
  have hal : u.vm.Alike (u.vm.noted f.method.cls x.catchType (.cls cT)) := (Vm.Alike.refl u.vm).noted _ _ _
  obtain ⟨k1, hk1⟩ := hk
  obtain ⟨k2, hk2⟩ := hc
  obtain ⟨k1', hk1', -⟩ := hal.2.2 _ _ hk1
  obtain ⟨k2', hk2', -⟩ := hal.2.2 _ _ hk2
  by_cases hfit : u.vm.assignable cell.cls cT = true
  · have hfit' : (u.vm.noted f.method.cls x.catchType (.cls cT)).assignable cell.cls cT = true := by rw [hal.assignable]; exact hfit
    rw [if_pos hfit]
    simp [findHandler.go, hx, h0, ha, ht, hcell, hobj, hk1', hk2', hfit', VmOp.dirties, VmOp.acts]
  · have hfit' : (u.vm.noted f.method.cls x.catchType (.cls cT)).assignable cell.cls cT = false := by rw [hal.assignable]; exact Bool.not_eq_true _ ▸ hfit
    rw [if_neg hfit]
    simp [findHandler.go, hx, h0, ha, ht, hcell, hobj, hk1', hk2', hfit', VmOp.dirties, VmOp.acts]
theorem xt_step {T : State} {g : JFrame} {x : Addr} {pc : Nat} {vm' : Vm} {target : State} (h : At T g.method c below)
    (hfind : ∀ (Qh : Handler → Pre) (E : CtlPost) (d : Bool) (acts : List Action), wp (findHandler g x) Qh E e d acts ((T.setTop g).pushFrame (.throwing x)) ↔ Qh (.found pc) d acts (((T.setTop g).pushFrame (.throwing x)).setVm vm'))
    (hrest : Steps p.tables e below ((T.setVm vm').setTop { g with pc := pc, stack := [.ref x] }) target) : Steps p.tables e below ((T.setTop g).pushFrame (.throwing x)) target := by
  obtain ⟨hgo, hw⟩ := h.throwing x
  refine Steps.head hgo hw ?_
  have hst : ∀ r : List Frame, (stepThrowing e ((T.setTop g).pushFrame (.throwing x)) x (.java g :: r)).1 = (((T.setTop g).pushFrame (.throwing x)).setVm vm').setFrames (.java { g with pc := pc, stack := [.ref x] } :: r) := by
    intro r
    simp only [stepThrowing, searchFrame, vmDo]
    generalize hr : Sem.go _ e false [] ((T.setTop g).pushFrame (.throwing x)) = res
    obtain ⟨as, rfl, ha⟩ := Sem.eq_ok_of hr (a := Handler.found pc) (s' := ((T.setTop g).pushFrame (.throwing x)).setVm vm') (acts' := []) (by simp [hfind _ _ _ _])
    rfl
  rw [stepThread_throwing (frames_entered h.top _), hst]
  obtain ⟨g₀, hg⟩ := Option.isSome_iff_exists.mp h.top
  obtain ⟨r, hr⟩ := State.topJava?_eq_some.mp hg
  have hr' : (T.setVm vm').frames = .java g₀ :: r := hr
  rw [State.setTop_of_frames _ hr'] at hrest
  have e1 : (((T.setTop g).pushFrame (.throwing x)).setVm vm').setFrames (.java { g with pc := pc, stack := [.ref x] } :: T.frames.tail) = (T.setVm vm').setFrames (.java { g with pc := pc, stack := [.ref x] } :: r) := by
    rw [hr, List.tail_cons, State.setTop_of_frames _ hr]
    show (((T.setVm vm').setFrames _).setFrames _).setFrames _ = _
    rw [State.setFrames_setFrames, State.setFrames_setFrames]
  rw [e1]
  exact hrest
/-- the search over entries that cover the place: those ahead name classes that the object isn't of, then one that it is of -/
theorem xt_search {x : Addr} {g : JFrame} {own cls nz : String} {ce : Cell} {z : ExceptionTableEntry} {rest : List ExceptionTableEntry} (hpl : e.platform.magicAccessors = ({} : Platform).magicAccessors) (hown : s.vm.findClass own = some g.method.cls) (hcl : s.vm.findClass cls = some ce.cls) (hvm : ce.vm = .none)
    (hz : covers z g.pc = true) (hz0 : z.catchType ≠ 0) (hzl : (Cond.classLink own z.catchType nz).before args s = true) (hzc : (Cond.castable cls nz).before args s = true) :
    ∀ (ps : List ExceptionTableEntry), (∀ y ∈ ps, covers y g.pc = true ∧ y.catchType ≠ 0 ∧ ∃ nm : String, (Cond.classLink own y.catchType nm).before args s = true ∧ va_Nc cls nm s) → ∀ u : State, s.WarmedH u.vm → u.heap[x]? = some ce →
      ∃ vm' : Vm, s.WarmedH vm' ∧ ∀ (Qh : Handler → Pre) (E : CtlPost) (d : Bool) (acts : List Action), wp (findHandler.go g x (ps ++ z :: rest)) Qh E e d acts u ↔ Qh (.found z.handlerPc) d acts (u.setVm vm') := by
  have link : ∀ (y : ExceptionTableEntry) (nm : String), (Cond.classLink own y.catchType nm).before args s = true → ∀ u : State, s.WarmedH u.vm → ∃ cT : ClassId, s.vm.findClass nm = some cT ∧ u.vm.ClassLinks e.platform g.method.cls y.catchType cT ∧ (∃ k, u.vm.classes[cT]? = some k) ∧ s.WarmedH (u.vm.noted g.method.cls y.catchType (.cls cT)) := by
    intro y nm hy u hW
    obtain ⟨cT, hcT, hcl0⟩ := Cond.classLink_spec hown hy e.platform hpl
    obtain ⟨dk, _, _, kt, hd, _, _, _, _, hkt, _, hopen⟩ := hcl0.here
    obtain ⟨kt', hkt', -⟩ := hW.alike.2.2 _ _ hkt
    exact ⟨cT, hcT, hW.classLinks hcl0, ⟨kt', hkt'⟩, hW.noted hd hopen (State.rightAt_cls hcl0)⟩
  have here : ∀ u : State, s.WarmedH u.vm → ∃ k, u.vm.classes[ce.cls]? = some k := by
    intro u hW
    obtain ⟨c3, c4, hc3, hc4, hasg⟩ := Cond.castable_spec hzc
    cases hcl.symm.trans hc3
    obtain ⟨cT, hcT, -, hk, -⟩ := link z nz hzl u hW
    cases hcT.symm.trans hc4
    exact Vm.classAt_of_assignable (by rw [hW.alike.assignable]; exact hasg) hk
  intro ps
  induction ps with
  | nil =>
    intro _ u hW hce
    obtain ⟨cT, hcT, hl, hk, hW2⟩ := link z nz hzl u hW
    obtain ⟨c3, c4, hc3, hc4, hasg⟩ := Cond.castable_spec hzc
    cases hcl.symm.trans hc3
    cases hcT.symm.trans hc4
    refine ⟨_, hW2, fun Qh E d acts => ?_⟩
    rw [List.nil_append, xt_hit hz hz0 hl hce (by rw [hvm]; intro k h; cases h) (here u hW) hk, if_pos (by rw [hW.alike.assignable]; exact hasg)]
  | cons y ys ih =>
    intro hp u hW hce
    obtain ⟨hy, hy0, nm, hyl, c1, c2, hc1, hc2, hno⟩ := hp y List.mem_cons_self
    obtain ⟨cT, hcT, hl, hk, hW2⟩ := link y nm hyl u hW
    cases hcl.symm.trans hc1
    cases hcT.symm.trans hc2
    obtain ⟨vm', hW3, hf⟩ := ih (fun w hw => hp w (List.mem_cons_of_mem _ hw)) (u.setVm (u.vm.noted g.method.cls y.catchType (.cls c2))) hW2 hce
    refine ⟨vm', hW3, fun Qh E d acts => ?_⟩
    rw [List.cons_append, xt_hit hy hy0 hl hce (by rw [hvm]; intro k h; cases h) (here u hW) hk, if_neg (by rw [hW.alike.assignable, hno]; decide)]
    exact hf Qh E d acts
/-- the call throws, and the caller's own table has the handler: on at the handler, the reference alone on the stack -/
theorem xt_caught {g0 : JFrame} {pc hpc : Nat} {ls : Array Slot} {rest : List Value} {own cls nz : String} (hr : xt_Run p l e R s m args below meth c H locs cells slots g0 (F0 m pc ls rest) cls) (hown : s.vm.findClass own = some m.cls)
    (ps : List ExceptionTableEntry) (z : ExceptionTableEntry) (more : List ExceptionTableEntry) (hsplit : c.exceptionTable.toList = ps ++ z :: more) (hz : covers z pc = true) (hz0 : z.catchType ≠ 0) (hzl : (Cond.classLink own z.catchType nz).before args s = true) (hzc : (Cond.castable cls nz).before args s = true)
    (hps : ∀ y ∈ ps, covers y pc = true ∧ y.catchType ≠ 0 ∧ ∃ nm : String, (Cond.classLink own y.catchType nm).before args s = true ∧ va_Nc cls nm s) (hh : z.handlerPc = hpc)
    (kk : ∀ (x : Nat) (H1 : Heap), H.size ≤ H1.size → (∀ q : Nat, q < H.size → H1[q]? = H[q]?) → H.size ≤ x → W p l e R s m args below meth c H1 locs (cells + 1) (slots + 6) Q (F0 m hpc ls [.ref x])) : W p l e R s m args below meth c H locs cells slots Q g0 := by
  intro T hT X
  obtain ⟨x, T', X', z1, z2, z3, ⟨ce, hce, hcl, hvm⟩, hst⟩ := hr T hT X
  have hpl : e.platform.magicAccessors = ({} : Platform).magicAccessors := by rw [X.admits.platform]
  obtain ⟨vm', hW, hf⟩ := xt_search (e := e) (g := F0 m pc ls rest) (x := x) (rest := more) hpl hown hcl hvm hz hz0 hzl hzc ps hps ((T'.setTop (F0 m pc ls rest)).pushFrame (.throwing x)) (by rw [Stand.throwing_vm]; exact X'.warmed) (by rw [Stand.throwing_heap]; exact hce)
  obtain ⟨t, a1, b1⟩ := kk x T'.heap z1 z2 z3 (T'.setVm vm') rfl (X'.noted hW)
  refine ⟨t, hst.trans (xt_step (c := c) X'.here (pc := z.handlerPc) (vm' := vm') (fun Qh E d acts => ?_) (by rw [hh]; exact a1)), b1⟩
  rw [W.findHandler_eq (meth := meth) (code := c) (by rw [Stand.throwing_vm]; exact X'.method') X'.code, hsplit]
  exact hf Qh E d acts
end XT
