/-! AN EXCEPTION THAT LEAVES A METHOD WHICH HAS WRITTEN NOTHING, AND ITS CATCHING IN THE CALLER (a launch without stack traces; by the library's walks: ctorThrowS, newCold, callFree) -/
/-- what such a call leaves: q, a new object of the class E; every cell that was there is as it was -/
def exQ (E : String) : Array Value → State → Outcome → State → Prop := fun _ st o t =>
  ∃ (q : Addr) (ce : Cell), o = .threw q ∧ t.heap[q]? = some ce ∧ ce.vm = .none ∧ st.vm.findClass E = some ce.cls ∧ st.heap.size ≤ q ∧ (∀ i : Nat, i < st.heap.size → t.heap[i]? = st.heap[i]?) ∧ st.WarmedH t.vm ∧ st.sameButNew ({ t with vm := st.vm } : State) [] 1 6
def exMet (l : Launch) (y : MethodName) (ws : List Cond) (rm : Room) (Pc : Array Value → State → Prop) (E : String) : Prop := MetFree l y (headSpec ws rm) Pc (fun _ _ _ _ _ => True) (exQ E)
def exMQ (below : List Frame) (E : String) (a : Array Value) (s : State) : State → Prop := fun t => ∃ o, t.status = .running ∧ Ended t below o ∧ exQ E a s o t
theorem tab_nil {c : Code} (h : c.exceptionTable.isEmpty = true) : c.exceptionTable.toList = [] := by
  have h0 : c.exceptionTable.size = 0 := by simpa [Array.isEmpty] using h
  exact List.eq_nil_of_length_eq_zero (by simpa using h0)
theorem exMet.ofW {l : Launch} {y : MethodName} {ws ws' : List Cond} {rm : Room} {Pc : Array Value → State → Prop} {E : String} {cc : ByteArray} {maxL : Nat} {ret : Option FieldType} (hy : plainName y.cls = true) (hw : ws = Cond.code y cc maxL ret :: ws')
    (body : ∀ p e s m args below meth c s₁, BodyLoose p l y (headSpec ws rm) cc maxL ret e s m args below meth c s₁ → c.maxLocals = maxL → c.exceptionTable.toList = [] → Pc args s →
      W p l e (headSpec ws rm).room s m args below meth c s.heap [] 0 0 (exMQ below E args s) (entryFrame m args maxL)) : exMet l y ws rm Pc E := by
  refine MetFree.of_bodyS (code := cc) (maxLocals := maxL) (ret := ret) hy ?_ ?_
  · intro args s m h hn
    obtain ⟨meth, c, h1, h2, h3, h4, h5, h6, -, -⟩ := Cond.code_spec hn (atoms_spec (ws := ws) h _ (by rw [hw]; exact List.mem_cons_self))
    exact ⟨meth, c, h1, h2, h3, h4, h5, h6⟩
  · intro p e s m args below meth c s₁ B hml hP _
    have hh0 : s₁.heap = s.heap := by rw [B.state]; rfl
    have X₀ := Stand.of_body B
    have htab : c.exceptionTable.toList = [] := by
      obtain ⟨meth', c', h1, h2, -, -, -, -, h7, -⟩ := Cond.code_spec B.named (atoms_spec (ws := ws) B.pre _ (by rw [hw]; exact List.mem_cons_self))
      have e1 : meth' = meth := Option.some.inj (h1.symm.trans B.method)
      subst e1
      have e2 : c' = c := Option.some.inj (h2.symm.trans X₀.code)
      subst e2
      exact tab_nil h7
    obtain ⟨t, a1, o, b1, b2, b3⟩ := body p e s m args below meth c s₁ B hml htab hP s₁ hh0 X₀
    exact ⟨t, o, a1, b1, b2, b3⟩
theorem same_keep {s U : State} {k n : Nat} (h : s.sameButNew ({ U with vm := s.vm } : State) [] k n) (i : Nat) (hi : i < s.heap.size) : U.heap[i]? = s.heap[i]? := by
  obtain ⟨c9, e1, e2, -, e4⟩ := h.2.2.2.2.2 i _ (Array.getElem?_eq_getElem hi)
  have e5 : c9.slots = (s.heap[i]).slots := Array.ext_getElem? fun j => e4 j List.not_mem_nil
  rw [e5] at e2
  rw [show U.heap[i]? = some c9 from e1, e2, Array.getElem?_eq_getElem hi]
section EXT
variable {p : Program} {l : Launch} {e : Env} {R : Room} {s : State} {m : MethodId} {args : Array Value} {below : List Frame} {meth : Method} {c : Code} {H : Heap} {locs : List Loc} {cells slots : Nat} {Q : State → Prop} {ls : Array Slot} {rest : List Value}
/-- new; dup; ldc; invokespecial; athrow: the end of a method that throws -/
theorem ex_throw {cc : ByteArray} {pc : Nat} (hexec : p.tables.exec = Jvm.exec) (hb : c.code = cc) (hl9 : l.stackTraces = false) {own cls text : String} {names : List String} {ik is ic sa : Nat}
    (hown : s.vm.findClass own = some m.cls) (hcls : Bundle.fit cls = true) (hnames : ∀ n ∈ names, Bundle.fit n = true)
    (hk : (Cond.classLink own ik cls).before args s = true) (hini : (Cond.initialized cls).before args s = true) (hs1 : (Cond.stringRef own is text).before args s = true) (hs2 : (Term.string own is).eval args s none [] s = some (.ref sa))
    (h : ∀ w ∈ Bundle.ownAtoms own ic cls names, w.before args s = true) (hS : va_S nF s.heap s.heap locs) (hsize : ls.size = c.maxLocals)
    (d0 : decode cc pc = .ok (.new ik, 3)) (d3 : decode cc (pc + 3) = .ok (.dup, 1)) (d4 : decode cc (pc + 4) = .ok (.ldc is, 2)) (d6 : decode cc (pc + 6) = .ok (.invokespecial ic, 3)) (d9 : decode cc (pc + 9) = .ok (.athrow, 1))
    (htab : c.exceptionTable.toList = []) (hRf : names.length + 3 < R.frames) (hRl : (rest.map fun v => v.category).sum + (13 * (names.length + 1) + 43) ≤ R.locals) (hRc : 1 ≤ R.cells) (hRs : 6 ≤ R.slots) (hlocks : meth.locks = false) :
    W p l e R s m args below meth c s.heap locs 0 0 (exMQ below cls args s) (F0 m pc ls rest) := by
  intro T hT X
  have hloc : locs = [] := by
    cases locs with
    | nil => rfl
    | cons z y => exact (hS.2.2 z List.mem_cons_self).elim
  subst hloc
  subst hb
  have htr : e.platform.stackTraces = false := (show e.platform.stackTraces = l.stackTraces by rw [X.admits.platform]).trans hl9
  have hins : (Cond.instantiable cls 6).before args s = true := h _ (by simp [Bundle.ownAtoms])
  obtain ⟨vm₁, cX, kX, hfX, hkX, -, -, X₁, st1⟩ := X.newCold hexec hown hk hins hini (g := F0 m pc ls rest) rfl d0 (by omega) (by omega)
  have hTs : T.heap.size = s.heap.size := by rw [hT]
  have hcell : ((T.setVm vm₁).pushCell { cls := cX, slots := kX.instanceTypes.map defaultValue, vm := .none }).heap[T.heap.size]? = some (freshCell cX kX) := State.heap_pushCell_size _ _
  generalize (T.setVm vm₁).pushCell { cls := cX, slots := kX.instanceTypes.map defaultValue, vm := .none } = T1 at X₁ st1 hcell
  have hcat : (Value.ref T.heap.size).category = 1 := rfl
  obtain ⟨U, hsteps, hrun, hend, hW, hsame, ce, hce, hO⟩ := X₁.ctorThrowS hexec htr hown hcls hnames h (fun x hx => absurd hx List.not_mem_nil) hfX hkX hcell (Nat.le_of_eq hTs.symm) (msg := .ref sa) rfl
    (g := { method := m, pc := pc + 6, locals := ls, stack := .ref sa :: .ref T.heap.size :: .ref T.heap.size :: rest, locked := none }) rfl hsize rfl rfl (rest := rest) rfl
    d6 d9 (fun x hx => by rw [htab] at hx; exact absurd hx List.not_mem_nil) hRf (by simp only [List.map_cons, List.sum_cons, hcat]; omega) hlocks
  refine ⟨U, st1 _ ?_, .threw T.heap.size, hrun, hend, T.heap.size, ce, rfl, hce, hO.vm, hO.cls, Nat.le_of_eq hTs.symm, same_keep hsame, hW, hsame.mono (by omega) (by omega)⟩
  show Steps p.tables e below (T1.setTop { method := m, pc := pc + 3, locals := ls, stack := .ref T.heap.size :: rest, locked := none }) _
  jvm_step X₁.here [X₁.here.top, hexec, d3, Value.category]
  exact X₁.ldcString hexec hown hs1 hs2 (g := { method := m, pc := pc + 4, locals := ls, stack := .ref T.heap.size :: .ref T.heap.size :: rest, locked := none }) rfl d4 _ hsteps
/-- the call: from the caller's frame to the note that q is thrown, over that frame -/
theorem ex_call {y : MethodName} {ws : List Cond} {rm : Room} {Pc : Array Value → State → Prop} {E : String} {bytes : ByteArray} {maxL : Nat} {ret : Option FieldType} {U : State} {Ls : List Loc} {c0 s0 len : Nat} {g : JFrame} {ig : Instr} {mk : MethodId} {a : Array Value}
    (hM : exMet l y ws rm Pc E) (X : Stand p l e R s m args below meth c U Ls c0 s0) (hg : g.method = m) (hsize : g.locals.size = c.maxLocals) (hdg : decode c.code g.pc = .ok (ig, len)) (hW8 : 2 * g.monitorRoom + (g.stack.map fun v => v.category).sum ≤ 8)
    (hn : U.methodNamed? y = some mk) (h1 : (headSpec ws rm).pre.before a U = true) (h2 : (Cond.code y bytes maxL ret).before a U = true) (h3 : (Cond.initialized y.cls).before a U = true)
    (hrc : rm.cells = 1) (hrs : rm.slots = 6) (hfr : rm.frames + 1 ≤ R.frames) (hlo : 8 + (maxL + 11) + rm.locals ≤ R.locals) (hc0 : c0 + 1 ≤ R.cells) (hs0 : s0 + 6 ≤ R.slots) (hP : Pc a (U.calling g mk a)) :
    ∃ (q : Addr) (ce : Cell) (V : State), Stand p l e R s m args below meth c V Ls (c0 + 1) (s0 + 6) ∧ V.heap[q]? = some ce ∧ ce.vm = .none ∧ U.vm.findClass E = some ce.cls ∧ U.heap.size ≤ q ∧ (∀ i : Nat, i < U.heap.size → V.heap[i]? = U.heap[i]?) ∧
      Steps p.tables e below (doInvoke e (U.setTop g) [] mk a).1 ((V.setTop g).pushFrame (.throwing q)) := by
  obtain ⟨mY, cY, hmY, hcY, -, hlY, -⟩ := Cond.code_spec hn h2
  obtain ⟨kY, hkY, -⟩ := className_of_methodNamed hn
  subst hg
  have hAt := X.here
  have hroom := X.room_calling (g := g) (args' := a) (R' := (headSpec ws rm).room) hsize hmY hcY hfr (by rw [hlY]; show _ + _ + rm.locals ≤ _; omega) (by show c0 + rm.cells ≤ _; omega) (by show s0 + rm.slots ≤ _; omega)
  have happ := Spec.appliesLoose_calling (x := y) (S := headSpec ws rm) (g := g) (args := a) hAt hdg hn hkY (Cond.initialized_spec (findClass_of_methodNamed hn) hkY h3) hroom h1
  obtain ⟨mid, hmid⟩ := hAt.above
  have hfrm : (U.setTop g).frames = (.java g :: mid) ++ below := by rw [State.frames_setTop' g hAt.top, hmid]; rfl
  obtain ⟨o, t, hst, -, hend, q, ce, rfl, hce, hcv, hcl, hq, hkeep, hWt, hsm⟩ := Steps.callFree hM p X.admits X.cas X.clock (acts := []) hfrm happ hP trivial
  rw [State.frames_setTop' g hAt.top] at hend
  have hft : t.frames = .throwing q :: .java g :: U.frames.tail := hend
  obtain ⟨g₀, hg0⟩ := Option.isSome_iff_exists.mp hAt.top
  obtain ⟨r, hr⟩ := State.topJava?_eq_some.mp hg0
  have hWU : U.WarmedH t.vm := hWt
  obtain ⟨V, hV⟩ : ∃ V : State, V = ({ U with heap := t.heap, slotsUsed := t.slotsUsed } : State).setVm t.vm := ⟨_, rfl⟩
  have hVr : V.frames = .java g₀ :: r := by rw [hV]; exact hr
  have hsame : U.sameButNew ({ U with heap := t.heap, slotsUsed := t.slotsUsed } : State) [] 1 6 := by
    obtain ⟨-, b2, b3, b4, b5, b6⟩ := hsm
    refine ⟨?_, b2, b3, b4, b5, b6⟩
    obtain ⟨th, hth, -⟩ := State.frames_cons hr
    show ({ U with heap := t.heap, slotsUsed := t.slotsUsed } : State) = { U.setFrames U.frames with heap := t.heap, slotsUsed := t.slotsUsed }
    rw [State.setFrames_self hth]
  have htV : t = (V.setTop g).pushFrame (.throwing q) := by
    have b1 : ({ t with vm := (U.calling g mk a).vm } : State) = { (U.calling g mk a).setFrames t.frames with heap := t.heap, slotsUsed := t.slotsUsed } := hsm.1
    have b0 : t = ({ t with vm := (U.calling g mk a).vm } : State).setVm t.vm := rfl
    rw [b1] at b0
    refine b0.trans ?_
    show ({ (U.calling g mk a).setFrames t.frames with heap := t.heap, slotsUsed := t.slotsUsed } : State).setVm t.vm = _
    rw [hft, State.calling_eq hAt.top, State.setFrames_setFrames, State.pushFrame, State.frames_setTop _ hVr, State.setTop_of_frames _ hVr, State.setFrames_setFrames, hV, hr]
    rfl
  have XV : Stand p l e R s g.method args below meth c V (Ls ++ []) (c0 + 1) (s0 + 6) := by
    rw [hV]
    exact ⟨X.admits, X.cas, X.clock, X.frames, X.room, X.hears, X.method, X.code, (hAt.setHeapUsed t.heap t.slotsUsed).setVm hWU.alike, X.tail, State.WarmedH.trans X.warmed hWU, X.limits, X.bytes, X.same.trans (hsame.setVm s.vm)⟩
  rw [List.append_nil] at XV
  have hVh : V.heap = t.heap := by rw [hV]; rfl
  refine ⟨q, ce, V, XV, by rw [hVh]; exact hce, hcv, hcl, hq, fun i hi => by rw [hVh]; exact hkeep i hi, ?_⟩
  rw [← htV]
  exact hst
/-- caught by the one row of this method's table; its class may be linked only now -/
theorem ex_catch {own name : String} {g : JFrame} {T : State} {q : Addr} {ce : Cell} {x : ExceptionTableEntry} (X : Stand p l e R s m args below meth c T locs cells slots) (hg : g.method = m) (hown : s.vm.findClass own = some m.cls) (htab : c.exceptionTable.toList = [x])
    (hx : covers x g.pc = true) (h0 : x.catchType ≠ 0) (hlink : (Cond.classLink own x.catchType name).before args s = true) (hcell : T.heap[q]? = some ce) (hv : ce.vm = .none) (hcl : s.vm.findClass name = some ce.cls) (hfit : s.vm.assignable ce.cls ce.cls = true) :
    ∃ vm', Stand p l e R s m args below meth c (T.setVm vm') locs cells slots ∧ ∀ target, Steps p.tables e below ((T.setVm vm').setTop { g with pc := x.handlerPc, stack := [.ref q] }) target → Steps p.tables e below ((T.setTop g).pushFrame (.throwing q)) target := by
  subst hg
  have hpl : e.platform.magicAccessors = ({} : Platform).magicAccessors := by rw [X.admits.platform]
  obtain ⟨cT, hcT, hln⟩ := Cond.classLink_spec hown hlink e.platform hpl
  cases Option.some.inj (hcT.symm.trans hcl)
  obtain ⟨dk, -, -, kt, hd, -, -, -, -, hkt, -, hop⟩ := hln.here
  have hW' : s.WarmedH (T.vm.noted g.method.cls x.catchType (.cls ce.cls)) := X.warmed.noted hd hop (State.rightAt_cls hln)
  have hal : T.vm.Alike (T.vm.noted g.method.cls x.catchType (.cls ce.cls)) := (Vm.Alike.refl T.vm).noted _ _ _
  obtain ⟨kt1, hkt1, -⟩ := X.warmed.alike.2.2 _ _ hkt
  obtain ⟨kt2, hkt2, -⟩ := hal.2.2 _ _ hkt1
  have hfit2 : (T.vm.noted g.method.cls x.catchType (.cls ce.cls)).assignable ce.cls ce.cls = true := by rw [hal.assignable, X.warmed.alike.assignable]; exact hfit
  have hlT : T.vm.ClassLinks e.platform g.method.cls x.catchType ce.cls := X.warmed.classLinks hln
  obtain ⟨S, hSe⟩ : ∃ S : State, S = (T.setTop g).pushFrame (.throwing q) := ⟨_, rfl⟩
  have hSvm : S.vm = T.vm := by rw [hSe]; exact Stand.throwing_vm T g q
  have hShp : S.heap = T.heap := by rw [hSe]; exact Stand.throwing_heap T g q
  have hfind : ∀ (Q9 : Handler → Pre) (E9 : CtlPost) (d : Bool) (acts : List Action), wp (findHandler g q) Q9 E9 e d acts S ↔ Q9 (.found x.handlerPc) d acts (S.setVm (T.vm.noted g.method.cls x.catchType (.cls ce.cls))) := by
    intro Q9 E9 d acts
    have hm9 : S.vm.method? g.method = some meth := by rw [hSvm]; exact X.method'
    rw [W.findHandler_eq hm9 X.code, htab]
    obtain ⟨ha, ht⟩ := (resolveClass_links e.toSetting hlT).op (op := VmOp.resolveClass g.method.cls x.catchType) rfl
    have hobj : ∀ k, ce.vm ≠ .statics k := fun k h9 => by rw [hv] at h9; cases h9
    simp only [covers] at hx
    simp [findHandler.go, hx, h0, hSvm, ha, ht, hShp, hcell, hobj, hkt2, hfit2, VmOp.dirties, VmOp.acts]
  refine ⟨_, X.noted hW', fun target hrest => ?_⟩
  have hAt := X.here
  obtain ⟨hgo, hw⟩ := hAt.throwing q
  refine Steps.head hgo hw ?_
  obtain ⟨g₀, hg0⟩ := Option.isSome_iff_exists.mp hAt.top
  obtain ⟨r, hr⟩ := State.topJava?_eq_some.mp hg0
  have hr' : (T.setVm (T.vm.noted g.method.cls x.catchType (.cls ce.cls))).frames = .java g₀ :: r := hr
  have key : (stepThrowing e S q (.java g :: T.frames.tail)).1 = (S.setVm (T.vm.noted g.method.cls x.catchType (.cls ce.cls))).setFrames (.java { g with pc := x.handlerPc, stack := [.ref q] } :: T.frames.tail) := by
    simp only [stepThrowing, searchFrame, vmDo]
    generalize hres : Sem.go _ e false [] S = res
    obtain ⟨as, rfl, -⟩ := Sem.eq_ok_of hres (a := Handler.found x.handlerPc) (s' := S.setVm (T.vm.noted g.method.cls x.catchType (.cls ce.cls))) (acts' := []) (by simp [hfind _ _ _ _])
    rfl
  rw [stepThread_throwing (frames_entered hAt.top _), ← hSe, key]
  rw [State.setTop_of_frames _ hr'] at hrest
  have e9 : ∀ (u : State) (vm9 : Vm) (F G : List Frame), ((u.setFrames F).setVm vm9).setFrames G = (u.setVm vm9).setFrames G := fun u vm9 F G => by
    rw [show (u.setFrames F).setVm vm9 = (u.setVm vm9).setFrames F from rfl, State.setFrames_setFrames]
  rw [hSe, hr, List.tail_cons, State.pushFrame, e9, State.setTop_of_frames _ hr, e9]
  exact hrest
end EXT
/-- the words on the heap's statics, where the tables are warmer and the old cells are as they were -/
theorem hw_ref {C n d : String} {a a' : Array Value} {s U : State} (hal : s.vm.Alike U.vm) (hh : ∀ q : Nat, q < s.heap.size → U.heap[q]? = s.heap[q]?) (hl : (Cond.laysStatic C n d).before a s = true) (hi : (Cond.initialized C).before a s = true) (h : (Cond.isRef (.static C n d)).before a s = true) : (Cond.isRef (.static C n d)).before a' U = true := by
  have h1 := va_Zqof (A := fun q : Nat => s.heap.size ≤ q) hl hi h (fun q hq => Nat.not_le.mpr hq)
  have h2 : va_Zq C n d (fun q : Nat => s.heap.size ≤ q) U U.heap := va_Zq.moved hal (va_Zq.kept h1 (fun q hq _ => hh q hq))
  have key : ∀ v : Value, va_Z C n d v (fun q : Nat => s.heap.size ≤ q) U U.heap → (Term.static C n d).eval a' U none [] U = some v := by
    rintro v ⟨cf, kf, fi, f, b, cell, q1, q2, -, q4, q5, q6, q7, -⟩
    simp [Term.eval, State.fieldNamed?, q1, q2, q4, q5, q6, q7]
  rcases h2 with h2 | ⟨t, h2⟩
  · simp [Cond.before, Cond.holds, Cond.value, key _ h2]
  · simp [Cond.before, Cond.holds, Cond.value, key _ h2]
theorem hw_lays {C n d : String} {a a' : Array Value} {s U : State} (hal : s.vm.Alike U.vm) (hh : ∀ q : Nat, q < s.heap.size → U.heap[q]? = s.heap[q]?) (h : (Cond.laysStatic C n d).before a s = true) : (Cond.laysStatic C n d).before a' U = true := by
  simp only [Cond.before, Cond.holds, Cond.value] at h ⊢
  cases h1 : s.vm.findClass C with
  | none => simp [h1] at h
  | some k0 =>
    cases h2 : s.fieldFound? C n d with
    | none => simp [h1, h2] at h
    | some z =>
      obtain ⟨k1, k, i, f⟩ := z
      cases h3 : k.statics with
      | none => simp [h1, h2, h3] at h
      | some b =>
        cases h4 : s.heap[b]? with
        | none => simp [h1, h2, h3, h4] at h
        | some cell =>
          obtain ⟨k', hi', he⟩ := State.fieldFound?_setVm hal h2
          have hi2 : U.fieldFound? C n d = some (k1, k', i, f) := hi'
          have h5 : U.heap[b]? = some cell := by rw [hh b (Array.getElem?_eq_some_iff.mp h4).1]; exact h4
          have h6 : U.vm.findClass C = some k0 := by rw [hal.findClass]; exact h1
          have h7 : k'.statics = some b := by rw [he]; exact h3
          have h8 : k'.staticTypes = k.staticTypes := by rw [he]
          simp only [h1, h2, h3, h4, Option.bind_some, Option.map_some] at h
          simp only [h6, hi2, h7, h5, h8, Option.bind_some, Option.map_some]
          exact h
