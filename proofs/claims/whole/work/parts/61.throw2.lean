/-! THE CALLS BY NAME: a virtual call that throws and is caught here; a static method that has a table of its own -/
section EXR
variable {p : Program} {l : Launch} {e : Env} {R : Room} {s : State} {m : MethodId} {args : Array Value} {below : List Frame} {meth : Method} {c : Code} {H : Heap} {locs : List Loc} {cells slots : Nat} {Q : State → Prop} {ls : Array Slot} {rest st0 As : List Value}
variable {y : MethodName} {bytes cc : ByteArray} {maxL nL n index pc b mc ms : Nat} {ret : Option FieldType} {ws ws' : List Cond} {rm : Room} {Pc : Array Value → State → Prop} {Ts : List Cond} {own C : String}
theorem ex_callV {E : String} {x : ExceptionTableEntry} (S : CallFix p m c cc nL s args Ts own) (hM : exMet l y ws rm Pc E) (hG : GoodIn Ts (wsV own index C y ws)) (hw : ws = Cond.code y bytes maxL ret :: ws')
    (hd : y.cls = C ∧ y.cls ≠ "java/lang/invoke/MethodHandle" ∧ y.cls ≠ "java/lang/invoke/VarHandle" ∧ (parseMethodDescriptor y.desc).map (fun d => d.parameters.length) = some n)
    (hrc : rm.cells = 1) (hrs : rm.slots = 6) (hfr : rm.frames + 1 ≤ R.frames) (hlo : 8 + (maxL + 11) + rm.locals ≤ R.locals)
    (hb9 : ∃ cellB : Cell, H[b]? = some cellB ∧ cellB.vm.isStatics = false ∧ s.vm.findClass C = some cellB.cls)
    (hP : ∀ (U : State) (g : JFrame) (mk : MethodId), U.heap = H → s.WarmedH U.vm → Pc (Value.ref b :: As).toArray (U.calling g mk (Value.ref b :: As).toArray))
    (hn : As.length = n) (hsize : ls.size = nL) (hst : st0 = As.reverse ++ .ref b :: rest) (hW8 : (rest.map fun v => v.category).sum ≤ 8) (hdg : decode cc pc = .ok (.invokevirtual index, 3)) (hc : cells + 1 ≤ R.cells) (hs : slots + 6 ≤ R.slots)
    (htab : c.exceptionTable.toList = [x]) (hx : covers x pc = true) (h0 : x.catchType ≠ 0) (hlink : (Cond.classLink own x.catchType E).before args s = true) (hcast : (Cond.castable E E).before args s = true)
    (kk : ∀ (q : Addr) (H1 : Heap), H.size ≤ H1.size → (∀ i : Nat, i < H.size → H1[i]? = H[i]?) → W p l e R s m args below meth c H1 locs (cells + 1) (slots + 6) Q (F0 m x.handlerPc ls [.ref q])) :
    W p l e R s m args below meth c H locs cells slots Q (F0 m pc ls st0) := by
  obtain ⟨hexec, hb, hml, hown, hts⟩ := S
  obtain ⟨cellB, hcell, hobj, hcls⟩ := hb9
  obtain ⟨hyC, hy1, hy2, hnp⟩ := hd
  subst hst
  intro T hT X
  have pay := pay_in hts hG
  have hlk : (Cond.methodLink own index y).before args s = true := hts _ (hG (.methodLink own index y) (by simp [wsV])).1
  have hinst : (Cond.instanceMethod y).before args s = true := hts _ (hG (.instanceMethod y) (by simp [wsV])).1
  have hsel : (Cond.selects C y y).before args s = true := hts _ (hG (.selects C y y) (by simp [wsV])).1
  have hcode : (Cond.code y bytes maxL ret).before args s = true := hts _ (hG (.code y bytes maxL ret) (by simp [wsV, hw])).1
  obtain ⟨mk, mM, hnm, hmM, hstM, habM⟩ := Cond.instanceMethod_spec hinst
  obtain ⟨mM', cM, hmM', -, -, -, -, -, -, hsig⟩ := Cond.code_spec hnm hcode
  cases hmM.symm.trans hmM'
  obtain ⟨c2, r2, m2, q1, q2, q3, q4, kP, hkP, hkPi⟩ := Cond.selects_spec hsel
  cases hcls.symm.trans q1
  cases (State.methodFound?_of_named hnm ⟨hy1, hy2⟩).symm.trans q2
  cases hnm.symm.trans q3
  have hlen : As.length = mM.sig.parameters.length := by
    rw [hsig] at hnp
    rw [hn]
    exact (Option.some.inj hnp).symm
  obtain ⟨vm₁, X₁, st₁⟩ := X.invokevirtual hexec hown hlk hnm hmM hstM hkP hkPi ⟨hy1, hy2⟩ (a := b) (cell := cellB) (by rw [hT]; exact hcell)
    (fun z h => by rw [h] at hobj; cases hobj) (by rw [Launch.admits_selectMethod X.admits]; exact q4) hmM habM hkP hkPi (g := F0 m pc ls (As.reverse ++ .ref b :: rest)) rfl (argsL := As) (rest := rest) hlen rfl (by rw [hb]; exact hdg)
  have hw9 : ∀ w ∈ ws, w ∈ wsV own index C y ws := fun w h => by simp [wsV, h]
  obtain ⟨q, ce, V, XV, hce, hcv, hcl, -, hkeep, hst2⟩ := ex_call (g := { method := m, pc := pc, locals := ls, stack := rest, locked := none }) (a := (Value.ref b :: As).toArray) hM X₁ rfl (hsize.trans hml.symm) (by rw [hb]; exact hdg) (lv_room (m := m) (pc := pc) (ls := ls) (rest := rest) hW8)
    (X₁.named hnm) (atoms_intro fun w h => pay w (hw9 w h) _ _ X₁.warmed) (pay (.code y bytes maxL ret) (by simp [wsV, hw]) _ _ X₁.warmed) (pay (.initialized y.cls) (by simp [wsV, hyC]) _ _ X₁.warmed) hrc hrs hfr hlo hc hs (hP _ _ _ hT X₁.warmed)
  have hcl' : s.vm.findClass E = some ce.cls := by rw [← hcl]; exact (X₁.warmed.alike.findClass E _).symm
  obtain ⟨z1, z2, hz1, hz2, hasg⟩ := Cond.castable_spec hcast
  cases Option.some.inj (hz1.symm.trans hcl')
  cases Option.some.inj (hz2.symm.trans hcl')
  obtain ⟨vm₂, X₂, st₂⟩ := ex_catch (q := q) XV (g := { method := m, pc := pc, locals := ls, stack := rest, locked := none }) rfl hown htab hx h0 hlink hce hcv hcl' hasg
  have hkT : ∀ i : Nat, i < H.size → V.heap[i]? = H[i]? := fun i hi => by
    have h9 := hkeep i (by show i < T.heap.size; rw [hT]; exact hi)
    rw [h9]
    show T.heap[i]? = H[i]?
    rw [hT]
  have hsz : H.size ≤ V.heap.size := by
    rcases Nat.lt_or_ge V.heap.size H.size with h9 | h9
    · exfalso
      have h8 := hkT V.heap.size h9
      rw [Array.getElem?_eq_getElem h9] at h8
      simp at h8
    · exact h9
  obtain ⟨t, a1, b1⟩ := kk q V.heap hsz hkT (V.setVm vm₂) rfl X₂
  exact ⟨t, st₁ _ fun acts => by rw [doInvoke_state]; exact hst2.trans (st₂ _ a1), b1⟩
theorem sw_run {Qc : Array Value → State → Outcome → State → Prop} {free : Addr → Prop} {hh : List (Nat × Nat × Nat × Nat)} {g : JFrame} (S : CallFix p m c cc nL s args Ts own) (hM : Met l y ws rm Pc Qc mc ms free) (hG : GoodIn Ts (va_wsS own index y ws)) (hw : ws = Cond.codeWith y bytes maxL ret hh :: ws') (hrc : rm.cells = mc) (hrs : rm.slots = ms)
    (hd : y.cls ≠ "java/lang/invoke/MethodHandle" ∧ y.cls ≠ "java/lang/invoke/VarHandle" ∧ (parseMethodDescriptor y.desc).map (fun d => d.parameters.length) = some n) (hR : rm.frames + 1 ≤ R.frames ∧ 8 + (maxL + 11) + rm.locals ≤ R.locals) (hp : PreS s H Pc As)
    (hg : g.method = m) (hn : As.length = n) (hsize : g.locals.size = nL) (hstack : g.stack = As.reverse ++ rest) (hW : 2 * g.monitorRoom + (rest.map fun v => v.category).sum ≤ 8) (hdg : decode cc g.pc = .ok (.invokestatic index, 3)) (hf : cells + mc ≤ R.cells ∧ slots + ms ≤ R.slots) :
    va_Run p l e R s m args below meth c H locs cells slots mc ms g rest (Qc As.toArray) free := by
  obtain ⟨hexec, hb, hml, hown, hts⟩ := S
  obtain ⟨hy1, hy2, hnp⟩ := hd
  have pay := pay_in hts hG
  have hw9 : ∀ w ∈ ws, w ∈ va_wsS own index y ws := fun w h => by simp [va_wsS, h]
  have hlk : (Cond.methodLink own index y).before args s = true := hts _ (hG (.methodLink own index y) (by simp [va_wsS])).1
  have hstt : (Cond.static y).before args s = true := hts _ (hG (.static y) (by simp [va_wsS])).1
  have hini : (Cond.initialized y.cls).before args s = true := hts _ (hG (.initialized y.cls) (by simp [va_wsS])).1
  have hcode : (Cond.codeWith y bytes maxL ret hh).before args s = true := hts _ (hG (.codeWith y bytes maxL ret hh) (by simp [va_wsS, hw])).1
  have hK : Back l R p e below s args y 3 8 (PreOf R mc ms Pc) (PostOf Qc mc ms free) := va_backW (bytes := bytes) (maxL := maxL) (ret := ret) (hh := hh) hM hp.1 hrc hrs hR.1 hR.2 (fun w h => pay w (hw9 w h)) (by rw [hw]; exact List.mem_cons_self) (pay (.initialized y.cls) (by simp [va_wsS]))
  obtain ⟨mk, mM, cM, hnm, hmM, -, -, -, -, -, -, hsig⟩ := Cond.codeWith_spec hcode
  have hst : mM.isStatic = true := Cond.static_spec hnm hmM hstt
  obtain ⟨kP, hkP, -⟩ := className_of_methodNamed hnm
  have hlen : As.length = mM.sig.parameters.length := by
    rw [hsig] at hnp
    rw [hn]
    exact (Option.some.inj hnp).symm
  intro T hT X
  obtain ⟨vm₁, X₁, st₁⟩ := X.invokestatic hexec hown hlk hnm hmM hst hkP (Cond.initialized_spec (findClass_of_methodNamed hnm) hkP hini) ⟨hy1, hy2⟩ (g := g) hg (argsL := As) (rest := rest) hlen hstack (by rw [hb]; exact hdg)
  obtain ⟨v, ⟨U', l2, c2, s2⟩, X', ⟨g', mk', t, L, e1, e2, hq, h1, hL, h2, h3⟩, st⟩ := hK m meth c ⟨T.setVm vm₁, locs, cells, slots⟩ { g with stack := rest } (.invokestatic index) mk As.toArray X₁ hg (hsize.trans hml.symm) (by rw [hb]; exact hdg) hW (X₁.named hnm) ⟨hf.1, hf.2, hp.2 (T.setVm vm₁) hT X₁.warmed⟩
  dsimp only [Pt.U, Pt.locs, Pt.cells, Pt.slots] at X' e1 e2 h1 h2 h3 st
  subst h1; subst h2; subst h3
  exact ⟨v, (T.setVm vm₁).calling g' mk' As.toArray, t, U', L, hT, X', hL, e1, e2, hq, fun tg h9 => st₁ _ fun acts => by rw [doInvoke_state]; exact st.trans h9⟩
end EXR
/-! THE WORDS OF THE THROWS IN SectionFibres -/
def exN : List String := ["java/lang/IndexOutOfBoundsException", "java/lang/RuntimeException", "java/lang/Exception"]
def exA : List Cond := Bundle.ownAtoms RX2 74 RJx00060 exN
def isHp : Cond → Bool
  | .isRef _ => true
  | .laysStatic .. => true
  | _ => false
def isDC : Cond → Bool
  | .declares _ => true
  | .castable .. => true
  | _ => false
def exH : List Cond := [.isRef (.static Bundle.tN "UNASSIGNED_STACK" Bundle.steD), .isRef (.static Bundle.tN "SUPPRESSED_SENTINEL" Bundle.listD), .laysStatic Bundle.tN "UNASSIGNED_STACK" Bundle.steD, .laysStatic Bundle.tN "SUPPRESSED_SENTINEL" Bundle.listD]
set_option maxRecDepth 100000 in
theorem exA_hp : ∀ w ∈ exA, isHp w = true → w ∈ exH := by decide +kernel
set_option maxRecDepth 100000 in
theorem exA_good : ∀ w ∈ exA, isHp w = false → goodWord w = true ∨ isDC w = true := by decide +kernel
set_option maxRecDepth 100000 in
theorem exA_in : ∀ w ∈ exA, isHp w = false → w ∈ lw_tbl := by decide +kernel
theorem dc_at {w : Cond} {a a' : Array Value} {s U : State} (hw : isDC w = true) (hW : s.WarmedH U.vm) (h : w.before a s = true) : w.before a' U = true :=
  match w, hw, h with
  | .declares _, _, h => va_Nw.use rfl (va_Nw.warmD hW (va_Nw.of rfl h))
  | .castable .., _, h => va_Nw.use rfl (va_Nw.warmC hW (va_Nw.of rfl h))
/-- what the throws need, at the law's start -/
def exS (a : Array Value) (s : State) : Prop := (∀ w ∈ exA, w.before a s = true) ∧ (Cond.classLink RX2 70 RJx00060).before a s = true ∧ (Cond.initialized RJx00060).before a s = true ∧ (Cond.stringRef RX2 72 "no such kind").before a s = true ∧ (Cond.stringRef RX2 119 "no such fibre").before a s = true ∧ (Cond.classLink RL 13 RJx00060).before a s = true
theorem exA_at {a a' : Array Value} {s U : State} (h : exS a s) (hW : s.WarmedH U.vm) (hh : ∀ q : Nat, q < s.heap.size → U.heap[q]? = s.heap[q]?) : ∀ w ∈ exA, w.before a' U = true := by
  intro w hw
  cases hp : isHp w with
  | false =>
    rcases exA_good w hw hp with hg | hg
    · exact word_at hW (good_of_word hg) (h.1 w hw)
    · exact dc_at hg hW (h.1 w hw)
  | true =>
    have h4 := exA_hp w hw hp
    have hT : (Cond.initialized Bundle.tN).before a s = true := h.1 _ (by decide +kernel)
    have l1 : (Cond.laysStatic Bundle.tN "UNASSIGNED_STACK" Bundle.steD).before a s = true := h.1 _ (by decide +kernel)
    have l2 : (Cond.laysStatic Bundle.tN "SUPPRESSED_SENTINEL" Bundle.listD).before a s = true := h.1 _ (by decide +kernel)
    simp only [exH, List.mem_cons, List.not_mem_nil, or_false] at h4
    rcases h4 with rfl | rfl | rfl | rfl
    · exact hw_ref hW.alike hh l1 hT (h.1 _ hw)
    · exact hw_ref hW.alike hh l2 hT (h.1 _ hw)
    · exact hw_lays hW.alike hh l1
    · exact hw_lays hW.alike hh l2
theorem str_at {own tx : String} {k : Nat} {a a' : Array Value} {s U : State} (hW : s.WarmedH U.vm) (h : (Cond.stringRef own k tx).before a s = true) : ∃ sa : Nat, (Cond.stringRef own k tx).before a' U = true ∧ (Term.string own k).eval a' U none [] U = some (.ref sa) := by
  cases hc : s.vm.findClass own with
  | none => simp [Cond.before, Cond.holds, Cond.value, hc] at h
  | some cur =>
    obtain ⟨-, -, -, sa, -, -, -, -, -, hev⟩ := Cond.stringRef_spec hc h
    have h9 := vk_R.warm hW (vk_R.of h hev)
    exact ⟨sa, h9.1, h9.2⟩
