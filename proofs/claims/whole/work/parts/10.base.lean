/-! WRAPPERS: rows of the kit in the forms that the walks take -/
/-- the links between nest mates -/
def nestW : List Cond := [.methodLinkNest RX2 9 yX1_init "SectionFibres", .methodLinkNest RX1 11 yX0_init "SectionFibres", .methodLinkNest RX2 32 yX1_add "SectionFibres", .methodLinkNest RX2 49 yX0_addPoint "SectionFibres", .methodLinkNest RX2 54 yX1_has "SectionFibres", .methodLinkNest RX1 38 yX2_within "SectionFibres", .methodLinkNest RX2 89 yX1_sumOf "SectionFibres", .methodLinkNest RX1 56 yX2_share "SectionFibres", .methodLinkNest RX1 64 yX0_stressAt "SectionFibres", .methodLinkNest RX0 27 yX2_share "SectionFibres", .methodLinkNest RX2 93 yX1_balanceOf "SectionFibres", .methodLinkNest RX2 97 yX1_bendFor "SectionFibres", .methodLinkNest RX2 116 yX1_firstBeyond "SectionFibres", .methodLinkNest RX1 70 yX0_isBeyond "SectionFibres", .methodLinkNest RX2 131 yX1_setLastArea "SectionFibres", .methodLinkNest RX2 135 yX1_dropLast "SectionFibres", .methodLinkNest RX2 138 yX1_allAreas "SectionFibres", .methodLinkNest RX2 77 yX0_stressAt "SectionFibres", .methodLinkNest RX2 121 yX1_worksOn "SectionFibres", .methodLinkNest RX2 125 yX1_stressOn "SectionFibres", .fieldLinkNest RX2 142 "SectionFibres$Kinds" "points" "[I" "SectionFibres", .fieldLinkNest RX2 61 "SectionFibres$Kinds" "creep" "[I" "SectionFibres", .fieldLinkNest RX1 53 "SectionFibres$Kinds" "creep" "[I" "SectionFibres", .fieldLinkNest RX2 64 "SectionFibres$Kinds" "shrunk" "[I" "SectionFibres", .fieldLinkNest RX1 48 "SectionFibres$Kinds" "shrunk" "[I" "SectionFibres", .fieldLinkNest RX2 45 "SectionFibres$Section" "kinds" "LSectionFibres$Kinds;" "SectionFibres", .fieldLinkNest RX2 57 "SectionFibres$Section" "births" "[I" "SectionFibres", .fieldLinkNest RX2 67 "SectionFibres$Section" "kept" "[I" "SectionFibres", .fieldLinkNest RX2 28 "SectionFibres$Section" "size" "I" "SectionFibres"]
def isNest : Cond → Bool
  | .fieldLinkNest .. => true
  | .methodLinkNest .. => true
  | _ => false
theorem nest_is : ∀ w ∈ nestW, isNest w = true := by decide +kernel
theorem nest_in : ∀ w ∈ nestW, w ∈ tables_1 := by decide +kernel
def nsU (U : State) : Prop := ∀ w ∈ nestW, va_Nw w U
theorem nest_warm {w : Cond} {s U : State} (hn : isNest w = true) (hW : s.WarmedH U.vm) (h : va_Nw w s) : va_Nw w U :=
  match w, hn, h with
  | .fieldLinkNest .., _, h => va_Nw.warmF hW h
  | .methodLinkNest .., _, h => va_Nw.warmM hW h
theorem nest_same {w : Cond} {s U : State} (hn : isNest w = true) (hv : s.vm = U.vm) (h : va_Nw w s) : va_Nw w U :=
  match w, hn, h with
  | .fieldLinkNest .., _, h => va_Nw.same rfl hv h
  | .methodLinkNest .., _, h => va_Nw.same rfl hv h
theorem nest_of {w : Cond} {args : Array Value} {s : State} (hn : isNest w = true) (h : w.before args s = true) : va_Nw w s :=
  match w, hn, h with
  | .fieldLinkNest .., _, h => va_Nw.of rfl h
  | .methodLinkNest .., _, h => va_Nw.of rfl h
theorem nsU_warm {s U : State} (hW : s.WarmedH U.vm) (h : nsU s) : nsU U := fun w hw => nest_warm (nest_is w hw) hW (h w hw)
theorem nsU_same {s U : State} (hv : s.vm = U.vm) (h : nsU s) : nsU U := fun w hw => nest_same (nest_is w hw) hv (h w hw)
theorem nsU_of {args : Array Value} {s : State} (h : ∀ w ∈ tables_1, w.before args s = true) : nsU s := fun w hw => nest_of (nest_is w hw) (h w (nest_in w hw))
section BSW
variable {p : Program} {l : Launch} {e : Env} {R : Room} {s : State} {m : MethodId} {args : Array Value} {below : List Frame} {meth : Method} {c : Code} {H : Heap} {locs : List Loc} {cells slots : Nat} {Q : State → Prop}
variable {pc : Nat} {ls : Array Slot} {rest st0 : List Value} {cc : ByteArray} {D : va_G} {cl : List vw_C} {tys : List (ClassId × FieldType)} {ws : va_W} {A0 A : Nat → Prop} {H0 : Heap} {a : Nat}
theorem tp_i {x v : Int32} (h : x = v) (k : W p l e R s m args below meth c H locs cells slots Q (F0 m pc ls (.int v :: rest))) : W p l e R s m args below meth c H locs cells slots Q (F0 m pc ls (.int x :: rest)) := by subst h; exact k
theorem tp_l {x v : Int64} (h : x = v) (k : W p l e R s m args below meth c H locs cells slots Q (F0 m pc ls (.long v :: rest))) : W p l e R s m args below meth c H locs cells slots Q (F0 m pc ls (.long x :: rest)) := by subst h; exact k
theorem ialn (hexec : p.tables.exec = Jvm.exec) (hb : c.code = cc) (hK : va_K D cl tys s) (hP : va_P D cl ws H) (q0 t0 : Nat) {cA : ClassId} {n : Nat} {f : Nat → Int32} (ha : ws[q0]? = some (a, .inl (cA, n, .inl f))) (ht : tys[t0]? = some (cA, .int)) {i : Int32} (j : Nat) (hi : i = nI j) (hj : j < n) (hn : n < 2 ^ 31) (hdg : decode cc pc = .ok (.iaload, 1))
    (kk : W p l e R s m args below meth c H locs cells slots Q (F0 m (pc + 1) ls (.int (f j) :: rest))) : W p l e R s m args below meth c H locs cells slots Q (F0 m pc ls (.int i :: .ref a :: rest)) := by
  subst hi
  refine va_iald hexec hb hK hP q0 t0 ha ht (vp_in_nI hj hn) hdg ?_
  rw [nI_clamp (by omega)]
  exact kk
theorem iasn (hexec : p.tables.exec = Jvm.exec) (hb : c.code = cc) (hK : va_K D cl tys s) (hP : va_P D cl ws H) (hD : va_D A ws) (hS : va_S A H0 H locs) (q0 t0 : Nat) {cA : ClassId} {n : Nat} {f : Nat → Int32} (ha : ws[q0]? = some (a, .inl (cA, n, .inl f))) (ht : tys[t0]? = some (cA, .int)) {i x : Int32} (j : Nat) (hi : i = nI j) (hj : j < n) (hn : n < 2 ^ 31) (hdg : decode cc pc = .ok (.iastore, 1))
    (kk : ∀ (H1 : Heap) (locs1 : List Loc), va_P D cl (ws.set q0 (a, .inl (cA, n, .inl (upd f j x)))) H1 → va_D A (ws.set q0 (a, .inl (cA, n, .inl (upd f j x)))) → va_S A H0 H1 locs1 → W p l e R s m args below meth c H1 locs1 cells slots Q (F0 m (pc + 1) ls rest)) : W p l e R s m args below meth c H locs cells slots Q (F0 m pc ls (.int x :: .int i :: .ref a :: rest)) := by
  subst hi
  refine va_iast hexec hb hK hP hD hS q0 t0 ha ht (vp_in_nI hj hn) hdg ?_
  rw [nI_clamp (by omega)]
  exact kk
/-- the start of a method that reads: the heap, the tables -/
abbrev rd_P (av : List Value) (H : Heap) (D : va_G) (cl : List vw_C) (tys : List (ClassId × FieldType)) : Array Value → State → Prop := va_Pc av (fun U => U.heap = H ∧ va_K D cl tys U ∧ nsU U)
/-- its end: an answer, the heap as it was -/
abbrev rd_Qi (H : Heap) (post : Int32 → Prop) : Array Value → State → Outcome → State → Prop := va_Qi (fun r (_ : Unit) => post r) (fun _ t => t.heap = H) (fun _ => False)
abbrev rd_Ql (H : Heap) (post : Int64 → Prop) : Array Value → State → Outcome → State → Prop := va_Ql (fun r (_ : Unit) => post r) (fun _ t => t.heap = H) (fun _ => False)
abbrev nF : Nat → Prop := fun _ => False
theorem rd_bl {av : List Value} : FrameBlind (rd_P av H D cl tys) := fun a U g mk q => by
  obtain ⟨q0, q1, q2, q3⟩ := q
  exact ⟨q0, q1, va_K.moved (u := U) (U := U.calling g mk a) (Vm.Alike.refl U.vm) q2, nsU_same (s := U) (U := U.calling g mk a) rfl q3⟩
theorem rd_pre {av : List Value} (hK : va_K D cl tys s) (hN : nsU s) : ∀ U : State, U.heap = H → s.WarmedH U.vm → rd_P av H D cl tys av.toArray U := fun U hU hW => ⟨rfl, hU, va_K.moved hW.alike hK, nsU_warm hW hN⟩
theorem rd_i {post : Int32 → Prop} {av : Array Value} (hr : va_Run p l e R s m args below meth c H locs cells slots 0 0 (F0 m pc ls st0) rest (rd_Qi H post av) nF) (hS : va_S A0 H0 H locs)
    (kk : ∀ (r : Int32) (locs1 : List Loc), post r → va_S A0 H0 H locs1 → W p l e R s m args below meth c H locs1 cells slots Q (F0 m (pc + 3) ls (.int r :: rest))) : W p l e R s m args below meth c H locs cells slots Q (F0 m pc ls st0) :=
  va_calli hr hS (fun _ _ h => h.elim) (fun _ h => h.elim) (fun r u t H1 locs1 ht hvm hw hB hz hk hS1 => by
    have e1 : H1 = H := ht.symm.trans hB
    rw [e1] at hS1 ⊢
    exact kk r locs1 hw hS1)
theorem rd_l {post : Int64 → Prop} {av : Array Value} (hr : va_Run p l e R s m args below meth c H locs cells slots 0 0 (F0 m pc ls st0) rest (rd_Ql H post av) nF) (hS : va_S A0 H0 H locs)
    (kk : ∀ (r : Int64) (locs1 : List Loc), post r → va_S A0 H0 H locs1 → W p l e R s m args below meth c H locs1 cells slots Q (F0 m (pc + 3) ls (.long r :: rest))) : W p l e R s m args below meth c H locs cells slots Q (F0 m pc ls st0) :=
  va_calll hr hS (fun _ _ h => h.elim) (fun _ h => h.elim) (fun r u t H1 locs1 ht hvm hw hB hz hk hS1 => by
    have e1 : H1 = H := ht.symm.trans hB
    rw [e1] at hS1 ⊢
    exact kk r locs1 hw hS1)
/-- a call of a method that writes into its world and makes nothing -/
theorem mu_i {S : Type} {post : Int32 → S → Prop} {B : S → Heap → Prop} {A1 : Nat → Prop} {av : Array Value} (hr : va_Run p l e R s m args below meth c H locs cells slots 0 0 (F0 m pc ls st0) rest (va_Qi post (fun u t => B u t.heap) A1 av) A1) (hS : va_S A0 H0 H locs) (hF : ∀ q, A1 q → A0 q)
    (kk : ∀ (r : Int32) (u : S) (H1 : Heap) (locs1 : List Loc), post r u → B u H1 → (∀ q : Nat, q < H.size → ¬ A1 q → H1[q]? = H[q]?) → H.size ≤ H1.size → va_S A0 H0 H1 locs1 → W p l e R s m args below meth c H1 locs1 cells slots Q (F0 m (pc + 3) ls (.int r :: rest))) : W p l e R s m args below meth c H locs cells slots Q (F0 m pc ls st0) :=
  va_calli hr hS (fun q _ h => hF q h) hF (fun r u t H1 locs1 ht hvm hw hB hz hk hS1 => kk r u H1 locs1 hw (ht ▸ hB) hk hz hS1)
theorem mu_l {S : Type} {post : Int64 → S → Prop} {B : S → Heap → Prop} {A1 : Nat → Prop} {av : Array Value} (hr : va_Run p l e R s m args below meth c H locs cells slots 0 0 (F0 m pc ls st0) rest (va_Ql post (fun u t => B u t.heap) A1 av) A1) (hS : va_S A0 H0 H locs) (hF : ∀ q, A1 q → A0 q)
    (kk : ∀ (r : Int64) (u : S) (H1 : Heap) (locs1 : List Loc), post r u → B u H1 → (∀ q : Nat, q < H.size → ¬ A1 q → H1[q]? = H[q]?) → H.size ≤ H1.size → va_S A0 H0 H1 locs1 → W p l e R s m args below meth c H1 locs1 cells slots Q (F0 m (pc + 3) ls (.long r :: rest))) : W p l e R s m args below meth c H locs cells slots Q (F0 m pc ls st0) :=
  va_calll hr hS (fun q _ h => hF q h) hF (fun r u t H1 locs1 ht hvm hw hB hz hk hS1 => kk r u H1 locs1 hw (ht ▸ hB) hk hz hS1)
theorem mu_v {S : Type} {post : S → Prop} {B : S → Heap → Prop} {A1 : Nat → Prop} {av : Array Value} (hr : va_Run p l e R s m args below meth c H locs cells slots 0 0 (F0 m pc ls st0) rest (va_Qv post (fun u t => B u t.heap) A1 av) A1) (hS : va_S A0 H0 H locs) (hF : ∀ q, A1 q → A0 q)
    (kk : ∀ (u : S) (H1 : Heap) (locs1 : List Loc), post u → B u H1 → (∀ q : Nat, q < H.size → ¬ A1 q → H1[q]? = H[q]?) → H.size ≤ H1.size → va_S A0 H0 H1 locs1 → W p l e R s m args below meth c H1 locs1 cells slots Q (F0 m (pc + 3) ls rest)) : W p l e R s m args below meth c H locs cells slots Q (F0 m pc ls st0) :=
  va_callv hr hS (fun q _ h => hF q h) hF (fun u t H1 locs1 ht hvm hw hB hz hk hS1 => kk u H1 locs1 hw (ht ▸ hB) hk hz hS1)
/-- which cells a world has says its addresses alone -/
theorem va_Dsame {w1 w2 : va_W} (he : w1.map Prod.fst = w2.map Prod.fst) (h : va_D A w1) : va_D A w2 := by
  have hk : ∀ (k : Nat) (q : Nat × va_E), w2[k]? = some q → ∃ q' : Nat × va_E, w1[k]? = some q' ∧ q'.1 = q.1 := by
    intro k q hq
    have h1 : (w2.map Prod.fst)[k]? = some q.1 := by rw [List.getElem?_map, hq]; rfl
    rw [← he, List.getElem?_map] at h1
    cases hw : w1[k]? with
    | none => rw [hw] at h1; cases h1
    | some q' => rw [hw] at h1; exact ⟨q', rfl, Option.some.inj h1⟩
  refine ⟨fun i j x y hx hy hxy => ?_, fun k q hq => ?_⟩
  · obtain ⟨x', hx', ex⟩ := hk i x hx
    obtain ⟨y', hy', ey⟩ := hk j y hy
    exact h.1 i j x' y' hx' hy' (by rw [ex, ey]; exact hxy)
  · obtain ⟨q', hq', eq⟩ := hk k q hq
    have := h.2 k q' hq'
    rw [eq] at this
    exact this
end BSW
