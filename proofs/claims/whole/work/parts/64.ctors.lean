section NWA
variable {p : Program} {l : Launch} {e : Env} {R : Room} {s : State} {m : MethodId} {args : Array Value} {below : List Frame} {meth : Method} {c : Code} {H : Heap} {locs : List Loc} {cells slots : Nat} {Q : State → Prop}
variable {pc : Nat} {ls : Array Slot} {rest : List Value} {cc : ByteArray} {D : va_G} {cl : List vw_C} {tys : List (ClassId × FieldType)} {ws : va_W} {A : Nat → Prop} {H0 : Heap}
/-- a new row of ints, its class known already -/
theorem nwi (hexec : p.tables.exec = Jvm.exec) (hb : c.code = cc) (harr : (Cond.arrayClass .int).before args s = true) (hK : va_K D cl tys s) (hP : va_P D cl ws H) (hD : va_D A ws) (hS : va_S A H0 H locs) (hA : ∀ q, H0.size ≤ q → A q) (t0 : Nat) {cA : ClassId} (ht : tys[t0]? = some (cA, .int))
    {n : Int32} (N : Nat) (hn : ¬ n < 0) (hN : n.toNatClampNeg = N) (hbytes : N * componentBytes .int ≤ 536870912) (hcells : cells + 1 ≤ R.cells) (hslots : slots + N ≤ R.slots) (hdg : decode cc pc = .ok (.newarray .int, 2))
    (kk : ∀ (q : Nat) (H1 : Heap), va_P D cl (ws ++ [(q, .inl (cA, N, .inl (fun _ => 0)))]) H1 → va_D A (ws ++ [(q, .inl (cA, N, .inl (fun _ => 0)))]) → va_S A H0 H1 locs → W p l e R s m args below meth c H1 locs (cells + 1) (slots + N) Q (F0 m (pc + 2) ls (.ref q :: rest))) : W p l e R s m args below meth c H locs cells slots Q (F0 m pc ls (.int n :: rest)) := by
  refine va_newa (atype := .int) (ty := .int) hexec hb harr rfl hK hP hD hS hA (a0 := (N, .inl (fun _ => 0))) (fun cA => rfl) hn hN hbytes hcells hslots hdg (fun q cA' H1 hK' hP' hD' hS' => ?_)
  have h1 : va_RA s cA' .int := (hK'.2 tys.length (cA', .int) (by simp)).2
  have h2 : va_RA s cA .int := (hK.2 t0 _ ht).2
  have e1 : cA' = cA := Option.some.inj (h1.symm.trans h2)
  subst e1
  exact kk q H1 hP' hD' hS'
end NWA
theorem arr_of {args : Array Value} {s : State} {ty : FieldType} (h : (Cond.arrayClass ty).before args s = true) : ∃ cA : ClassId, ArrOfT s cA ty ∧ s.vm.findClass ("[" ++ ty.toString) = some cA := by
  simp only [Cond.before, Cond.holds, Cond.value] at h
  cases h1 : s.vm.findClass ("[" ++ ty.toString) with
  | none => simp [h1] at h
  | some cA =>
    cases h2 : s.vm.classes[cA]? with
    | none => simp [h1, h2] at h
    | some kA =>
      simp only [h1, h2, Option.bind_some, Option.map_some] at h
      cases h3 : kA.kind with
      | array comp ty' =>
        simp [h3] at h
        subst h
        exact ⟨cA, fun n z => ⟨fun k h9 => (by cases h9), kA, h2, comp, h3⟩, rfl⟩
      | _ => simp [h3] at h
/-- the section's and the kinds' cells -/
abbrev wS (cA : ClassId) (A : Nat → Nat) (g : Gg) (n : Nat) : va_W :=
  [(A 1, .inr (2, [.ref (A 2), .ref (A 3), .ref (A 4), .ref (A 5), .ref (A 6), .ref (A 7), .int (nI n)])), (A 2, .inr (1, [.ref (A 8), .ref (A 9), .ref (A 10), .ref (A 11), .ref (A 12)])),
   (A 3, .inl (cA, 41, .inl (g 0))), (A 4, .inl (cA, 41, .inl (g 1))), (A 5, .inl (cA, 41, .inl (g 2))), (A 6, .inl (cA, 41, .inl (g 3))), (A 7, .inl (cA, 41, .inl (g 4))),
   (A 8, .inl (cA, 32, .inl (g 5))), (A 9, .inl (cA, 32, .inl (g 6))), (A 10, .inl (cA, 4, .inl (g 7))), (A 11, .inl (cA, 4, .inl (g 8))), (A 12, .inl (cA, 4, .inl (g 9)))]
abbrev wK (cA : ClassId) (A : Nat → Nat) (g : Gg) : va_W :=
  [(A 2, .inr (1, [.ref (A 8), .ref (A 9), .ref (A 10), .ref (A 11), .ref (A 12)])), (A 8, .inl (cA, 32, .inl (g 5))), (A 9, .inl (cA, 32, .inl (g 6))), (A 10, .inl (cA, 4, .inl (g 7))), (A 11, .inl (cA, 4, .inl (g 8))), (A 12, .inl (cA, 4, .inl (g 9)))]

set_option maxRecDepth 20000 in
theorem mbX0_init_0 : (.methodLink RX0 3 objectInit : Cond) ∈ wsX0_init := by decide +kernel
set_option maxRecDepth 20000 in
theorem mbX0_init_1 : (.instanceMethod objectInit : Cond) ∈ wsX0_init := by decide +kernel
set_option maxRecDepth 20000 in
theorem mbX0_init_2 : (.code objectInit ⟨#[0xb1]⟩ 1 none : Cond) ∈ wsX0_init := by decide +kernel
set_option maxRecDepth 20000 in
theorem mbX0_init_3 : (.arrayClass .int : Cond) ∈ wsX0_init := by decide +kernel
set_option maxRecDepth 20000 in
theorem miX0_init_X0 : ∀ w ∈ u_ws RX0 TX0 5, w ∈ wsX0_init := by decide +kernel
set_option maxRecDepth 20000 in
theorem mbX0_init_5 : (.fieldLink RX0 9 "SectionFibres$Kinds" "strains" "[I" : Cond) ∈ wsX0_init := by decide +kernel
set_option maxRecDepth 20000 in
theorem mbX0_init_6 : (.fieldLink RX0 15 "SectionFibres$Kinds" "stresses" "[I" : Cond) ∈ wsX0_init := by decide +kernel
set_option maxRecDepth 20000 in
theorem mbX0_init_7 : (.fieldLink RX0 18 "SectionFibres$Kinds" "points" "[I" : Cond) ∈ wsX0_init := by decide +kernel
set_option maxRecDepth 20000 in
theorem mbX0_init_8 : (.fieldLink RX0 21 "SectionFibres$Kinds" "creep" "[I" : Cond) ∈ wsX0_init := by decide +kernel
set_option maxRecDepth 20000 in
theorem mbX0_init_9 : (.fieldLink RX0 24 "SectionFibres$Kinds" "shrunk" "[I" : Cond) ∈ wsX0_init := by decide +kernel
set_option maxHeartbeats 4000000 in
set_option maxRecDepth 100000 in
theorem c_X0_init (l : Launch) (dC : Nat → ClassId) (dI : Nat → Nat → Nat) (cA : ClassId) (H : Heap) (h0 : Nat) (hP : va_P (dC, dI) vwCl [(h0, .inr (1, [.null, .null, .null, .null, .null]))] H) (hD : va_D (fun _ => True) [(h0, .inr (1, [.null, .null, .null, .null, .null]))]) : Met l yX0_init wsX0_init ({ frames := 1, cells := 5, slots := 76, locals := 12 }) (rd_P [.ref h0] H (dC, dI) vwCl [(cA, .int)]) (va_Qv (fun (u : Nat → Nat) => u 2 = h0) (fun u t => va_P (dC, dI) vwCl (wK cA u g0) t.heap ∧ va_D (va_A [(h0, .inr (1, [.null, .null, .null, .null, .null]))] H.size) (wK cA u g0)) (va_A [(h0, .inr (1, [.null, .null, .null, .null, .null]))] H.size)) 5 76 (va_A [(h0, .inr (1, [.null, .null, .null, .null, .null]))] H.size) := by
  refine Met.ofW (cc := cX0_init) (maxL := 1) (ret := none) (by decide) rfl ?_
  intro p e s m args below meth c s₁ B hml hv
  obtain ⟨rfl, hH, hK, hN⟩ := hv
  subst hH
  have hx := B.exec
  have hb := B.bytes
  have hr := B.returns
  have hts := atoms_spec (ws := wsX0_init) B.pre
  have hown : s.vm.findClass RX0 = some m.cls := findClass_of_methodNamed B.named
  have hlocks := B.notSynchronized
  have hin : meth.name = "<init>" := (name_of_methodNamed B.named B.method).1
  have hD := hD.self (sz := s.heap.size)
  generalize hAe : va_A [(h0, .inr (1, [.null, .null, .null, .null, .null]))] s.heap.size = Av at hD ⊢
  have hA : ∀ q : Nat, s.heap.size ≤ q → Av q := fun q h => by rw [← hAe]; exact Or.inr h
  have hS : va_S Av s.heap s.heap [] := va_S.rf
  have hl := lv_entry ([.ref h0]) (n := 1) (Nat.le_of_ble_eq_true rfl)
  rw [lg_entry_eq]
  generalize (lg_sl ([.ref h0]) ++ List.replicate (1 - (lg_sl ([.ref h0])).length) Slot.unset).toArray = ls at hl ⊢
  have hl : lv_has ls 1 [(0, .ref h0)] := hl
  refine lv_aload_n hx hb dX0_init_0 rfl (lv_at hl 0 rfl) ?_
  refine W.objInit hx hb hown (hts (.methodLink RX0 3 objectInit) mbX0_init_0) (hts (.instanceMethod objectInit) mbX0_init_1) (hts (.code objectInit ⟨#[0xb1]⟩ 1 none) mbX0_init_2) rfl (by rw [hml]; exact hl.1) rfl dX0_init_1 (Nat.le_of_ble_eq_true rfl) (Nat.le_of_ble_eq_true rfl) ?_
  refine W.eq (g2 := F0 m 4 ls []) rfl ?_
  refine lv_aload_n hx hb dX0_init_4 rfl (lv_at hl 0 rfl) ?_
  refine lv_bipush (v := 32) hx hb dX0_init_5 (by decide) ?_
  refine nwi hx hb (hts (.arrayClass .int) mbX0_init_3) hK hP hD hS hA 0 rfl 32 (by decide) (by decide) (by decide) (Nat.le_of_ble_eq_true rfl) (Nat.le_of_ble_eq_true rfl) dX0_init_7 (fun q1 H hP hD hS => ?_)
  have hP : va_P (dC, dI) vwCl [(h0, .inr (1, [.null, .null, .null, .null, .null])), (q1, .inl (cA, 32, .inl (fun _ => 0)))] H := hP
  have hD : va_D Av [(h0, .inr (1, [.null, .null, .null, .null, .null])), (q1, .inl (cA, 32, .inl (fun _ => 0)))] := hD
  refine va_putF (D := (dC, dI)) (ci := 1) (v := .ref q1) (ty := .array .int) (C := RX0) (T := TX0) (N := 5) hx hb hts miX0_init_X0 tyX0 tyX0_ok nmX0 hown hK hP hD hS 0 rfl rfl 0 (by decide) (hts (.fieldLink RX0 9 "SectionFibres$Kinds" "strains" "[I") mbX0_init_5) (fun _ h9 => h9) rfl hin rfl (by decide +kernel) rfl rfl (Nat.le_of_ble_eq_true rfl) dX0_init_9 (fun H locs hP hD hS => ?_)
  have hP : va_P (dC, dI) vwCl [(h0, .inr (1, [.ref q1, .null, .null, .null, .null])), (q1, .inl (cA, 32, .inl (fun _ => 0)))] H := hP
  have hD : va_D Av [(h0, .inr (1, [.ref q1, .null, .null, .null, .null])), (q1, .inl (cA, 32, .inl (fun _ => 0)))] := hD
  refine lv_aload_n hx hb dX0_init_12 rfl (lv_at hl 0 rfl) ?_
  refine lv_bipush (v := 32) hx hb dX0_init_13 (by decide) ?_
  refine nwi hx hb (hts (.arrayClass .int) mbX0_init_3) hK hP hD hS hA 0 rfl 32 (by decide) (by decide) (by decide) (Nat.le_of_ble_eq_true rfl) (Nat.le_of_ble_eq_true rfl) dX0_init_15 (fun q2 H hP hD hS => ?_)
  have hP : va_P (dC, dI) vwCl [(h0, .inr (1, [.ref q1, .null, .null, .null, .null])), (q1, .inl (cA, 32, .inl (fun _ => 0))), (q2, .inl (cA, 32, .inl (fun _ => 0)))] H := hP
  have hD : va_D Av [(h0, .inr (1, [.ref q1, .null, .null, .null, .null])), (q1, .inl (cA, 32, .inl (fun _ => 0))), (q2, .inl (cA, 32, .inl (fun _ => 0)))] := hD
  refine va_putF (D := (dC, dI)) (ci := 1) (v := .ref q2) (ty := .array .int) (C := RX0) (T := TX0) (N := 5) hx hb hts miX0_init_X0 tyX0 tyX0_ok nmX0 hown hK hP hD hS 0 rfl rfl 1 (by decide) (hts (.fieldLink RX0 15 "SectionFibres$Kinds" "stresses" "[I") mbX0_init_6) (fun _ h9 => h9) rfl hin rfl (by decide +kernel) rfl rfl (Nat.le_of_ble_eq_true rfl) dX0_init_17 (fun H locs hP hD hS => ?_)
  have hP : va_P (dC, dI) vwCl [(h0, .inr (1, [.ref q1, .ref q2, .null, .null, .null])), (q1, .inl (cA, 32, .inl (fun _ => 0))), (q2, .inl (cA, 32, .inl (fun _ => 0)))] H := hP
  have hD : va_D Av [(h0, .inr (1, [.ref q1, .ref q2, .null, .null, .null])), (q1, .inl (cA, 32, .inl (fun _ => 0))), (q2, .inl (cA, 32, .inl (fun _ => 0)))] := hD
  refine lv_aload_n hx hb dX0_init_20 rfl (lv_at hl 0 rfl) ?_
  refine lv_iconst (v := 4) hx hb dX0_init_21 (by decide) ?_
  refine nwi hx hb (hts (.arrayClass .int) mbX0_init_3) hK hP hD hS hA 0 rfl 4 (by decide) (by decide) (by decide) (Nat.le_of_ble_eq_true rfl) (Nat.le_of_ble_eq_true rfl) dX0_init_22 (fun q3 H hP hD hS => ?_)
  have hP : va_P (dC, dI) vwCl [(h0, .inr (1, [.ref q1, .ref q2, .null, .null, .null])), (q1, .inl (cA, 32, .inl (fun _ => 0))), (q2, .inl (cA, 32, .inl (fun _ => 0))), (q3, .inl (cA, 4, .inl (fun _ => 0)))] H := hP
  have hD : va_D Av [(h0, .inr (1, [.ref q1, .ref q2, .null, .null, .null])), (q1, .inl (cA, 32, .inl (fun _ => 0))), (q2, .inl (cA, 32, .inl (fun _ => 0))), (q3, .inl (cA, 4, .inl (fun _ => 0)))] := hD
  refine va_putF (D := (dC, dI)) (ci := 1) (v := .ref q3) (ty := .array .int) (C := RX0) (T := TX0) (N := 5) hx hb hts miX0_init_X0 tyX0 tyX0_ok nmX0 hown hK hP hD hS 0 rfl rfl 2 (by decide) (hts (.fieldLink RX0 18 "SectionFibres$Kinds" "points" "[I") mbX0_init_7) (fun _ h9 => h9) rfl hin rfl (by decide +kernel) rfl rfl (Nat.le_of_ble_eq_true rfl) dX0_init_24 (fun H locs hP hD hS => ?_)
  have hP : va_P (dC, dI) vwCl [(h0, .inr (1, [.ref q1, .ref q2, .ref q3, .null, .null])), (q1, .inl (cA, 32, .inl (fun _ => 0))), (q2, .inl (cA, 32, .inl (fun _ => 0))), (q3, .inl (cA, 4, .inl (fun _ => 0)))] H := hP
  have hD : va_D Av [(h0, .inr (1, [.ref q1, .ref q2, .ref q3, .null, .null])), (q1, .inl (cA, 32, .inl (fun _ => 0))), (q2, .inl (cA, 32, .inl (fun _ => 0))), (q3, .inl (cA, 4, .inl (fun _ => 0)))] := hD
  refine lv_aload_n hx hb dX0_init_27 rfl (lv_at hl 0 rfl) ?_
  refine lv_iconst (v := 4) hx hb dX0_init_28 (by decide) ?_
  refine nwi hx hb (hts (.arrayClass .int) mbX0_init_3) hK hP hD hS hA 0 rfl 4 (by decide) (by decide) (by decide) (Nat.le_of_ble_eq_true rfl) (Nat.le_of_ble_eq_true rfl) dX0_init_29 (fun q4 H hP hD hS => ?_)
  have hP : va_P (dC, dI) vwCl [(h0, .inr (1, [.ref q1, .ref q2, .ref q3, .null, .null])), (q1, .inl (cA, 32, .inl (fun _ => 0))), (q2, .inl (cA, 32, .inl (fun _ => 0))), (q3, .inl (cA, 4, .inl (fun _ => 0))), (q4, .inl (cA, 4, .inl (fun _ => 0)))] H := hP
  have hD : va_D Av [(h0, .inr (1, [.ref q1, .ref q2, .ref q3, .null, .null])), (q1, .inl (cA, 32, .inl (fun _ => 0))), (q2, .inl (cA, 32, .inl (fun _ => 0))), (q3, .inl (cA, 4, .inl (fun _ => 0))), (q4, .inl (cA, 4, .inl (fun _ => 0)))] := hD
  refine va_putF (D := (dC, dI)) (ci := 1) (v := .ref q4) (ty := .array .int) (C := RX0) (T := TX0) (N := 5) hx hb hts miX0_init_X0 tyX0 tyX0_ok nmX0 hown hK hP hD hS 0 rfl rfl 3 (by decide) (hts (.fieldLink RX0 21 "SectionFibres$Kinds" "creep" "[I") mbX0_init_8) (fun _ h9 => h9) rfl hin rfl (by decide +kernel) rfl rfl (Nat.le_of_ble_eq_true rfl) dX0_init_31 (fun H locs hP hD hS => ?_)
  have hP : va_P (dC, dI) vwCl [(h0, .inr (1, [.ref q1, .ref q2, .ref q3, .ref q4, .null])), (q1, .inl (cA, 32, .inl (fun _ => 0))), (q2, .inl (cA, 32, .inl (fun _ => 0))), (q3, .inl (cA, 4, .inl (fun _ => 0))), (q4, .inl (cA, 4, .inl (fun _ => 0)))] H := hP
  have hD : va_D Av [(h0, .inr (1, [.ref q1, .ref q2, .ref q3, .ref q4, .null])), (q1, .inl (cA, 32, .inl (fun _ => 0))), (q2, .inl (cA, 32, .inl (fun _ => 0))), (q3, .inl (cA, 4, .inl (fun _ => 0))), (q4, .inl (cA, 4, .inl (fun _ => 0)))] := hD
  refine lv_aload_n hx hb dX0_init_34 rfl (lv_at hl 0 rfl) ?_
  refine lv_iconst (v := 4) hx hb dX0_init_35 (by decide) ?_
  refine nwi hx hb (hts (.arrayClass .int) mbX0_init_3) hK hP hD hS hA 0 rfl 4 (by decide) (by decide) (by decide) (Nat.le_of_ble_eq_true rfl) (Nat.le_of_ble_eq_true rfl) dX0_init_36 (fun q5 H hP hD hS => ?_)
  have hP : va_P (dC, dI) vwCl [(h0, .inr (1, [.ref q1, .ref q2, .ref q3, .ref q4, .null])), (q1, .inl (cA, 32, .inl (fun _ => 0))), (q2, .inl (cA, 32, .inl (fun _ => 0))), (q3, .inl (cA, 4, .inl (fun _ => 0))), (q4, .inl (cA, 4, .inl (fun _ => 0))), (q5, .inl (cA, 4, .inl (fun _ => 0)))] H := hP
  have hD : va_D Av [(h0, .inr (1, [.ref q1, .ref q2, .ref q3, .ref q4, .null])), (q1, .inl (cA, 32, .inl (fun _ => 0))), (q2, .inl (cA, 32, .inl (fun _ => 0))), (q3, .inl (cA, 4, .inl (fun _ => 0))), (q4, .inl (cA, 4, .inl (fun _ => 0))), (q5, .inl (cA, 4, .inl (fun _ => 0)))] := hD
  refine va_putF (D := (dC, dI)) (ci := 1) (v := .ref q5) (ty := .array .int) (C := RX0) (T := TX0) (N := 5) hx hb hts miX0_init_X0 tyX0 tyX0_ok nmX0 hown hK hP hD hS 0 rfl rfl 4 (by decide) (hts (.fieldLink RX0 24 "SectionFibres$Kinds" "shrunk" "[I") mbX0_init_9) (fun _ h9 => h9) rfl hin rfl (by decide +kernel) rfl rfl (Nat.le_of_ble_eq_true rfl) dX0_init_38 (fun H locs hP hD hS => ?_)
  have hP : va_P (dC, dI) vwCl [(h0, .inr (1, [.ref q1, .ref q2, .ref q3, .ref q4, .ref q5])), (q1, .inl (cA, 32, .inl (fun _ => 0))), (q2, .inl (cA, 32, .inl (fun _ => 0))), (q3, .inl (cA, 4, .inl (fun _ => 0))), (q4, .inl (cA, 4, .inl (fun _ => 0))), (q5, .inl (cA, 4, .inl (fun _ => 0)))] H := hP
  have hD : va_D Av [(h0, .inr (1, [.ref q1, .ref q2, .ref q3, .ref q4, .ref q5])), (q1, .inl (cA, 32, .inl (fun _ => 0))), (q2, .inl (cA, 32, .inl (fun _ => 0))), (q3, .inl (cA, 4, .inl (fun _ => 0))), (q4, .inl (cA, 4, .inl (fun _ => 0))), (q5, .inl (cA, 4, .inl (fun _ => 0)))] := hD
  have hP9 : va_P (dC, dI) vwCl (wK cA (fun k : Nat => if k = 2 then h0 else if k = 8 then q1 else if k = 9 then q2 else if k = 10 then q3 else if k = 11 then q4 else q5) g0) H := hP.sub [0, 1, 2, 3, 4, 5] rfl
  have hD9 : va_D Av (wK cA (fun k : Nat => if k = 2 then h0 else if k = 8 then q1 else if k = 9 then q2 else if k = 10 then q3 else if k = 11 then q4 else q5) g0) := hD.sub [0, 1, 2, 3, 4, 5] (by decide) rfl
  refine W.widen (k := 5) (n := 76) (by omega) (by omega) ?_
  exact W.vret hx hb hr (fun t9 ht9 hW9 => ⟨⟨(fun k : Nat => if k = 2 then h0 else if k = 8 then q1 else if k = 9 then q2 else if k = 10 then q3 else if k = 11 then q4 else q5), rfl, rfl, by dsimp only; rw [ht9]; exact ⟨hP9, hD9⟩⟩, hS.F ht9⟩) hS.2.2 dX0_init_41

set_option maxRecDepth 20000 in
theorem mbX1_init_0 : (.methodLink RX1 3 objectInit : Cond) ∈ wsX1_init := by decide +kernel
set_option maxRecDepth 20000 in
theorem mbX1_init_1 : (.instanceMethod objectInit : Cond) ∈ wsX1_init := by decide +kernel
set_option maxRecDepth 20000 in
theorem mbX1_init_2 : (.code objectInit ⟨#[0xb1]⟩ 1 none : Cond) ∈ wsX1_init := by decide +kernel
set_option maxRecDepth 20000 in
theorem miX1_init_X0 : ∀ w ∈ u_ws RX0 TX0 5, w ∈ wsX1_init := by decide +kernel
set_option maxRecDepth 20000 in
theorem mbX1_init_4 : (.classLink RX1 9 RX0 : Cond) ∈ wsX1_init := by decide +kernel
set_option maxRecDepth 20000 in
theorem mbX1_init_5 : (.instantiable RX0 5 : Cond) ∈ wsX1_init := by decide +kernel
set_option maxRecDepth 20000 in
theorem mbX1_init_6 : (.initialized RX0 : Cond) ∈ wsX1_init := by decide +kernel
set_option maxRecDepth 20000 in
theorem mbX1_init_7 : (.instanceMethod yX0_init : Cond) ∈ wsX1_init := by decide +kernel
set_option maxRecDepth 20000 in
theorem miX1_init_X1 : ∀ w ∈ u_ws RX1 TX1 7, w ∈ wsX1_init := by decide +kernel
set_option maxRecDepth 20000 in
theorem mbX1_init_9 : (.fieldLink RX1 12 "SectionFibres$Section" "kinds" "LSectionFibres$Kinds;" : Cond) ∈ wsX1_init := by decide +kernel
set_option maxRecDepth 20000 in
theorem mbX1_init_10 : (.arrayClass .int : Cond) ∈ wsX1_init := by decide +kernel
set_option maxRecDepth 20000 in
theorem mbX1_init_11 : (.fieldLink RX1 18 "SectionFibres$Section" "areas" "[I" : Cond) ∈ wsX1_init := by decide +kernel
set_option maxRecDepth 20000 in
theorem mbX1_init_12 : (.fieldLink RX1 22 "SectionFibres$Section" "places" "[I" : Cond) ∈ wsX1_init := by decide +kernel
set_option maxRecDepth 20000 in
theorem mbX1_init_13 : (.fieldLink RX1 25 "SectionFibres$Section" "kindOf" "[I" : Cond) ∈ wsX1_init := by decide +kernel
set_option maxRecDepth 20000 in
theorem mbX1_init_14 : (.fieldLink RX1 28 "SectionFibres$Section" "births" "[I" : Cond) ∈ wsX1_init := by decide +kernel
set_option maxRecDepth 20000 in
theorem mbX1_init_15 : (.fieldLink RX1 31 "SectionFibres$Section" "kept" "[I" : Cond) ∈ wsX1_init := by decide +kernel
set_option maxHeartbeats 4000000 in
set_option maxRecDepth 100000 in
theorem c_X1_init (l : Launch) (dC : Nat → ClassId) (dI : Nat → Nat → Nat) (cA : ClassId) (H : Heap) (h0 : Nat) (hP : va_P (dC, dI) vwCl [(h0, .inr (2, [.null, .null, .null, .null, .null, .null, .int 0]))] H) (hD : va_D (fun _ => True) [(h0, .inr (2, [.null, .null, .null, .null, .null, .null, .int 0]))]) : Met l yX1_init wsX1_init ({ frames := 2, cells := 11, slots := 286, locals := 32 }) (rd_P [.ref h0] H (dC, dI) vwCl [(cA, .int)]) (va_Qv (fun (u : Nat → Nat) => u 1 = h0) (fun u t => va_P (dC, dI) vwCl (wS cA u g0 0) t.heap ∧ va_D (va_A [(h0, .inr (2, [.null, .null, .null, .null, .null, .null, .int 0]))] H.size) (wS cA u g0 0)) (va_A [(h0, .inr (2, [.null, .null, .null, .null, .null, .null, .int 0]))] H.size)) 11 286 (va_A [(h0, .inr (2, [.null, .null, .null, .null, .null, .null, .int 0]))] H.size) := by
  refine Met.ofW (cc := cX1_init) (maxL := 1) (ret := none) (by decide) rfl ?_
  intro p e s m args below meth c s₁ B hml hv
  obtain ⟨rfl, hH, hK, hN⟩ := hv
  subst hH
  have hx := B.exec
  have hb := B.bytes
  have hr := B.returns
  have hts := atoms_spec (ws := wsX1_init) B.pre
  have hown : s.vm.findClass RX1 = some m.cls := findClass_of_methodNamed B.named
  have hlocks := B.notSynchronized
  have hin : meth.name = "<init>" := (name_of_methodNamed B.named B.method).1
  have hD := hD.self (sz := s.heap.size)
  generalize hAe : va_A [(h0, .inr (2, [.null, .null, .null, .null, .null, .null, .int 0]))] s.heap.size = Av at hD ⊢
  have hA : ∀ q : Nat, s.heap.size ≤ q → Av q := fun q h => by rw [← hAe]; exact Or.inr h
  have hS : va_S Av s.heap s.heap [] := va_S.rf
  have hl := lv_entry ([.ref h0]) (n := 1) (Nat.le_of_ble_eq_true rfl)
  rw [lg_entry_eq]
  generalize (lg_sl ([.ref h0]) ++ List.replicate (1 - (lg_sl ([.ref h0])).length) Slot.unset).toArray = ls at hl ⊢
  have hl : lv_has ls 1 [(0, .ref h0)] := hl
  refine lv_aload_n hx hb dX1_init_0 rfl (lv_at hl 0 rfl) ?_
  refine W.objInit hx hb hown (hts (.methodLink RX1 3 objectInit) mbX1_init_0) (hts (.instanceMethod objectInit) mbX1_init_1) (hts (.code objectInit ⟨#[0xb1]⟩ 1 none) mbX1_init_2) rfl (by rw [hml]; exact hl.1) rfl dX1_init_1 (Nat.le_of_ble_eq_true rfl) (Nat.le_of_ble_eq_true rfl) ?_
  refine W.eq (g2 := F0 m 4 ls []) rfl ?_
  refine lv_aload_n hx hb dX1_init_4 rfl (lv_at hl 0 rfl) ?_
  refine va_new (ci := 1) (fs := [.null, .null, .null, .null, .null]) (C := RX0) (T := TX0) (N := 5) hx hb hts miX1_init_X0 tyX0 tyX0_ok hown (hts (.classLink RX1 9 RX0) mbX1_init_4) (hts (.instantiable RX0 5) mbX1_init_5) (hts (.initialized RX0) mbX1_init_6) hK hP hD hS hA rfl (fun j hj => by rcases (show j = 0 ∨ j = 1 ∨ j = 2 ∨ j = 3 ∨ j = 4 by omega) with rfl | rfl | rfl | rfl | rfl <;> rfl) (Nat.le_of_ble_eq_true rfl) (Nat.le_of_ble_eq_true rfl) dX1_init_5 (fun q0 H hP hD hS => ?_)
  have hP : va_P (dC, dI) vwCl [(h0, .inr (2, [.null, .null, .null, .null, .null, .null, .int 0])), (q0, .inr (1, [.null, .null, .null, .null, .null]))] H := hP
  have hD : va_D Av [(h0, .inr (2, [.null, .null, .null, .null, .null, .null, .int 0])), (q0, .inr (1, [.null, .null, .null, .null, .null]))] := hD
  refine lv_dup hx hb dX1_init_8 rfl ?_
  have hPc := hP.sub (ws' := [(q0, .inr (1, [.null, .null, .null, .null, .null]))]) [1] rfl
  have hDc := hD.sub (ws' := [(q0, .inr (1, [.null, .null, .null, .null, .null]))]) [1] (by decide) rfl
  have hFc := va_free (wc := [(q0, .inr (1, [.null, .null, .null, .null, .null]))]) hD hS hA [1] rfl
  refine va_callv (va_runIN (As := []) (rest := [.ref q0, .ref h0]) ⟨hx, hb, hml, hown, hts⟩ (c_X0_init l dC dI cA H q0 hPc (hDc.weaken (fun _ _ _ _ => trivial))) ⟨va_cnB 0 hts gX1_init_X0_init_n11 rfl rfl rfl (hN (.methodLinkNest RX1 11 yX0_init "SectionFibres") (List.mem_of_getElem? (i := 1) rfl)) (hts (.initialized RX0) mbX1_init_6) (by decide +kernel) ⟨Nat.le_of_ble_eq_true rfl, Nat.le_of_ble_eq_true rfl⟩, rfl, hts (.instanceMethod yX0_init) mbX1_init_7⟩ ⟨rd_bl, rd_pre hK hN⟩ rfl rfl hl.1 rfl (lv_room (Nat.le_of_ble_eq_true rfl)) dX1_init_9 ⟨Nat.le_of_ble_eq_true rfl, Nat.le_of_ble_eq_true rfl⟩) hS (fun q9 _ h => hFc q9 h) hFc (fun u t H1 locs ht hvm hw hB hz1 hk1 hS => ?_)
  obtain ⟨hP1, hD1⟩ := hB
  rw [ht] at hP1
  obtain ⟨hP, hD⟩ := va_join (wr := [(h0, .inr (2, [.null, .null, .null, .null, .null, .null, .int 0]))]) (w1 := (wK cA u g0)) hP hD [1] [0] rfl rfl (by decide) (by decide) hk1 hFc hP1 hD1
  generalize H1 = H at hP hS ⊢
  have hP : va_P (dC, dI) vwCl [(h0, .inr (2, [.null, .null, .null, .null, .null, .null, .int 0])), ((u 2), .inr (1, [.ref (u 8), .ref (u 9), .ref (u 10), .ref (u 11), .ref (u 12)])), ((u 8), .inl (cA, 32, .inl (g0 5))), ((u 9), .inl (cA, 32, .inl (g0 6))), ((u 10), .inl (cA, 4, .inl (g0 7))), ((u 11), .inl (cA, 4, .inl (g0 8))), ((u 12), .inl (cA, 4, .inl (g0 9)))] H := hP
  have hD : va_D Av [(h0, .inr (2, [.null, .null, .null, .null, .null, .null, .int 0])), ((u 2), .inr (1, [.ref (u 8), .ref (u 9), .ref (u 10), .ref (u 11), .ref (u 12)])), ((u 8), .inl (cA, 32, .inl (g0 5))), ((u 9), .inl (cA, 32, .inl (g0 6))), ((u 10), .inl (cA, 4, .inl (g0 7))), ((u 11), .inl (cA, 4, .inl (g0 8))), ((u 12), .inl (cA, 4, .inl (g0 9)))] := hD
  have hw : u 2 = q0 := hw
  refine W.eq (g2 := F0 m 12 ls [.ref (u 2), .ref h0]) (by rw [hw]) ?_
  refine va_putF (D := (dC, dI)) (ci := 2) (v := .ref (u 2)) (ty := .object "SectionFibres$Kinds") (C := RX1) (T := TX1) (N := 7) hx hb hts miX1_init_X1 tyX1 tyX1_ok nmX1 hown hK hP hD hS 0 rfl rfl 0 (by decide) (hts (.fieldLink RX1 12 "SectionFibres$Section" "kinds" "LSectionFibres$Kinds;") mbX1_init_9) (fun _ h9 => h9) rfl hin rfl (by decide +kernel) rfl rfl (Nat.le_of_ble_eq_true rfl) dX1_init_12 (fun H locs hP hD hS => ?_)
  have hP : va_P (dC, dI) vwCl [(h0, .inr (2, [.ref (u 2), .null, .null, .null, .null, .null, .int 0])), ((u 2), .inr (1, [.ref (u 8), .ref (u 9), .ref (u 10), .ref (u 11), .ref (u 12)])), ((u 8), .inl (cA, 32, .inl (g0 5))), ((u 9), .inl (cA, 32, .inl (g0 6))), ((u 10), .inl (cA, 4, .inl (g0 7))), ((u 11), .inl (cA, 4, .inl (g0 8))), ((u 12), .inl (cA, 4, .inl (g0 9)))] H := hP
  have hD : va_D Av [(h0, .inr (2, [.ref (u 2), .null, .null, .null, .null, .null, .int 0])), ((u 2), .inr (1, [.ref (u 8), .ref (u 9), .ref (u 10), .ref (u 11), .ref (u 12)])), ((u 8), .inl (cA, 32, .inl (g0 5))), ((u 9), .inl (cA, 32, .inl (g0 6))), ((u 10), .inl (cA, 4, .inl (g0 7))), ((u 11), .inl (cA, 4, .inl (g0 8))), ((u 12), .inl (cA, 4, .inl (g0 9)))] := hD
  refine lv_aload_n hx hb dX1_init_15 rfl (lv_at hl 0 rfl) ?_
  refine lv_bipush (v := 41) hx hb dX1_init_16 (by decide) ?_
  refine nwi hx hb (hts (.arrayClass .int) mbX1_init_10) hK hP hD hS hA 0 rfl 41 (by decide) (by decide) (by decide) (Nat.le_of_ble_eq_true rfl) (Nat.le_of_ble_eq_true rfl) dX1_init_18 (fun q1 H hP hD hS => ?_)
  have hP : va_P (dC, dI) vwCl [(h0, .inr (2, [.ref (u 2), .null, .null, .null, .null, .null, .int 0])), ((u 2), .inr (1, [.ref (u 8), .ref (u 9), .ref (u 10), .ref (u 11), .ref (u 12)])), ((u 8), .inl (cA, 32, .inl (g0 5))), ((u 9), .inl (cA, 32, .inl (g0 6))), ((u 10), .inl (cA, 4, .inl (g0 7))), ((u 11), .inl (cA, 4, .inl (g0 8))), ((u 12), .inl (cA, 4, .inl (g0 9))), (q1, .inl (cA, 41, .inl (fun _ => 0)))] H := hP
  have hD : va_D Av [(h0, .inr (2, [.ref (u 2), .null, .null, .null, .null, .null, .int 0])), ((u 2), .inr (1, [.ref (u 8), .ref (u 9), .ref (u 10), .ref (u 11), .ref (u 12)])), ((u 8), .inl (cA, 32, .inl (g0 5))), ((u 9), .inl (cA, 32, .inl (g0 6))), ((u 10), .inl (cA, 4, .inl (g0 7))), ((u 11), .inl (cA, 4, .inl (g0 8))), ((u 12), .inl (cA, 4, .inl (g0 9))), (q1, .inl (cA, 41, .inl (fun _ => 0)))] := hD
  refine va_putF (D := (dC, dI)) (ci := 2) (v := .ref q1) (ty := .array .int) (C := RX1) (T := TX1) (N := 7) hx hb hts miX1_init_X1 tyX1 tyX1_ok nmX1 hown hK hP hD hS 0 rfl rfl 1 (by decide) (hts (.fieldLink RX1 18 "SectionFibres$Section" "areas" "[I") mbX1_init_11) (fun _ h9 => h9) rfl hin rfl (by decide +kernel) rfl rfl (Nat.le_of_ble_eq_true rfl) dX1_init_20 (fun H locs hP hD hS => ?_)
  have hP : va_P (dC, dI) vwCl [(h0, .inr (2, [.ref (u 2), .ref q1, .null, .null, .null, .null, .int 0])), ((u 2), .inr (1, [.ref (u 8), .ref (u 9), .ref (u 10), .ref (u 11), .ref (u 12)])), ((u 8), .inl (cA, 32, .inl (g0 5))), ((u 9), .inl (cA, 32, .inl (g0 6))), ((u 10), .inl (cA, 4, .inl (g0 7))), ((u 11), .inl (cA, 4, .inl (g0 8))), ((u 12), .inl (cA, 4, .inl (g0 9))), (q1, .inl (cA, 41, .inl (fun _ => 0)))] H := hP
  have hD : va_D Av [(h0, .inr (2, [.ref (u 2), .ref q1, .null, .null, .null, .null, .int 0])), ((u 2), .inr (1, [.ref (u 8), .ref (u 9), .ref (u 10), .ref (u 11), .ref (u 12)])), ((u 8), .inl (cA, 32, .inl (g0 5))), ((u 9), .inl (cA, 32, .inl (g0 6))), ((u 10), .inl (cA, 4, .inl (g0 7))), ((u 11), .inl (cA, 4, .inl (g0 8))), ((u 12), .inl (cA, 4, .inl (g0 9))), (q1, .inl (cA, 41, .inl (fun _ => 0)))] := hD
  refine lv_aload_n hx hb dX1_init_23 rfl (lv_at hl 0 rfl) ?_
  refine lv_bipush (v := 41) hx hb dX1_init_24 (by decide) ?_
  refine nwi hx hb (hts (.arrayClass .int) mbX1_init_10) hK hP hD hS hA 0 rfl 41 (by decide) (by decide) (by decide) (Nat.le_of_ble_eq_true rfl) (Nat.le_of_ble_eq_true rfl) dX1_init_26 (fun q2 H hP hD hS => ?_)
  have hP : va_P (dC, dI) vwCl [(h0, .inr (2, [.ref (u 2), .ref q1, .null, .null, .null, .null, .int 0])), ((u 2), .inr (1, [.ref (u 8), .ref (u 9), .ref (u 10), .ref (u 11), .ref (u 12)])), ((u 8), .inl (cA, 32, .inl (g0 5))), ((u 9), .inl (cA, 32, .inl (g0 6))), ((u 10), .inl (cA, 4, .inl (g0 7))), ((u 11), .inl (cA, 4, .inl (g0 8))), ((u 12), .inl (cA, 4, .inl (g0 9))), (q1, .inl (cA, 41, .inl (fun _ => 0))), (q2, .inl (cA, 41, .inl (fun _ => 0)))] H := hP
  have hD : va_D Av [(h0, .inr (2, [.ref (u 2), .ref q1, .null, .null, .null, .null, .int 0])), ((u 2), .inr (1, [.ref (u 8), .ref (u 9), .ref (u 10), .ref (u 11), .ref (u 12)])), ((u 8), .inl (cA, 32, .inl (g0 5))), ((u 9), .inl (cA, 32, .inl (g0 6))), ((u 10), .inl (cA, 4, .inl (g0 7))), ((u 11), .inl (cA, 4, .inl (g0 8))), ((u 12), .inl (cA, 4, .inl (g0 9))), (q1, .inl (cA, 41, .inl (fun _ => 0))), (q2, .inl (cA, 41, .inl (fun _ => 0)))] := hD
  refine va_putF (D := (dC, dI)) (ci := 2) (v := .ref q2) (ty := .array .int) (C := RX1) (T := TX1) (N := 7) hx hb hts miX1_init_X1 tyX1 tyX1_ok nmX1 hown hK hP hD hS 0 rfl rfl 2 (by decide) (hts (.fieldLink RX1 22 "SectionFibres$Section" "places" "[I") mbX1_init_12) (fun _ h9 => h9) rfl hin rfl (by decide +kernel) rfl rfl (Nat.le_of_ble_eq_true rfl) dX1_init_28 (fun H locs hP hD hS => ?_)
  have hP : va_P (dC, dI) vwCl [(h0, .inr (2, [.ref (u 2), .ref q1, .ref q2, .null, .null, .null, .int 0])), ((u 2), .inr (1, [.ref (u 8), .ref (u 9), .ref (u 10), .ref (u 11), .ref (u 12)])), ((u 8), .inl (cA, 32, .inl (g0 5))), ((u 9), .inl (cA, 32, .inl (g0 6))), ((u 10), .inl (cA, 4, .inl (g0 7))), ((u 11), .inl (cA, 4, .inl (g0 8))), ((u 12), .inl (cA, 4, .inl (g0 9))), (q1, .inl (cA, 41, .inl (fun _ => 0))), (q2, .inl (cA, 41, .inl (fun _ => 0)))] H := hP
  have hD : va_D Av [(h0, .inr (2, [.ref (u 2), .ref q1, .ref q2, .null, .null, .null, .int 0])), ((u 2), .inr (1, [.ref (u 8), .ref (u 9), .ref (u 10), .ref (u 11), .ref (u 12)])), ((u 8), .inl (cA, 32, .inl (g0 5))), ((u 9), .inl (cA, 32, .inl (g0 6))), ((u 10), .inl (cA, 4, .inl (g0 7))), ((u 11), .inl (cA, 4, .inl (g0 8))), ((u 12), .inl (cA, 4, .inl (g0 9))), (q1, .inl (cA, 41, .inl (fun _ => 0))), (q2, .inl (cA, 41, .inl (fun _ => 0)))] := hD
  refine lv_aload_n hx hb dX1_init_31 rfl (lv_at hl 0 rfl) ?_
  refine lv_bipush (v := 41) hx hb dX1_init_32 (by decide) ?_
  refine nwi hx hb (hts (.arrayClass .int) mbX1_init_10) hK hP hD hS hA 0 rfl 41 (by decide) (by decide) (by decide) (Nat.le_of_ble_eq_true rfl) (Nat.le_of_ble_eq_true rfl) dX1_init_34 (fun q3 H hP hD hS => ?_)
  have hP : va_P (dC, dI) vwCl [(h0, .inr (2, [.ref (u 2), .ref q1, .ref q2, .null, .null, .null, .int 0])), ((u 2), .inr (1, [.ref (u 8), .ref (u 9), .ref (u 10), .ref (u 11), .ref (u 12)])), ((u 8), .inl (cA, 32, .inl (g0 5))), ((u 9), .inl (cA, 32, .inl (g0 6))), ((u 10), .inl (cA, 4, .inl (g0 7))), ((u 11), .inl (cA, 4, .inl (g0 8))), ((u 12), .inl (cA, 4, .inl (g0 9))), (q1, .inl (cA, 41, .inl (fun _ => 0))), (q2, .inl (cA, 41, .inl (fun _ => 0))), (q3, .inl (cA, 41, .inl (fun _ => 0)))] H := hP
  have hD : va_D Av [(h0, .inr (2, [.ref (u 2), .ref q1, .ref q2, .null, .null, .null, .int 0])), ((u 2), .inr (1, [.ref (u 8), .ref (u 9), .ref (u 10), .ref (u 11), .ref (u 12)])), ((u 8), .inl (cA, 32, .inl (g0 5))), ((u 9), .inl (cA, 32, .inl (g0 6))), ((u 10), .inl (cA, 4, .inl (g0 7))), ((u 11), .inl (cA, 4, .inl (g0 8))), ((u 12), .inl (cA, 4, .inl (g0 9))), (q1, .inl (cA, 41, .inl (fun _ => 0))), (q2, .inl (cA, 41, .inl (fun _ => 0))), (q3, .inl (cA, 41, .inl (fun _ => 0)))] := hD
  refine va_putF (D := (dC, dI)) (ci := 2) (v := .ref q3) (ty := .array .int) (C := RX1) (T := TX1) (N := 7) hx hb hts miX1_init_X1 tyX1 tyX1_ok nmX1 hown hK hP hD hS 0 rfl rfl 3 (by decide) (hts (.fieldLink RX1 25 "SectionFibres$Section" "kindOf" "[I") mbX1_init_13) (fun _ h9 => h9) rfl hin rfl (by decide +kernel) rfl rfl (Nat.le_of_ble_eq_true rfl) dX1_init_36 (fun H locs hP hD hS => ?_)
  have hP : va_P (dC, dI) vwCl [(h0, .inr (2, [.ref (u 2), .ref q1, .ref q2, .ref q3, .null, .null, .int 0])), ((u 2), .inr (1, [.ref (u 8), .ref (u 9), .ref (u 10), .ref (u 11), .ref (u 12)])), ((u 8), .inl (cA, 32, .inl (g0 5))), ((u 9), .inl (cA, 32, .inl (g0 6))), ((u 10), .inl (cA, 4, .inl (g0 7))), ((u 11), .inl (cA, 4, .inl (g0 8))), ((u 12), .inl (cA, 4, .inl (g0 9))), (q1, .inl (cA, 41, .inl (fun _ => 0))), (q2, .inl (cA, 41, .inl (fun _ => 0))), (q3, .inl (cA, 41, .inl (fun _ => 0)))] H := hP
  have hD : va_D Av [(h0, .inr (2, [.ref (u 2), .ref q1, .ref q2, .ref q3, .null, .null, .int 0])), ((u 2), .inr (1, [.ref (u 8), .ref (u 9), .ref (u 10), .ref (u 11), .ref (u 12)])), ((u 8), .inl (cA, 32, .inl (g0 5))), ((u 9), .inl (cA, 32, .inl (g0 6))), ((u 10), .inl (cA, 4, .inl (g0 7))), ((u 11), .inl (cA, 4, .inl (g0 8))), ((u 12), .inl (cA, 4, .inl (g0 9))), (q1, .inl (cA, 41, .inl (fun _ => 0))), (q2, .inl (cA, 41, .inl (fun _ => 0))), (q3, .inl (cA, 41, .inl (fun _ => 0)))] := hD
  refine lv_aload_n hx hb dX1_init_39 rfl (lv_at hl 0 rfl) ?_
  refine lv_bipush (v := 41) hx hb dX1_init_40 (by decide) ?_
  refine nwi hx hb (hts (.arrayClass .int) mbX1_init_10) hK hP hD hS hA 0 rfl 41 (by decide) (by decide) (by decide) (Nat.le_of_ble_eq_true rfl) (Nat.le_of_ble_eq_true rfl) dX1_init_42 (fun q4 H hP hD hS => ?_)
  have hP : va_P (dC, dI) vwCl [(h0, .inr (2, [.ref (u 2), .ref q1, .ref q2, .ref q3, .null, .null, .int 0])), ((u 2), .inr (1, [.ref (u 8), .ref (u 9), .ref (u 10), .ref (u 11), .ref (u 12)])), ((u 8), .inl (cA, 32, .inl (g0 5))), ((u 9), .inl (cA, 32, .inl (g0 6))), ((u 10), .inl (cA, 4, .inl (g0 7))), ((u 11), .inl (cA, 4, .inl (g0 8))), ((u 12), .inl (cA, 4, .inl (g0 9))), (q1, .inl (cA, 41, .inl (fun _ => 0))), (q2, .inl (cA, 41, .inl (fun _ => 0))), (q3, .inl (cA, 41, .inl (fun _ => 0))), (q4, .inl (cA, 41, .inl (fun _ => 0)))] H := hP
  have hD : va_D Av [(h0, .inr (2, [.ref (u 2), .ref q1, .ref q2, .ref q3, .null, .null, .int 0])), ((u 2), .inr (1, [.ref (u 8), .ref (u 9), .ref (u 10), .ref (u 11), .ref (u 12)])), ((u 8), .inl (cA, 32, .inl (g0 5))), ((u 9), .inl (cA, 32, .inl (g0 6))), ((u 10), .inl (cA, 4, .inl (g0 7))), ((u 11), .inl (cA, 4, .inl (g0 8))), ((u 12), .inl (cA, 4, .inl (g0 9))), (q1, .inl (cA, 41, .inl (fun _ => 0))), (q2, .inl (cA, 41, .inl (fun _ => 0))), (q3, .inl (cA, 41, .inl (fun _ => 0))), (q4, .inl (cA, 41, .inl (fun _ => 0)))] := hD
  refine va_putF (D := (dC, dI)) (ci := 2) (v := .ref q4) (ty := .array .int) (C := RX1) (T := TX1) (N := 7) hx hb hts miX1_init_X1 tyX1 tyX1_ok nmX1 hown hK hP hD hS 0 rfl rfl 4 (by decide) (hts (.fieldLink RX1 28 "SectionFibres$Section" "births" "[I") mbX1_init_14) (fun _ h9 => h9) rfl hin rfl (by decide +kernel) rfl rfl (Nat.le_of_ble_eq_true rfl) dX1_init_44 (fun H locs hP hD hS => ?_)
  have hP : va_P (dC, dI) vwCl [(h0, .inr (2, [.ref (u 2), .ref q1, .ref q2, .ref q3, .ref q4, .null, .int 0])), ((u 2), .inr (1, [.ref (u 8), .ref (u 9), .ref (u 10), .ref (u 11), .ref (u 12)])), ((u 8), .inl (cA, 32, .inl (g0 5))), ((u 9), .inl (cA, 32, .inl (g0 6))), ((u 10), .inl (cA, 4, .inl (g0 7))), ((u 11), .inl (cA, 4, .inl (g0 8))), ((u 12), .inl (cA, 4, .inl (g0 9))), (q1, .inl (cA, 41, .inl (fun _ => 0))), (q2, .inl (cA, 41, .inl (fun _ => 0))), (q3, .inl (cA, 41, .inl (fun _ => 0))), (q4, .inl (cA, 41, .inl (fun _ => 0)))] H := hP
  have hD : va_D Av [(h0, .inr (2, [.ref (u 2), .ref q1, .ref q2, .ref q3, .ref q4, .null, .int 0])), ((u 2), .inr (1, [.ref (u 8), .ref (u 9), .ref (u 10), .ref (u 11), .ref (u 12)])), ((u 8), .inl (cA, 32, .inl (g0 5))), ((u 9), .inl (cA, 32, .inl (g0 6))), ((u 10), .inl (cA, 4, .inl (g0 7))), ((u 11), .inl (cA, 4, .inl (g0 8))), ((u 12), .inl (cA, 4, .inl (g0 9))), (q1, .inl (cA, 41, .inl (fun _ => 0))), (q2, .inl (cA, 41, .inl (fun _ => 0))), (q3, .inl (cA, 41, .inl (fun _ => 0))), (q4, .inl (cA, 41, .inl (fun _ => 0)))] := hD
  refine lv_aload_n hx hb dX1_init_47 rfl (lv_at hl 0 rfl) ?_
  refine lv_bipush (v := 41) hx hb dX1_init_48 (by decide) ?_
  refine nwi hx hb (hts (.arrayClass .int) mbX1_init_10) hK hP hD hS hA 0 rfl 41 (by decide) (by decide) (by decide) (Nat.le_of_ble_eq_true rfl) (Nat.le_of_ble_eq_true rfl) dX1_init_50 (fun q5 H hP hD hS => ?_)
  have hP : va_P (dC, dI) vwCl [(h0, .inr (2, [.ref (u 2), .ref q1, .ref q2, .ref q3, .ref q4, .null, .int 0])), ((u 2), .inr (1, [.ref (u 8), .ref (u 9), .ref (u 10), .ref (u 11), .ref (u 12)])), ((u 8), .inl (cA, 32, .inl (g0 5))), ((u 9), .inl (cA, 32, .inl (g0 6))), ((u 10), .inl (cA, 4, .inl (g0 7))), ((u 11), .inl (cA, 4, .inl (g0 8))), ((u 12), .inl (cA, 4, .inl (g0 9))), (q1, .inl (cA, 41, .inl (fun _ => 0))), (q2, .inl (cA, 41, .inl (fun _ => 0))), (q3, .inl (cA, 41, .inl (fun _ => 0))), (q4, .inl (cA, 41, .inl (fun _ => 0))), (q5, .inl (cA, 41, .inl (fun _ => 0)))] H := hP
  have hD : va_D Av [(h0, .inr (2, [.ref (u 2), .ref q1, .ref q2, .ref q3, .ref q4, .null, .int 0])), ((u 2), .inr (1, [.ref (u 8), .ref (u 9), .ref (u 10), .ref (u 11), .ref (u 12)])), ((u 8), .inl (cA, 32, .inl (g0 5))), ((u 9), .inl (cA, 32, .inl (g0 6))), ((u 10), .inl (cA, 4, .inl (g0 7))), ((u 11), .inl (cA, 4, .inl (g0 8))), ((u 12), .inl (cA, 4, .inl (g0 9))), (q1, .inl (cA, 41, .inl (fun _ => 0))), (q2, .inl (cA, 41, .inl (fun _ => 0))), (q3, .inl (cA, 41, .inl (fun _ => 0))), (q4, .inl (cA, 41, .inl (fun _ => 0))), (q5, .inl (cA, 41, .inl (fun _ => 0)))] := hD
  refine va_putF (D := (dC, dI)) (ci := 2) (v := .ref q5) (ty := .array .int) (C := RX1) (T := TX1) (N := 7) hx hb hts miX1_init_X1 tyX1 tyX1_ok nmX1 hown hK hP hD hS 0 rfl rfl 5 (by decide) (hts (.fieldLink RX1 31 "SectionFibres$Section" "kept" "[I") mbX1_init_15) (fun _ h9 => h9) rfl hin rfl (by decide +kernel) rfl rfl (Nat.le_of_ble_eq_true rfl) dX1_init_52 (fun H locs hP hD hS => ?_)
  have hP : va_P (dC, dI) vwCl [(h0, .inr (2, [.ref (u 2), .ref q1, .ref q2, .ref q3, .ref q4, .ref q5, .int 0])), ((u 2), .inr (1, [.ref (u 8), .ref (u 9), .ref (u 10), .ref (u 11), .ref (u 12)])), ((u 8), .inl (cA, 32, .inl (g0 5))), ((u 9), .inl (cA, 32, .inl (g0 6))), ((u 10), .inl (cA, 4, .inl (g0 7))), ((u 11), .inl (cA, 4, .inl (g0 8))), ((u 12), .inl (cA, 4, .inl (g0 9))), (q1, .inl (cA, 41, .inl (fun _ => 0))), (q2, .inl (cA, 41, .inl (fun _ => 0))), (q3, .inl (cA, 41, .inl (fun _ => 0))), (q4, .inl (cA, 41, .inl (fun _ => 0))), (q5, .inl (cA, 41, .inl (fun _ => 0)))] H := hP
  have hD : va_D Av [(h0, .inr (2, [.ref (u 2), .ref q1, .ref q2, .ref q3, .ref q4, .ref q5, .int 0])), ((u 2), .inr (1, [.ref (u 8), .ref (u 9), .ref (u 10), .ref (u 11), .ref (u 12)])), ((u 8), .inl (cA, 32, .inl (g0 5))), ((u 9), .inl (cA, 32, .inl (g0 6))), ((u 10), .inl (cA, 4, .inl (g0 7))), ((u 11), .inl (cA, 4, .inl (g0 8))), ((u 12), .inl (cA, 4, .inl (g0 9))), (q1, .inl (cA, 41, .inl (fun _ => 0))), (q2, .inl (cA, 41, .inl (fun _ => 0))), (q3, .inl (cA, 41, .inl (fun _ => 0))), (q4, .inl (cA, 41, .inl (fun _ => 0))), (q5, .inl (cA, 41, .inl (fun _ => 0)))] := hD
  have hP9 : va_P (dC, dI) vwCl (wS cA (fun k : Nat => if k = 1 then h0 else if k = 3 then q1 else if k = 4 then q2 else if k = 5 then q3 else if k = 6 then q4 else if k = 7 then q5 else u k) g0 0) H := hP.sub [0, 1, 7, 8, 9, 10, 11, 2, 3, 4, 5, 6] rfl
  have hD9 : va_D Av (wS cA (fun k : Nat => if k = 1 then h0 else if k = 3 then q1 else if k = 4 then q2 else if k = 5 then q3 else if k = 6 then q4 else if k = 7 then q5 else u k) g0 0) := hD.sub [0, 1, 7, 8, 9, 10, 11, 2, 3, 4, 5, 6] (by decide) rfl
  refine W.widen (k := 11) (n := 286) (by omega) (by omega) ?_
  exact W.vret hx hb hr (fun t9 ht9 hW9 => ⟨⟨(fun k : Nat => if k = 1 then h0 else if k = 3 then q1 else if k = 4 then q2 else if k = 5 then q3 else if k = 6 then q4 else if k = 7 then q5 else u k), rfl, rfl, by dsimp only; rw [ht9]; exact ⟨hP9, hD9⟩⟩, hS.F ht9⟩) hS.2.2 dX1_init_55

set_option maxRecDepth 20000 in
theorem mbX2_init_0 : (.methodLink RX2 1 objectInit : Cond) ∈ wsX2_init := by decide +kernel
set_option maxRecDepth 20000 in
theorem mbX2_init_1 : (.instanceMethod objectInit : Cond) ∈ wsX2_init := by decide +kernel
set_option maxRecDepth 20000 in
theorem mbX2_init_2 : (.code objectInit ⟨#[0xb1]⟩ 1 none : Cond) ∈ wsX2_init := by decide +kernel
set_option maxRecDepth 20000 in
theorem miX2_init_X1 : ∀ w ∈ u_ws RX1 TX1 7, w ∈ wsX2_init := by decide +kernel
set_option maxRecDepth 20000 in
theorem mbX2_init_4 : (.classLink RX2 7 RX1 : Cond) ∈ wsX2_init := by decide +kernel
set_option maxRecDepth 20000 in
theorem mbX2_init_5 : (.instantiable RX1 7 : Cond) ∈ wsX2_init := by decide +kernel
set_option maxRecDepth 20000 in
theorem mbX2_init_6 : (.initialized RX1 : Cond) ∈ wsX2_init := by decide +kernel
set_option maxRecDepth 20000 in
theorem mbX2_init_7 : (.instanceMethod yX1_init : Cond) ∈ wsX2_init := by decide +kernel
set_option maxRecDepth 20000 in
theorem miX2_init_X2 : ∀ w ∈ u_ws RX2 TX2 6, w ∈ wsX2_init := by decide +kernel
set_option maxRecDepth 20000 in
theorem mbX2_init_9 : (.fieldLink RX2 10 "SectionFibres" "section" "LSectionFibres$Section;" : Cond) ∈ wsX2_init := by decide +kernel
set_option maxHeartbeats 4000000 in
set_option maxRecDepth 100000 in
theorem c_X2_init (l : Launch) (dC : Nat → ClassId) (dI : Nat → Nat → Nat) (cA : ClassId) (H : Heap) (h0 : Nat) (hP : va_P (dC, dI) vwCl [(h0, .inr (3, [.null, .int 0, .int 0, .int 0, .long 0, .long 0]))] H) (hD : va_D (fun _ => True) [(h0, .inr (3, [.null, .int 0, .int 0, .int 0, .long 0, .long 0]))]) : Met l yX2_init wsX2_init ({ frames := 3, cells := 12, slots := 293, locals := 52 }) (rd_P [.ref h0] H (dC, dI) vwCl [(cA, .int)]) (va_Qv (fun (u : Nat → Nat) => u 0 = h0) (fun u t => va_P (dC, dI) vwCl (wC cA u g0 0 0 0 0 0 0) t.heap ∧ va_D (va_A [(h0, .inr (3, [.null, .int 0, .int 0, .int 0, .long 0, .long 0]))] H.size) (wC cA u g0 0 0 0 0 0 0)) (va_A [(h0, .inr (3, [.null, .int 0, .int 0, .int 0, .long 0, .long 0]))] H.size)) 12 293 (va_A [(h0, .inr (3, [.null, .int 0, .int 0, .int 0, .long 0, .long 0]))] H.size) := by
  refine Met.ofW (cc := cX2_init) (maxL := 1) (ret := none) (by decide) rfl ?_
  intro p e s m args below meth c s₁ B hml hv
  obtain ⟨rfl, hH, hK, hN⟩ := hv
  subst hH
  have hx := B.exec
  have hb := B.bytes
  have hr := B.returns
  have hts := atoms_spec (ws := wsX2_init) B.pre
  have hown : s.vm.findClass RX2 = some m.cls := findClass_of_methodNamed B.named
  have hlocks := B.notSynchronized
  have hin : meth.name = "<init>" := (name_of_methodNamed B.named B.method).1
  have hD := hD.self (sz := s.heap.size)
  generalize hAe : va_A [(h0, .inr (3, [.null, .int 0, .int 0, .int 0, .long 0, .long 0]))] s.heap.size = Av at hD ⊢
  have hA : ∀ q : Nat, s.heap.size ≤ q → Av q := fun q h => by rw [← hAe]; exact Or.inr h
  have hS : va_S Av s.heap s.heap [] := va_S.rf
  have hl := lv_entry ([.ref h0]) (n := 1) (Nat.le_of_ble_eq_true rfl)
  rw [lg_entry_eq]
  generalize (lg_sl ([.ref h0]) ++ List.replicate (1 - (lg_sl ([.ref h0])).length) Slot.unset).toArray = ls at hl ⊢
  have hl : lv_has ls 1 [(0, .ref h0)] := hl
  refine lv_aload_n hx hb dX2_init_0 rfl (lv_at hl 0 rfl) ?_
  refine W.objInit hx hb hown (hts (.methodLink RX2 1 objectInit) mbX2_init_0) (hts (.instanceMethod objectInit) mbX2_init_1) (hts (.code objectInit ⟨#[0xb1]⟩ 1 none) mbX2_init_2) rfl (by rw [hml]; exact hl.1) rfl dX2_init_1 (Nat.le_of_ble_eq_true rfl) (Nat.le_of_ble_eq_true rfl) ?_
  refine W.eq (g2 := F0 m 4 ls []) rfl ?_
  refine lv_aload_n hx hb dX2_init_4 rfl (lv_at hl 0 rfl) ?_
  refine va_new (ci := 2) (fs := [.null, .null, .null, .null, .null, .null, .int 0]) (C := RX1) (T := TX1) (N := 7) hx hb hts miX2_init_X1 tyX1 tyX1_ok hown (hts (.classLink RX2 7 RX1) mbX2_init_4) (hts (.instantiable RX1 7) mbX2_init_5) (hts (.initialized RX1) mbX2_init_6) hK hP hD hS hA rfl (fun j hj => by rcases (show j = 0 ∨ j = 1 ∨ j = 2 ∨ j = 3 ∨ j = 4 ∨ j = 5 ∨ j = 6 by omega) with rfl | rfl | rfl | rfl | rfl | rfl | rfl <;> rfl) (Nat.le_of_ble_eq_true rfl) (Nat.le_of_ble_eq_true rfl) dX2_init_5 (fun q0 H hP hD hS => ?_)
  have hP : va_P (dC, dI) vwCl [(h0, .inr (3, [.null, .int 0, .int 0, .int 0, .long 0, .long 0])), (q0, .inr (2, [.null, .null, .null, .null, .null, .null, .int 0]))] H := hP
  have hD : va_D Av [(h0, .inr (3, [.null, .int 0, .int 0, .int 0, .long 0, .long 0])), (q0, .inr (2, [.null, .null, .null, .null, .null, .null, .int 0]))] := hD
  refine lv_dup hx hb dX2_init_8 rfl ?_
  have hPc := hP.sub (ws' := [(q0, .inr (2, [.null, .null, .null, .null, .null, .null, .int 0]))]) [1] rfl
  have hDc := hD.sub (ws' := [(q0, .inr (2, [.null, .null, .null, .null, .null, .null, .int 0]))]) [1] (by decide) rfl
  have hFc := va_free (wc := [(q0, .inr (2, [.null, .null, .null, .null, .null, .null, .int 0]))]) hD hS hA [1] rfl
  refine va_callv (va_runIN (As := []) (rest := [.ref q0, .ref h0]) ⟨hx, hb, hml, hown, hts⟩ (c_X1_init l dC dI cA H q0 hPc (hDc.weaken (fun _ _ _ _ => trivial))) ⟨va_cnB 0 hts gX2_init_X1_init_n9 rfl rfl rfl (hN (.methodLinkNest RX2 9 yX1_init "SectionFibres") (List.mem_of_getElem? (i := 0) rfl)) (hts (.initialized RX1) mbX2_init_6) (by decide +kernel) ⟨Nat.le_of_ble_eq_true rfl, Nat.le_of_ble_eq_true rfl⟩, rfl, hts (.instanceMethod yX1_init) mbX2_init_7⟩ ⟨rd_bl, rd_pre hK hN⟩ rfl rfl hl.1 rfl (lv_room (Nat.le_of_ble_eq_true rfl)) dX2_init_9 ⟨Nat.le_of_ble_eq_true rfl, Nat.le_of_ble_eq_true rfl⟩) hS (fun q9 _ h => hFc q9 h) hFc (fun u t H1 locs ht hvm hw hB hz1 hk1 hS => ?_)
  obtain ⟨hP1, hD1⟩ := hB
  rw [ht] at hP1
  obtain ⟨hP, hD⟩ := va_join (wr := [(h0, .inr (3, [.null, .int 0, .int 0, .int 0, .long 0, .long 0]))]) (w1 := (wS cA u g0 0)) hP hD [1] [0] rfl rfl (by decide) (by decide) hk1 hFc hP1 hD1
  generalize H1 = H at hP hS ⊢
  have hP : va_P (dC, dI) vwCl [(h0, .inr (3, [.null, .int 0, .int 0, .int 0, .long 0, .long 0])), ((u 1), .inr (2, [.ref (u 2), .ref (u 3), .ref (u 4), .ref (u 5), .ref (u 6), .ref (u 7), .int (nI 0)])), ((u 2), .inr (1, [.ref (u 8), .ref (u 9), .ref (u 10), .ref (u 11), .ref (u 12)])), ((u 3), .inl (cA, 41, .inl (g0 0))), ((u 4), .inl (cA, 41, .inl (g0 1))), ((u 5), .inl (cA, 41, .inl (g0 2))), ((u 6), .inl (cA, 41, .inl (g0 3))), ((u 7), .inl (cA, 41, .inl (g0 4))), ((u 8), .inl (cA, 32, .inl (g0 5))), ((u 9), .inl (cA, 32, .inl (g0 6))), ((u 10), .inl (cA, 4, .inl (g0 7))), ((u 11), .inl (cA, 4, .inl (g0 8))), ((u 12), .inl (cA, 4, .inl (g0 9)))] H := hP
  have hD : va_D Av [(h0, .inr (3, [.null, .int 0, .int 0, .int 0, .long 0, .long 0])), ((u 1), .inr (2, [.ref (u 2), .ref (u 3), .ref (u 4), .ref (u 5), .ref (u 6), .ref (u 7), .int (nI 0)])), ((u 2), .inr (1, [.ref (u 8), .ref (u 9), .ref (u 10), .ref (u 11), .ref (u 12)])), ((u 3), .inl (cA, 41, .inl (g0 0))), ((u 4), .inl (cA, 41, .inl (g0 1))), ((u 5), .inl (cA, 41, .inl (g0 2))), ((u 6), .inl (cA, 41, .inl (g0 3))), ((u 7), .inl (cA, 41, .inl (g0 4))), ((u 8), .inl (cA, 32, .inl (g0 5))), ((u 9), .inl (cA, 32, .inl (g0 6))), ((u 10), .inl (cA, 4, .inl (g0 7))), ((u 11), .inl (cA, 4, .inl (g0 8))), ((u 12), .inl (cA, 4, .inl (g0 9)))] := hD
  have hw : u 1 = q0 := hw
  refine W.eq (g2 := F0 m 12 ls [.ref (u 1), .ref h0]) (by rw [hw]) ?_
  refine va_putF (D := (dC, dI)) (ci := 3) (v := .ref (u 1)) (ty := .object "SectionFibres$Section") (C := RX2) (T := TX2) (N := 6) hx hb hts miX2_init_X2 tyX2 tyX2_ok nmX2 hown hK hP hD hS 0 rfl rfl 0 (by decide) (hts (.fieldLink RX2 10 "SectionFibres" "section" "LSectionFibres$Section;") mbX2_init_9) (fun _ h9 => h9) rfl hin rfl (by decide +kernel) rfl rfl (Nat.le_of_ble_eq_true rfl) dX2_init_12 (fun H locs hP hD hS => ?_)
  have hP : va_P (dC, dI) vwCl [(h0, .inr (3, [.ref (u 1), .int 0, .int 0, .int 0, .long 0, .long 0])), ((u 1), .inr (2, [.ref (u 2), .ref (u 3), .ref (u 4), .ref (u 5), .ref (u 6), .ref (u 7), .int (nI 0)])), ((u 2), .inr (1, [.ref (u 8), .ref (u 9), .ref (u 10), .ref (u 11), .ref (u 12)])), ((u 3), .inl (cA, 41, .inl (g0 0))), ((u 4), .inl (cA, 41, .inl (g0 1))), ((u 5), .inl (cA, 41, .inl (g0 2))), ((u 6), .inl (cA, 41, .inl (g0 3))), ((u 7), .inl (cA, 41, .inl (g0 4))), ((u 8), .inl (cA, 32, .inl (g0 5))), ((u 9), .inl (cA, 32, .inl (g0 6))), ((u 10), .inl (cA, 4, .inl (g0 7))), ((u 11), .inl (cA, 4, .inl (g0 8))), ((u 12), .inl (cA, 4, .inl (g0 9)))] H := hP
  have hD : va_D Av [(h0, .inr (3, [.ref (u 1), .int 0, .int 0, .int 0, .long 0, .long 0])), ((u 1), .inr (2, [.ref (u 2), .ref (u 3), .ref (u 4), .ref (u 5), .ref (u 6), .ref (u 7), .int (nI 0)])), ((u 2), .inr (1, [.ref (u 8), .ref (u 9), .ref (u 10), .ref (u 11), .ref (u 12)])), ((u 3), .inl (cA, 41, .inl (g0 0))), ((u 4), .inl (cA, 41, .inl (g0 1))), ((u 5), .inl (cA, 41, .inl (g0 2))), ((u 6), .inl (cA, 41, .inl (g0 3))), ((u 7), .inl (cA, 41, .inl (g0 4))), ((u 8), .inl (cA, 32, .inl (g0 5))), ((u 9), .inl (cA, 32, .inl (g0 6))), ((u 10), .inl (cA, 4, .inl (g0 7))), ((u 11), .inl (cA, 4, .inl (g0 8))), ((u 12), .inl (cA, 4, .inl (g0 9)))] := hD
  have hP9 : va_P (dC, dI) vwCl (wC cA (fun k : Nat => if k = 0 then h0 else u k) g0 0 0 0 0 0 0) H := hP.sub [0, 1, 2, 3, 4, 5, 6, 7, 8, 9, 10, 11, 12] rfl
  have hD9 : va_D Av (wC cA (fun k : Nat => if k = 0 then h0 else u k) g0 0 0 0 0 0 0) := hD.sub [0, 1, 2, 3, 4, 5, 6, 7, 8, 9, 10, 11, 12] (by decide) rfl
  refine W.widen (k := 12) (n := 293) (by omega) (by omega) ?_
  exact W.vret hx hb hr (fun t9 ht9 hW9 => ⟨⟨(fun k : Nat => if k = 0 then h0 else u k), rfl, rfl, by dsimp only; rw [ht9]; exact ⟨hP9, hD9⟩⟩, hS.F ht9⟩) hS.2.2 dX2_init_15

set_option maxRecDepth 20000 in
theorem mbX3_init_0 : (.methodLink RX3 1 objectInit : Cond) ∈ wsX3_init := by decide +kernel
set_option maxRecDepth 20000 in
theorem mbX3_init_1 : (.instanceMethod objectInit : Cond) ∈ wsX3_init := by decide +kernel
set_option maxRecDepth 20000 in
theorem mbX3_init_2 : (.code objectInit ⟨#[0xb1]⟩ 1 none : Cond) ∈ wsX3_init := by decide +kernel
set_option maxRecDepth 20000 in
theorem mbX3_init_3 : (.arrayClass .int : Cond) ∈ wsX3_init := by decide +kernel
set_option maxRecDepth 20000 in
theorem miX3_init_X3 : ∀ w ∈ u_ws RX3 TX3 19, w ∈ wsX3_init := by decide +kernel
set_option maxRecDepth 20000 in
theorem mbX3_init_5 : (.fieldLink RX3 7 "SectionFibresModel" "areas" "[I" : Cond) ∈ wsX3_init := by decide +kernel
set_option maxRecDepth 20000 in
theorem mbX3_init_6 : (.fieldLink RX3 13 "SectionFibresModel" "places" "[I" : Cond) ∈ wsX3_init := by decide +kernel
set_option maxRecDepth 20000 in
theorem mbX3_init_7 : (.fieldLink RX3 16 "SectionFibresModel" "kinds" "[I" : Cond) ∈ wsX3_init := by decide +kernel
set_option maxRecDepth 20000 in
theorem mbX3_init_8 : (.fieldLink RX3 19 "SectionFibresModel" "borns" "[I" : Cond) ∈ wsX3_init := by decide +kernel
set_option maxRecDepth 20000 in
theorem mbX3_init_9 : (.fieldLink RX3 22 "SectionFibresModel" "kept" "[I" : Cond) ∈ wsX3_init := by decide +kernel
set_option maxRecDepth 20000 in
theorem mbX3_init_10 : (.fieldLink RX3 25 "SectionFibresModel" "points" "[I" : Cond) ∈ wsX3_init := by decide +kernel
set_option maxRecDepth 20000 in
theorem mbX3_init_11 : (.fieldLink RX3 28 "SectionFibresModel" "strains" "[I" : Cond) ∈ wsX3_init := by decide +kernel
set_option maxRecDepth 20000 in
theorem mbX3_init_12 : (.fieldLink RX3 31 "SectionFibresModel" "stresses" "[I" : Cond) ∈ wsX3_init := by decide +kernel
set_option maxRecDepth 20000 in
theorem mbX3_init_13 : (.fieldLink RX3 34 "SectionFibresModel" "creep" "[I" : Cond) ∈ wsX3_init := by decide +kernel
set_option maxRecDepth 20000 in
theorem mbX3_init_14 : (.fieldLink RX3 37 "SectionFibresModel" "shrunk" "[I" : Cond) ∈ wsX3_init := by decide +kernel
set_option maxHeartbeats 4000000 in
set_option maxRecDepth 100000 in
theorem c_X3_init (l : Launch) (dC : Nat → ClassId) (dI : Nat → Nat → Nat) (cA : ClassId) (H : Heap) (h0 : Nat) (hP : va_P (dC, dI) vwCl [(h0, .inr (4, [.int 0, .int 0, .null, .null, .null, .null, .null, .null, .null, .null, .null, .null, .int 0, .int 0, .int 0, .long 0, .long 0, .int 0, .int 0]))] H) (hD : va_D (fun _ => True) [(h0, .inr (4, [.int 0, .int 0, .null, .null, .null, .null, .null, .null, .null, .null, .null, .null, .int 0, .int 0, .int 0, .long 0, .long 0, .int 0, .int 0]))]) : Met l yX3_init wsX3_init ({ frames := 1, cells := 10, slots := 281, locals := 12 }) (rd_P [.ref h0] H (dC, dI) vwCl [(cA, .int)]) (va_Qv (fun (u : Nat → Nat) => u 0 = h0) (fun u t => va_P (dC, dI) vwCl (wR cA u g0 0 0 0 0 0 0 0 0 0) t.heap ∧ va_D (va_A [(h0, .inr (4, [.int 0, .int 0, .null, .null, .null, .null, .null, .null, .null, .null, .null, .null, .int 0, .int 0, .int 0, .long 0, .long 0, .int 0, .int 0]))] H.size) (wR cA u g0 0 0 0 0 0 0 0 0 0)) (va_A [(h0, .inr (4, [.int 0, .int 0, .null, .null, .null, .null, .null, .null, .null, .null, .null, .null, .int 0, .int 0, .int 0, .long 0, .long 0, .int 0, .int 0]))] H.size)) 10 281 (va_A [(h0, .inr (4, [.int 0, .int 0, .null, .null, .null, .null, .null, .null, .null, .null, .null, .null, .int 0, .int 0, .int 0, .long 0, .long 0, .int 0, .int 0]))] H.size) := by
  refine Met.ofW (cc := cX3_init) (maxL := 1) (ret := none) (by decide) rfl ?_
  intro p e s m args below meth c s₁ B hml hv
  obtain ⟨rfl, hH, hK, hN⟩ := hv
  subst hH
  have hx := B.exec
  have hb := B.bytes
  have hr := B.returns
  have hts := atoms_spec (ws := wsX3_init) B.pre
  have hown : s.vm.findClass RX3 = some m.cls := findClass_of_methodNamed B.named
  have hlocks := B.notSynchronized
  have hin : meth.name = "<init>" := (name_of_methodNamed B.named B.method).1
  have hD := hD.self (sz := s.heap.size)
  generalize hAe : va_A [(h0, .inr (4, [.int 0, .int 0, .null, .null, .null, .null, .null, .null, .null, .null, .null, .null, .int 0, .int 0, .int 0, .long 0, .long 0, .int 0, .int 0]))] s.heap.size = Av at hD ⊢
  have hA : ∀ q : Nat, s.heap.size ≤ q → Av q := fun q h => by rw [← hAe]; exact Or.inr h
  have hS : va_S Av s.heap s.heap [] := va_S.rf
  have hl := lv_entry ([.ref h0]) (n := 1) (Nat.le_of_ble_eq_true rfl)
  rw [lg_entry_eq]
  generalize (lg_sl ([.ref h0]) ++ List.replicate (1 - (lg_sl ([.ref h0])).length) Slot.unset).toArray = ls at hl ⊢
  have hl : lv_has ls 1 [(0, .ref h0)] := hl
  refine lv_aload_n hx hb dX3_init_0 rfl (lv_at hl 0 rfl) ?_
  refine W.objInit hx hb hown (hts (.methodLink RX3 1 objectInit) mbX3_init_0) (hts (.instanceMethod objectInit) mbX3_init_1) (hts (.code objectInit ⟨#[0xb1]⟩ 1 none) mbX3_init_2) rfl (by rw [hml]; exact hl.1) rfl dX3_init_1 (Nat.le_of_ble_eq_true rfl) (Nat.le_of_ble_eq_true rfl) ?_
  refine W.eq (g2 := F0 m 4 ls []) rfl ?_
  refine lv_aload_n hx hb dX3_init_4 rfl (lv_at hl 0 rfl) ?_
  refine lv_bipush (v := 41) hx hb dX3_init_5 (by decide) ?_
  refine nwi hx hb (hts (.arrayClass .int) mbX3_init_3) hK hP hD hS hA 0 rfl 41 (by decide) (by decide) (by decide) (Nat.le_of_ble_eq_true rfl) (Nat.le_of_ble_eq_true rfl) dX3_init_7 (fun q1 H hP hD hS => ?_)
  have hP : va_P (dC, dI) vwCl [(h0, .inr (4, [.int 0, .int 0, .null, .null, .null, .null, .null, .null, .null, .null, .null, .null, .int 0, .int 0, .int 0, .long 0, .long 0, .int 0, .int 0])), (q1, .inl (cA, 41, .inl (fun _ => 0)))] H := hP
  have hD : va_D Av [(h0, .inr (4, [.int 0, .int 0, .null, .null, .null, .null, .null, .null, .null, .null, .null, .null, .int 0, .int 0, .int 0, .long 0, .long 0, .int 0, .int 0])), (q1, .inl (cA, 41, .inl (fun _ => 0)))] := hD
  refine va_putF (D := (dC, dI)) (ci := 4) (v := .ref q1) (ty := .array .int) (C := RX3) (T := TX3) (N := 19) hx hb hts miX3_init_X3 tyX3 tyX3_ok nmX3 hown hK hP hD hS 0 rfl rfl 2 (by decide) (hts (.fieldLink RX3 7 "SectionFibresModel" "areas" "[I") mbX3_init_5) (fun _ h9 => h9) rfl hin rfl (by decide +kernel) rfl rfl (Nat.le_of_ble_eq_true rfl) dX3_init_9 (fun H locs hP hD hS => ?_)
  have hP : va_P (dC, dI) vwCl [(h0, .inr (4, [.int 0, .int 0, .ref q1, .null, .null, .null, .null, .null, .null, .null, .null, .null, .int 0, .int 0, .int 0, .long 0, .long 0, .int 0, .int 0])), (q1, .inl (cA, 41, .inl (fun _ => 0)))] H := hP
  have hD : va_D Av [(h0, .inr (4, [.int 0, .int 0, .ref q1, .null, .null, .null, .null, .null, .null, .null, .null, .null, .int 0, .int 0, .int 0, .long 0, .long 0, .int 0, .int 0])), (q1, .inl (cA, 41, .inl (fun _ => 0)))] := hD
  refine lv_aload_n hx hb dX3_init_12 rfl (lv_at hl 0 rfl) ?_
  refine lv_bipush (v := 41) hx hb dX3_init_13 (by decide) ?_
  refine nwi hx hb (hts (.arrayClass .int) mbX3_init_3) hK hP hD hS hA 0 rfl 41 (by decide) (by decide) (by decide) (Nat.le_of_ble_eq_true rfl) (Nat.le_of_ble_eq_true rfl) dX3_init_15 (fun q2 H hP hD hS => ?_)
  have hP : va_P (dC, dI) vwCl [(h0, .inr (4, [.int 0, .int 0, .ref q1, .null, .null, .null, .null, .null, .null, .null, .null, .null, .int 0, .int 0, .int 0, .long 0, .long 0, .int 0, .int 0])), (q1, .inl (cA, 41, .inl (fun _ => 0))), (q2, .inl (cA, 41, .inl (fun _ => 0)))] H := hP
  have hD : va_D Av [(h0, .inr (4, [.int 0, .int 0, .ref q1, .null, .null, .null, .null, .null, .null, .null, .null, .null, .int 0, .int 0, .int 0, .long 0, .long 0, .int 0, .int 0])), (q1, .inl (cA, 41, .inl (fun _ => 0))), (q2, .inl (cA, 41, .inl (fun _ => 0)))] := hD
  refine va_putF (D := (dC, dI)) (ci := 4) (v := .ref q2) (ty := .array .int) (C := RX3) (T := TX3) (N := 19) hx hb hts miX3_init_X3 tyX3 tyX3_ok nmX3 hown hK hP hD hS 0 rfl rfl 3 (by decide) (hts (.fieldLink RX3 13 "SectionFibresModel" "places" "[I") mbX3_init_6) (fun _ h9 => h9) rfl hin rfl (by decide +kernel) rfl rfl (Nat.le_of_ble_eq_true rfl) dX3_init_17 (fun H locs hP hD hS => ?_)
  have hP : va_P (dC, dI) vwCl [(h0, .inr (4, [.int 0, .int 0, .ref q1, .ref q2, .null, .null, .null, .null, .null, .null, .null, .null, .int 0, .int 0, .int 0, .long 0, .long 0, .int 0, .int 0])), (q1, .inl (cA, 41, .inl (fun _ => 0))), (q2, .inl (cA, 41, .inl (fun _ => 0)))] H := hP
  have hD : va_D Av [(h0, .inr (4, [.int 0, .int 0, .ref q1, .ref q2, .null, .null, .null, .null, .null, .null, .null, .null, .int 0, .int 0, .int 0, .long 0, .long 0, .int 0, .int 0])), (q1, .inl (cA, 41, .inl (fun _ => 0))), (q2, .inl (cA, 41, .inl (fun _ => 0)))] := hD
  refine lv_aload_n hx hb dX3_init_20 rfl (lv_at hl 0 rfl) ?_
  refine lv_bipush (v := 41) hx hb dX3_init_21 (by decide) ?_
  refine nwi hx hb (hts (.arrayClass .int) mbX3_init_3) hK hP hD hS hA 0 rfl 41 (by decide) (by decide) (by decide) (Nat.le_of_ble_eq_true rfl) (Nat.le_of_ble_eq_true rfl) dX3_init_23 (fun q3 H hP hD hS => ?_)
  have hP : va_P (dC, dI) vwCl [(h0, .inr (4, [.int 0, .int 0, .ref q1, .ref q2, .null, .null, .null, .null, .null, .null, .null, .null, .int 0, .int 0, .int 0, .long 0, .long 0, .int 0, .int 0])), (q1, .inl (cA, 41, .inl (fun _ => 0))), (q2, .inl (cA, 41, .inl (fun _ => 0))), (q3, .inl (cA, 41, .inl (fun _ => 0)))] H := hP
  have hD : va_D Av [(h0, .inr (4, [.int 0, .int 0, .ref q1, .ref q2, .null, .null, .null, .null, .null, .null, .null, .null, .int 0, .int 0, .int 0, .long 0, .long 0, .int 0, .int 0])), (q1, .inl (cA, 41, .inl (fun _ => 0))), (q2, .inl (cA, 41, .inl (fun _ => 0))), (q3, .inl (cA, 41, .inl (fun _ => 0)))] := hD
  refine va_putF (D := (dC, dI)) (ci := 4) (v := .ref q3) (ty := .array .int) (C := RX3) (T := TX3) (N := 19) hx hb hts miX3_init_X3 tyX3 tyX3_ok nmX3 hown hK hP hD hS 0 rfl rfl 4 (by decide) (hts (.fieldLink RX3 16 "SectionFibresModel" "kinds" "[I") mbX3_init_7) (fun _ h9 => h9) rfl hin rfl (by decide +kernel) rfl rfl (Nat.le_of_ble_eq_true rfl) dX3_init_25 (fun H locs hP hD hS => ?_)
  have hP : va_P (dC, dI) vwCl [(h0, .inr (4, [.int 0, .int 0, .ref q1, .ref q2, .ref q3, .null, .null, .null, .null, .null, .null, .null, .int 0, .int 0, .int 0, .long 0, .long 0, .int 0, .int 0])), (q1, .inl (cA, 41, .inl (fun _ => 0))), (q2, .inl (cA, 41, .inl (fun _ => 0))), (q3, .inl (cA, 41, .inl (fun _ => 0)))] H := hP
  have hD : va_D Av [(h0, .inr (4, [.int 0, .int 0, .ref q1, .ref q2, .ref q3, .null, .null, .null, .null, .null, .null, .null, .int 0, .int 0, .int 0, .long 0, .long 0, .int 0, .int 0])), (q1, .inl (cA, 41, .inl (fun _ => 0))), (q2, .inl (cA, 41, .inl (fun _ => 0))), (q3, .inl (cA, 41, .inl (fun _ => 0)))] := hD
  refine lv_aload_n hx hb dX3_init_28 rfl (lv_at hl 0 rfl) ?_
  refine lv_bipush (v := 41) hx hb dX3_init_29 (by decide) ?_
  refine nwi hx hb (hts (.arrayClass .int) mbX3_init_3) hK hP hD hS hA 0 rfl 41 (by decide) (by decide) (by decide) (Nat.le_of_ble_eq_true rfl) (Nat.le_of_ble_eq_true rfl) dX3_init_31 (fun q4 H hP hD hS => ?_)
  have hP : va_P (dC, dI) vwCl [(h0, .inr (4, [.int 0, .int 0, .ref q1, .ref q2, .ref q3, .null, .null, .null, .null, .null, .null, .null, .int 0, .int 0, .int 0, .long 0, .long 0, .int 0, .int 0])), (q1, .inl (cA, 41, .inl (fun _ => 0))), (q2, .inl (cA, 41, .inl (fun _ => 0))), (q3, .inl (cA, 41, .inl (fun _ => 0))), (q4, .inl (cA, 41, .inl (fun _ => 0)))] H := hP
  have hD : va_D Av [(h0, .inr (4, [.int 0, .int 0, .ref q1, .ref q2, .ref q3, .null, .null, .null, .null, .null, .null, .null, .int 0, .int 0, .int 0, .long 0, .long 0, .int 0, .int 0])), (q1, .inl (cA, 41, .inl (fun _ => 0))), (q2, .inl (cA, 41, .inl (fun _ => 0))), (q3, .inl (cA, 41, .inl (fun _ => 0))), (q4, .inl (cA, 41, .inl (fun _ => 0)))] := hD
  refine va_putF (D := (dC, dI)) (ci := 4) (v := .ref q4) (ty := .array .int) (C := RX3) (T := TX3) (N := 19) hx hb hts miX3_init_X3 tyX3 tyX3_ok nmX3 hown hK hP hD hS 0 rfl rfl 5 (by decide) (hts (.fieldLink RX3 19 "SectionFibresModel" "borns" "[I") mbX3_init_8) (fun _ h9 => h9) rfl hin rfl (by decide +kernel) rfl rfl (Nat.le_of_ble_eq_true rfl) dX3_init_33 (fun H locs hP hD hS => ?_)
  have hP : va_P (dC, dI) vwCl [(h0, .inr (4, [.int 0, .int 0, .ref q1, .ref q2, .ref q3, .ref q4, .null, .null, .null, .null, .null, .null, .int 0, .int 0, .int 0, .long 0, .long 0, .int 0, .int 0])), (q1, .inl (cA, 41, .inl (fun _ => 0))), (q2, .inl (cA, 41, .inl (fun _ => 0))), (q3, .inl (cA, 41, .inl (fun _ => 0))), (q4, .inl (cA, 41, .inl (fun _ => 0)))] H := hP
  have hD : va_D Av [(h0, .inr (4, [.int 0, .int 0, .ref q1, .ref q2, .ref q3, .ref q4, .null, .null, .null, .null, .null, .null, .int 0, .int 0, .int 0, .long 0, .long 0, .int 0, .int 0])), (q1, .inl (cA, 41, .inl (fun _ => 0))), (q2, .inl (cA, 41, .inl (fun _ => 0))), (q3, .inl (cA, 41, .inl (fun _ => 0))), (q4, .inl (cA, 41, .inl (fun _ => 0)))] := hD
  refine lv_aload_n hx hb dX3_init_36 rfl (lv_at hl 0 rfl) ?_
  refine lv_bipush (v := 41) hx hb dX3_init_37 (by decide) ?_
  refine nwi hx hb (hts (.arrayClass .int) mbX3_init_3) hK hP hD hS hA 0 rfl 41 (by decide) (by decide) (by decide) (Nat.le_of_ble_eq_true rfl) (Nat.le_of_ble_eq_true rfl) dX3_init_39 (fun q5 H hP hD hS => ?_)
  have hP : va_P (dC, dI) vwCl [(h0, .inr (4, [.int 0, .int 0, .ref q1, .ref q2, .ref q3, .ref q4, .null, .null, .null, .null, .null, .null, .int 0, .int 0, .int 0, .long 0, .long 0, .int 0, .int 0])), (q1, .inl (cA, 41, .inl (fun _ => 0))), (q2, .inl (cA, 41, .inl (fun _ => 0))), (q3, .inl (cA, 41, .inl (fun _ => 0))), (q4, .inl (cA, 41, .inl (fun _ => 0))), (q5, .inl (cA, 41, .inl (fun _ => 0)))] H := hP
  have hD : va_D Av [(h0, .inr (4, [.int 0, .int 0, .ref q1, .ref q2, .ref q3, .ref q4, .null, .null, .null, .null, .null, .null, .int 0, .int 0, .int 0, .long 0, .long 0, .int 0, .int 0])), (q1, .inl (cA, 41, .inl (fun _ => 0))), (q2, .inl (cA, 41, .inl (fun _ => 0))), (q3, .inl (cA, 41, .inl (fun _ => 0))), (q4, .inl (cA, 41, .inl (fun _ => 0))), (q5, .inl (cA, 41, .inl (fun _ => 0)))] := hD
  refine va_putF (D := (dC, dI)) (ci := 4) (v := .ref q5) (ty := .array .int) (C := RX3) (T := TX3) (N := 19) hx hb hts miX3_init_X3 tyX3 tyX3_ok nmX3 hown hK hP hD hS 0 rfl rfl 6 (by decide) (hts (.fieldLink RX3 22 "SectionFibresModel" "kept" "[I") mbX3_init_9) (fun _ h9 => h9) rfl hin rfl (by decide +kernel) rfl rfl (Nat.le_of_ble_eq_true rfl) dX3_init_41 (fun H locs hP hD hS => ?_)
  have hP : va_P (dC, dI) vwCl [(h0, .inr (4, [.int 0, .int 0, .ref q1, .ref q2, .ref q3, .ref q4, .ref q5, .null, .null, .null, .null, .null, .int 0, .int 0, .int 0, .long 0, .long 0, .int 0, .int 0])), (q1, .inl (cA, 41, .inl (fun _ => 0))), (q2, .inl (cA, 41, .inl (fun _ => 0))), (q3, .inl (cA, 41, .inl (fun _ => 0))), (q4, .inl (cA, 41, .inl (fun _ => 0))), (q5, .inl (cA, 41, .inl (fun _ => 0)))] H := hP
  have hD : va_D Av [(h0, .inr (4, [.int 0, .int 0, .ref q1, .ref q2, .ref q3, .ref q4, .ref q5, .null, .null, .null, .null, .null, .int 0, .int 0, .int 0, .long 0, .long 0, .int 0, .int 0])), (q1, .inl (cA, 41, .inl (fun _ => 0))), (q2, .inl (cA, 41, .inl (fun _ => 0))), (q3, .inl (cA, 41, .inl (fun _ => 0))), (q4, .inl (cA, 41, .inl (fun _ => 0))), (q5, .inl (cA, 41, .inl (fun _ => 0)))] := hD
  refine lv_aload_n hx hb dX3_init_44 rfl (lv_at hl 0 rfl) ?_
  refine lv_iconst (v := 4) hx hb dX3_init_45 (by decide) ?_
  refine nwi hx hb (hts (.arrayClass .int) mbX3_init_3) hK hP hD hS hA 0 rfl 4 (by decide) (by decide) (by decide) (Nat.le_of_ble_eq_true rfl) (Nat.le_of_ble_eq_true rfl) dX3_init_46 (fun q6 H hP hD hS => ?_)
  have hP : va_P (dC, dI) vwCl [(h0, .inr (4, [.int 0, .int 0, .ref q1, .ref q2, .ref q3, .ref q4, .ref q5, .null, .null, .null, .null, .null, .int 0, .int 0, .int 0, .long 0, .long 0, .int 0, .int 0])), (q1, .inl (cA, 41, .inl (fun _ => 0))), (q2, .inl (cA, 41, .inl (fun _ => 0))), (q3, .inl (cA, 41, .inl (fun _ => 0))), (q4, .inl (cA, 41, .inl (fun _ => 0))), (q5, .inl (cA, 41, .inl (fun _ => 0))), (q6, .inl (cA, 4, .inl (fun _ => 0)))] H := hP
  have hD : va_D Av [(h0, .inr (4, [.int 0, .int 0, .ref q1, .ref q2, .ref q3, .ref q4, .ref q5, .null, .null, .null, .null, .null, .int 0, .int 0, .int 0, .long 0, .long 0, .int 0, .int 0])), (q1, .inl (cA, 41, .inl (fun _ => 0))), (q2, .inl (cA, 41, .inl (fun _ => 0))), (q3, .inl (cA, 41, .inl (fun _ => 0))), (q4, .inl (cA, 41, .inl (fun _ => 0))), (q5, .inl (cA, 41, .inl (fun _ => 0))), (q6, .inl (cA, 4, .inl (fun _ => 0)))] := hD
  refine va_putF (D := (dC, dI)) (ci := 4) (v := .ref q6) (ty := .array .int) (C := RX3) (T := TX3) (N := 19) hx hb hts miX3_init_X3 tyX3 tyX3_ok nmX3 hown hK hP hD hS 0 rfl rfl 7 (by decide) (hts (.fieldLink RX3 25 "SectionFibresModel" "points" "[I") mbX3_init_10) (fun _ h9 => h9) rfl hin rfl (by decide +kernel) rfl rfl (Nat.le_of_ble_eq_true rfl) dX3_init_48 (fun H locs hP hD hS => ?_)
  have hP : va_P (dC, dI) vwCl [(h0, .inr (4, [.int 0, .int 0, .ref q1, .ref q2, .ref q3, .ref q4, .ref q5, .ref q6, .null, .null, .null, .null, .int 0, .int 0, .int 0, .long 0, .long 0, .int 0, .int 0])), (q1, .inl (cA, 41, .inl (fun _ => 0))), (q2, .inl (cA, 41, .inl (fun _ => 0))), (q3, .inl (cA, 41, .inl (fun _ => 0))), (q4, .inl (cA, 41, .inl (fun _ => 0))), (q5, .inl (cA, 41, .inl (fun _ => 0))), (q6, .inl (cA, 4, .inl (fun _ => 0)))] H := hP
  have hD : va_D Av [(h0, .inr (4, [.int 0, .int 0, .ref q1, .ref q2, .ref q3, .ref q4, .ref q5, .ref q6, .null, .null, .null, .null, .int 0, .int 0, .int 0, .long 0, .long 0, .int 0, .int 0])), (q1, .inl (cA, 41, .inl (fun _ => 0))), (q2, .inl (cA, 41, .inl (fun _ => 0))), (q3, .inl (cA, 41, .inl (fun _ => 0))), (q4, .inl (cA, 41, .inl (fun _ => 0))), (q5, .inl (cA, 41, .inl (fun _ => 0))), (q6, .inl (cA, 4, .inl (fun _ => 0)))] := hD
  refine lv_aload_n hx hb dX3_init_51 rfl (lv_at hl 0 rfl) ?_
  refine lv_bipush (v := 32) hx hb dX3_init_52 (by decide) ?_
  refine nwi hx hb (hts (.arrayClass .int) mbX3_init_3) hK hP hD hS hA 0 rfl 32 (by decide) (by decide) (by decide) (Nat.le_of_ble_eq_true rfl) (Nat.le_of_ble_eq_true rfl) dX3_init_54 (fun q7 H hP hD hS => ?_)
  have hP : va_P (dC, dI) vwCl [(h0, .inr (4, [.int 0, .int 0, .ref q1, .ref q2, .ref q3, .ref q4, .ref q5, .ref q6, .null, .null, .null, .null, .int 0, .int 0, .int 0, .long 0, .long 0, .int 0, .int 0])), (q1, .inl (cA, 41, .inl (fun _ => 0))), (q2, .inl (cA, 41, .inl (fun _ => 0))), (q3, .inl (cA, 41, .inl (fun _ => 0))), (q4, .inl (cA, 41, .inl (fun _ => 0))), (q5, .inl (cA, 41, .inl (fun _ => 0))), (q6, .inl (cA, 4, .inl (fun _ => 0))), (q7, .inl (cA, 32, .inl (fun _ => 0)))] H := hP
  have hD : va_D Av [(h0, .inr (4, [.int 0, .int 0, .ref q1, .ref q2, .ref q3, .ref q4, .ref q5, .ref q6, .null, .null, .null, .null, .int 0, .int 0, .int 0, .long 0, .long 0, .int 0, .int 0])), (q1, .inl (cA, 41, .inl (fun _ => 0))), (q2, .inl (cA, 41, .inl (fun _ => 0))), (q3, .inl (cA, 41, .inl (fun _ => 0))), (q4, .inl (cA, 41, .inl (fun _ => 0))), (q5, .inl (cA, 41, .inl (fun _ => 0))), (q6, .inl (cA, 4, .inl (fun _ => 0))), (q7, .inl (cA, 32, .inl (fun _ => 0)))] := hD
  refine va_putF (D := (dC, dI)) (ci := 4) (v := .ref q7) (ty := .array .int) (C := RX3) (T := TX3) (N := 19) hx hb hts miX3_init_X3 tyX3 tyX3_ok nmX3 hown hK hP hD hS 0 rfl rfl 8 (by decide) (hts (.fieldLink RX3 28 "SectionFibresModel" "strains" "[I") mbX3_init_11) (fun _ h9 => h9) rfl hin rfl (by decide +kernel) rfl rfl (Nat.le_of_ble_eq_true rfl) dX3_init_56 (fun H locs hP hD hS => ?_)
  have hP : va_P (dC, dI) vwCl [(h0, .inr (4, [.int 0, .int 0, .ref q1, .ref q2, .ref q3, .ref q4, .ref q5, .ref q6, .ref q7, .null, .null, .null, .int 0, .int 0, .int 0, .long 0, .long 0, .int 0, .int 0])), (q1, .inl (cA, 41, .inl (fun _ => 0))), (q2, .inl (cA, 41, .inl (fun _ => 0))), (q3, .inl (cA, 41, .inl (fun _ => 0))), (q4, .inl (cA, 41, .inl (fun _ => 0))), (q5, .inl (cA, 41, .inl (fun _ => 0))), (q6, .inl (cA, 4, .inl (fun _ => 0))), (q7, .inl (cA, 32, .inl (fun _ => 0)))] H := hP
  have hD : va_D Av [(h0, .inr (4, [.int 0, .int 0, .ref q1, .ref q2, .ref q3, .ref q4, .ref q5, .ref q6, .ref q7, .null, .null, .null, .int 0, .int 0, .int 0, .long 0, .long 0, .int 0, .int 0])), (q1, .inl (cA, 41, .inl (fun _ => 0))), (q2, .inl (cA, 41, .inl (fun _ => 0))), (q3, .inl (cA, 41, .inl (fun _ => 0))), (q4, .inl (cA, 41, .inl (fun _ => 0))), (q5, .inl (cA, 41, .inl (fun _ => 0))), (q6, .inl (cA, 4, .inl (fun _ => 0))), (q7, .inl (cA, 32, .inl (fun _ => 0)))] := hD
  refine lv_aload_n hx hb dX3_init_59 rfl (lv_at hl 0 rfl) ?_
  refine lv_bipush (v := 32) hx hb dX3_init_60 (by decide) ?_
  refine nwi hx hb (hts (.arrayClass .int) mbX3_init_3) hK hP hD hS hA 0 rfl 32 (by decide) (by decide) (by decide) (Nat.le_of_ble_eq_true rfl) (Nat.le_of_ble_eq_true rfl) dX3_init_62 (fun q8 H hP hD hS => ?_)
  have hP : va_P (dC, dI) vwCl [(h0, .inr (4, [.int 0, .int 0, .ref q1, .ref q2, .ref q3, .ref q4, .ref q5, .ref q6, .ref q7, .null, .null, .null, .int 0, .int 0, .int 0, .long 0, .long 0, .int 0, .int 0])), (q1, .inl (cA, 41, .inl (fun _ => 0))), (q2, .inl (cA, 41, .inl (fun _ => 0))), (q3, .inl (cA, 41, .inl (fun _ => 0))), (q4, .inl (cA, 41, .inl (fun _ => 0))), (q5, .inl (cA, 41, .inl (fun _ => 0))), (q6, .inl (cA, 4, .inl (fun _ => 0))), (q7, .inl (cA, 32, .inl (fun _ => 0))), (q8, .inl (cA, 32, .inl (fun _ => 0)))] H := hP
  have hD : va_D Av [(h0, .inr (4, [.int 0, .int 0, .ref q1, .ref q2, .ref q3, .ref q4, .ref q5, .ref q6, .ref q7, .null, .null, .null, .int 0, .int 0, .int 0, .long 0, .long 0, .int 0, .int 0])), (q1, .inl (cA, 41, .inl (fun _ => 0))), (q2, .inl (cA, 41, .inl (fun _ => 0))), (q3, .inl (cA, 41, .inl (fun _ => 0))), (q4, .inl (cA, 41, .inl (fun _ => 0))), (q5, .inl (cA, 41, .inl (fun _ => 0))), (q6, .inl (cA, 4, .inl (fun _ => 0))), (q7, .inl (cA, 32, .inl (fun _ => 0))), (q8, .inl (cA, 32, .inl (fun _ => 0)))] := hD
  refine va_putF (D := (dC, dI)) (ci := 4) (v := .ref q8) (ty := .array .int) (C := RX3) (T := TX3) (N := 19) hx hb hts miX3_init_X3 tyX3 tyX3_ok nmX3 hown hK hP hD hS 0 rfl rfl 9 (by decide) (hts (.fieldLink RX3 31 "SectionFibresModel" "stresses" "[I") mbX3_init_12) (fun _ h9 => h9) rfl hin rfl (by decide +kernel) rfl rfl (Nat.le_of_ble_eq_true rfl) dX3_init_64 (fun H locs hP hD hS => ?_)
  have hP : va_P (dC, dI) vwCl [(h0, .inr (4, [.int 0, .int 0, .ref q1, .ref q2, .ref q3, .ref q4, .ref q5, .ref q6, .ref q7, .ref q8, .null, .null, .int 0, .int 0, .int 0, .long 0, .long 0, .int 0, .int 0])), (q1, .inl (cA, 41, .inl (fun _ => 0))), (q2, .inl (cA, 41, .inl (fun _ => 0))), (q3, .inl (cA, 41, .inl (fun _ => 0))), (q4, .inl (cA, 41, .inl (fun _ => 0))), (q5, .inl (cA, 41, .inl (fun _ => 0))), (q6, .inl (cA, 4, .inl (fun _ => 0))), (q7, .inl (cA, 32, .inl (fun _ => 0))), (q8, .inl (cA, 32, .inl (fun _ => 0)))] H := hP
  have hD : va_D Av [(h0, .inr (4, [.int 0, .int 0, .ref q1, .ref q2, .ref q3, .ref q4, .ref q5, .ref q6, .ref q7, .ref q8, .null, .null, .int 0, .int 0, .int 0, .long 0, .long 0, .int 0, .int 0])), (q1, .inl (cA, 41, .inl (fun _ => 0))), (q2, .inl (cA, 41, .inl (fun _ => 0))), (q3, .inl (cA, 41, .inl (fun _ => 0))), (q4, .inl (cA, 41, .inl (fun _ => 0))), (q5, .inl (cA, 41, .inl (fun _ => 0))), (q6, .inl (cA, 4, .inl (fun _ => 0))), (q7, .inl (cA, 32, .inl (fun _ => 0))), (q8, .inl (cA, 32, .inl (fun _ => 0)))] := hD
  refine lv_aload_n hx hb dX3_init_67 rfl (lv_at hl 0 rfl) ?_
  refine lv_iconst (v := 4) hx hb dX3_init_68 (by decide) ?_
  refine nwi hx hb (hts (.arrayClass .int) mbX3_init_3) hK hP hD hS hA 0 rfl 4 (by decide) (by decide) (by decide) (Nat.le_of_ble_eq_true rfl) (Nat.le_of_ble_eq_true rfl) dX3_init_69 (fun q9 H hP hD hS => ?_)
  have hP : va_P (dC, dI) vwCl [(h0, .inr (4, [.int 0, .int 0, .ref q1, .ref q2, .ref q3, .ref q4, .ref q5, .ref q6, .ref q7, .ref q8, .null, .null, .int 0, .int 0, .int 0, .long 0, .long 0, .int 0, .int 0])), (q1, .inl (cA, 41, .inl (fun _ => 0))), (q2, .inl (cA, 41, .inl (fun _ => 0))), (q3, .inl (cA, 41, .inl (fun _ => 0))), (q4, .inl (cA, 41, .inl (fun _ => 0))), (q5, .inl (cA, 41, .inl (fun _ => 0))), (q6, .inl (cA, 4, .inl (fun _ => 0))), (q7, .inl (cA, 32, .inl (fun _ => 0))), (q8, .inl (cA, 32, .inl (fun _ => 0))), (q9, .inl (cA, 4, .inl (fun _ => 0)))] H := hP
  have hD : va_D Av [(h0, .inr (4, [.int 0, .int 0, .ref q1, .ref q2, .ref q3, .ref q4, .ref q5, .ref q6, .ref q7, .ref q8, .null, .null, .int 0, .int 0, .int 0, .long 0, .long 0, .int 0, .int 0])), (q1, .inl (cA, 41, .inl (fun _ => 0))), (q2, .inl (cA, 41, .inl (fun _ => 0))), (q3, .inl (cA, 41, .inl (fun _ => 0))), (q4, .inl (cA, 41, .inl (fun _ => 0))), (q5, .inl (cA, 41, .inl (fun _ => 0))), (q6, .inl (cA, 4, .inl (fun _ => 0))), (q7, .inl (cA, 32, .inl (fun _ => 0))), (q8, .inl (cA, 32, .inl (fun _ => 0))), (q9, .inl (cA, 4, .inl (fun _ => 0)))] := hD
  refine va_putF (D := (dC, dI)) (ci := 4) (v := .ref q9) (ty := .array .int) (C := RX3) (T := TX3) (N := 19) hx hb hts miX3_init_X3 tyX3 tyX3_ok nmX3 hown hK hP hD hS 0 rfl rfl 10 (by decide) (hts (.fieldLink RX3 34 "SectionFibresModel" "creep" "[I") mbX3_init_13) (fun _ h9 => h9) rfl hin rfl (by decide +kernel) rfl rfl (Nat.le_of_ble_eq_true rfl) dX3_init_71 (fun H locs hP hD hS => ?_)
  have hP : va_P (dC, dI) vwCl [(h0, .inr (4, [.int 0, .int 0, .ref q1, .ref q2, .ref q3, .ref q4, .ref q5, .ref q6, .ref q7, .ref q8, .ref q9, .null, .int 0, .int 0, .int 0, .long 0, .long 0, .int 0, .int 0])), (q1, .inl (cA, 41, .inl (fun _ => 0))), (q2, .inl (cA, 41, .inl (fun _ => 0))), (q3, .inl (cA, 41, .inl (fun _ => 0))), (q4, .inl (cA, 41, .inl (fun _ => 0))), (q5, .inl (cA, 41, .inl (fun _ => 0))), (q6, .inl (cA, 4, .inl (fun _ => 0))), (q7, .inl (cA, 32, .inl (fun _ => 0))), (q8, .inl (cA, 32, .inl (fun _ => 0))), (q9, .inl (cA, 4, .inl (fun _ => 0)))] H := hP
  have hD : va_D Av [(h0, .inr (4, [.int 0, .int 0, .ref q1, .ref q2, .ref q3, .ref q4, .ref q5, .ref q6, .ref q7, .ref q8, .ref q9, .null, .int 0, .int 0, .int 0, .long 0, .long 0, .int 0, .int 0])), (q1, .inl (cA, 41, .inl (fun _ => 0))), (q2, .inl (cA, 41, .inl (fun _ => 0))), (q3, .inl (cA, 41, .inl (fun _ => 0))), (q4, .inl (cA, 41, .inl (fun _ => 0))), (q5, .inl (cA, 41, .inl (fun _ => 0))), (q6, .inl (cA, 4, .inl (fun _ => 0))), (q7, .inl (cA, 32, .inl (fun _ => 0))), (q8, .inl (cA, 32, .inl (fun _ => 0))), (q9, .inl (cA, 4, .inl (fun _ => 0)))] := hD
  refine lv_aload_n hx hb dX3_init_74 rfl (lv_at hl 0 rfl) ?_
  refine lv_iconst (v := 4) hx hb dX3_init_75 (by decide) ?_
  refine nwi hx hb (hts (.arrayClass .int) mbX3_init_3) hK hP hD hS hA 0 rfl 4 (by decide) (by decide) (by decide) (Nat.le_of_ble_eq_true rfl) (Nat.le_of_ble_eq_true rfl) dX3_init_76 (fun q10 H hP hD hS => ?_)
  have hP : va_P (dC, dI) vwCl [(h0, .inr (4, [.int 0, .int 0, .ref q1, .ref q2, .ref q3, .ref q4, .ref q5, .ref q6, .ref q7, .ref q8, .ref q9, .null, .int 0, .int 0, .int 0, .long 0, .long 0, .int 0, .int 0])), (q1, .inl (cA, 41, .inl (fun _ => 0))), (q2, .inl (cA, 41, .inl (fun _ => 0))), (q3, .inl (cA, 41, .inl (fun _ => 0))), (q4, .inl (cA, 41, .inl (fun _ => 0))), (q5, .inl (cA, 41, .inl (fun _ => 0))), (q6, .inl (cA, 4, .inl (fun _ => 0))), (q7, .inl (cA, 32, .inl (fun _ => 0))), (q8, .inl (cA, 32, .inl (fun _ => 0))), (q9, .inl (cA, 4, .inl (fun _ => 0))), (q10, .inl (cA, 4, .inl (fun _ => 0)))] H := hP
  have hD : va_D Av [(h0, .inr (4, [.int 0, .int 0, .ref q1, .ref q2, .ref q3, .ref q4, .ref q5, .ref q6, .ref q7, .ref q8, .ref q9, .null, .int 0, .int 0, .int 0, .long 0, .long 0, .int 0, .int 0])), (q1, .inl (cA, 41, .inl (fun _ => 0))), (q2, .inl (cA, 41, .inl (fun _ => 0))), (q3, .inl (cA, 41, .inl (fun _ => 0))), (q4, .inl (cA, 41, .inl (fun _ => 0))), (q5, .inl (cA, 41, .inl (fun _ => 0))), (q6, .inl (cA, 4, .inl (fun _ => 0))), (q7, .inl (cA, 32, .inl (fun _ => 0))), (q8, .inl (cA, 32, .inl (fun _ => 0))), (q9, .inl (cA, 4, .inl (fun _ => 0))), (q10, .inl (cA, 4, .inl (fun _ => 0)))] := hD
  refine va_putF (D := (dC, dI)) (ci := 4) (v := .ref q10) (ty := .array .int) (C := RX3) (T := TX3) (N := 19) hx hb hts miX3_init_X3 tyX3 tyX3_ok nmX3 hown hK hP hD hS 0 rfl rfl 11 (by decide) (hts (.fieldLink RX3 37 "SectionFibresModel" "shrunk" "[I") mbX3_init_14) (fun _ h9 => h9) rfl hin rfl (by decide +kernel) rfl rfl (Nat.le_of_ble_eq_true rfl) dX3_init_78 (fun H locs hP hD hS => ?_)
  have hP : va_P (dC, dI) vwCl [(h0, .inr (4, [.int 0, .int 0, .ref q1, .ref q2, .ref q3, .ref q4, .ref q5, .ref q6, .ref q7, .ref q8, .ref q9, .ref q10, .int 0, .int 0, .int 0, .long 0, .long 0, .int 0, .int 0])), (q1, .inl (cA, 41, .inl (fun _ => 0))), (q2, .inl (cA, 41, .inl (fun _ => 0))), (q3, .inl (cA, 41, .inl (fun _ => 0))), (q4, .inl (cA, 41, .inl (fun _ => 0))), (q5, .inl (cA, 41, .inl (fun _ => 0))), (q6, .inl (cA, 4, .inl (fun _ => 0))), (q7, .inl (cA, 32, .inl (fun _ => 0))), (q8, .inl (cA, 32, .inl (fun _ => 0))), (q9, .inl (cA, 4, .inl (fun _ => 0))), (q10, .inl (cA, 4, .inl (fun _ => 0)))] H := hP
  have hD : va_D Av [(h0, .inr (4, [.int 0, .int 0, .ref q1, .ref q2, .ref q3, .ref q4, .ref q5, .ref q6, .ref q7, .ref q8, .ref q9, .ref q10, .int 0, .int 0, .int 0, .long 0, .long 0, .int 0, .int 0])), (q1, .inl (cA, 41, .inl (fun _ => 0))), (q2, .inl (cA, 41, .inl (fun _ => 0))), (q3, .inl (cA, 41, .inl (fun _ => 0))), (q4, .inl (cA, 41, .inl (fun _ => 0))), (q5, .inl (cA, 41, .inl (fun _ => 0))), (q6, .inl (cA, 4, .inl (fun _ => 0))), (q7, .inl (cA, 32, .inl (fun _ => 0))), (q8, .inl (cA, 32, .inl (fun _ => 0))), (q9, .inl (cA, 4, .inl (fun _ => 0))), (q10, .inl (cA, 4, .inl (fun _ => 0)))] := hD
  have hP9 : va_P (dC, dI) vwCl (wR cA (fun k : Nat => if k = 0 then h0 else if k = 1 then q1 else if k = 2 then q2 else if k = 3 then q3 else if k = 4 then q4 else if k = 5 then q5 else if k = 6 then q6 else if k = 7 then q7 else if k = 8 then q8 else if k = 9 then q9 else q10) g0 0 0 0 0 0 0 0 0 0) H := hP.sub [0, 1, 2, 3, 4, 5, 6, 7, 8, 9, 10] rfl
  have hD9 : va_D Av (wR cA (fun k : Nat => if k = 0 then h0 else if k = 1 then q1 else if k = 2 then q2 else if k = 3 then q3 else if k = 4 then q4 else if k = 5 then q5 else if k = 6 then q6 else if k = 7 then q7 else if k = 8 then q8 else if k = 9 then q9 else q10) g0 0 0 0 0 0 0 0 0 0) := hD.sub [0, 1, 2, 3, 4, 5, 6, 7, 8, 9, 10] (by decide) rfl
  refine W.widen (k := 10) (n := 281) (by omega) (by omega) ?_
  exact W.vret hx hb hr (fun t9 ht9 hW9 => ⟨⟨(fun k : Nat => if k = 0 then h0 else if k = 1 then q1 else if k = 2 then q2 else if k = 3 then q3 else if k = 4 then q4 else if k = 5 then q5 else if k = 6 then q6 else if k = 7 then q7 else if k = 8 then q8 else if k = 9 then q9 else q10), rfl, rfl, by dsimp only; rw [ht9]; exact ⟨hP9, hD9⟩⟩, hS.F ht9⟩) hS.2.2 dX3_init_81
