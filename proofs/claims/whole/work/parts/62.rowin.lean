abbrev exP (av : List Value) (H : Heap) (D : va_G) (cl : List vw_C) (tys : List (ClassId × FieldType)) (s0 : State) : Array Value → State → Prop := va_Pc av (fun U => U.heap = H ∧ va_K D cl tys U ∧ nsU U ∧ s0.WarmedH U.vm)

set_option maxRecDepth 20000 in
theorem miX2_row_X2 : ∀ w ∈ u_ws RX2 TX2 6, w ∈ wsX2_row := by decide +kernel
set_option maxRecDepth 20000 in
theorem mbX2_row_1 : (.fieldLink RX2 10 "SectionFibres" "section" "LSectionFibres$Section;" : Cond) ∈ wsX2_row := by decide +kernel
set_option maxRecDepth 20000 in
theorem miX2_row_X1 : ∀ w ∈ u_ws RX1 TX1 7, w ∈ wsX2_row := by decide +kernel
set_option maxRecDepth 20000 in
theorem mbX2_row_3 : (.initialized RX0 : Cond) ∈ wsX2_row := by decide +kernel
set_option maxRecDepth 20000 in
theorem mbX2_row_4 : (.instanceMethod yX0_stressAt : Cond) ∈ wsX2_row := by decide +kernel
set_option maxRecDepth 20000 in
theorem mbX2_row_5 : (.selects RX0 yX0_stressAt yX0_stressAt : Cond) ∈ wsX2_row := by decide +kernel
set_option maxHeartbeats 4000000 in
set_option maxRecDepth 100000 in
theorem c_X2_row (l : Launch) (dC : Nat → ClassId) (dI : Nat → Nat → Nat) (cA : ClassId) (H : Heap) (A : Nat → Nat) (g : Gg) (n : Nat) (hs pe pk : Int32) (fo mo : Int64) (hP : va_P (dC, dI) vwCl (wC cA A g n hs pe pk fo mo) H) (hg : InvG g) (a b : Int32) (hrg : rg a 0 3) : Met l yX2_row wsX2_row ({ frames := 2, cells := 0, slots := 0, locals := 51 }) (rd_P [.ref (A 0), .int a, .int b] H (dC, dI) vwCl [(cA, .int)]) (rd_Qi H (fun r => r = rwF g a b)) 0 0 nF := by
  refine Met.ofW (cc := cX2_row) (maxL := 3) (ret := (some .int)) (by decide) rfl ?_
  intro p e s m args below meth c s₁ B hml hv
  obtain ⟨rfl, hH, hK, hN⟩ := hv
  subst hH
  have hx := B.exec
  have hb := B.bytes
  have hr := B.returns
  have hts := atoms_spec (ws := wsX2_row) B.pre
  have hown : s.vm.findClass RX2 = some m.cls := findClass_of_methodNamed B.named
  have hlocks := B.notSynchronized
  have hS : va_S nF s.heap s.heap [] := va_S.rf
  have hl := lv_entry ([.ref (A 0), .int a, .int b]) (n := 3) (Nat.le_of_ble_eq_true rfl)
  rw [lg_entry_eq]
  generalize (lg_sl ([.ref (A 0), .int a, .int b]) ++ List.replicate (3 - (lg_sl ([.ref (A 0), .int a, .int b])).length) Slot.unset).toArray = ls at hl ⊢
  have hl : lv_has ls 3 [(0, .ref (A 0)), (1, .int a), (2, .int b)] := hl
  refine lv_iload_n hx hb dX2_row_0 rfl (lv_at hl 1 rfl) ?_
  refine rd_i (va_runS (As := [.int a]) (rest := []) ⟨hx, hb, hml, hown, hts⟩ (c_X2_isKind l dC dI cA s.heap a) (va_cwS 1 hts gX2_row_X2_isKind rfl rfl rfl (by decide +kernel) ⟨Nat.le_of_ble_eq_true rfl, Nat.le_of_ble_eq_true rfl⟩) ⟨rd_bl, rd_pre hK hN⟩ rfl rfl hl.1 rfl (lv_room (Nat.le_of_ble_eq_true rfl)) dX2_row_1 ⟨Nat.zero_le _, Nat.zero_le _⟩) hS (fun r1 locs hq2 hS => ?_)
  rcases hq2 with ⟨hq2, rfl⟩ | ⟨hq2, rfl⟩
  · have q1 : rg a 0 3 := hq2
    refine lv_if_ne (tgt := 17) hx hb dX2_row_4 (by decide) (fun _ => ?_) (fun h9 => absurd h9 (by decide))
    refine lv_aload_n hx hb dX2_row_17 rfl (lv_at hl 0 rfl) ?_
    refine va_get (D := (dC, dI)) (ci := 3) (v := .ref (A 1)) (C := RX2) (T := TX2) (N := 6) hx hb hts miX2_row_X2 hown hK hP 0 rfl rfl 0 (by decide) (hts (.fieldLink RX2 10 "SectionFibres" "section" "LSectionFibres$Section;") mbX2_row_1) (fun _ h9 => h9) rfl dX2_row_18 ?_
    refine va_getN (D := (dC, dI)) (ci := 2) (v := .ref (A 2)) (C := RX1) (T := TX1) (N := 7) hx hb hts miX2_row_X1 hown hK hP 1 rfl rfl 0 (by decide) (va_Nw.use rfl (hN (.fieldLinkNest RX2 45 "SectionFibres$Section" "kinds" "LSectionFibres$Kinds;" "SectionFibres") (List.mem_of_getElem? (i := 25) rfl))) (fun _ h9 => h9) rfl dX2_row_21 ?_
    refine lv_iload_n hx hb dX2_row_24 rfl (lv_at hl 1 rfl) ?_
    refine lv_iload_n hx hb dX2_row_25 rfl (lv_at hl 2 rfl) ?_
    refine rd_i (va_runVN (As := [.int a, .int b]) (rest := []) ⟨hx, hb, hml, hown, hts⟩ (c_X0_stressAt l dC dI cA s.heap A g n hs pe pk fo mo hP hg a b (rg_in q1)) ⟨(va_cnB 2 hts gX2_row_X0_stressAt_n77 rfl rfl rfl (hN (.methodLinkNest RX2 77 yX0_stressAt "SectionFibres") (List.mem_of_getElem? (i := 17) rfl)) (hts (.initialized RX0) mbX2_row_3) (by decide +kernel) ⟨Nat.le_of_ble_eq_true rfl, Nat.le_of_ble_eq_true rfl⟩), hts (.instanceMethod yX0_stressAt) mbX2_row_4, hts (.selects RX0 yX0_stressAt yX0_stressAt) mbX2_row_5⟩ ⟨rd_bl, va_recv hK hP (ci := 1) (q0 := 2) rfl rfl, rd_pre hK hN⟩ rfl rfl hl.1 rfl (lv_room (Nat.le_of_ble_eq_true rfl)) dX2_row_26 ⟨Nat.zero_le _, Nat.zero_le _⟩) hS (fun r3 locs hq4 hS => ?_)
    have hq4 : r3 = rwF g a b := hq4
    subst hq4
    exact W.iret (v := (rwF g a b)) hx hb hr (fun t9 ht9 hW9 => ⟨⟨_, (), rfl, rfl, ht9⟩, hS.F ht9⟩) hS.2.2 dX2_row_29
  · have q1 : ¬ (rg a 0 3) := hq2
    exact absurd hrg q1

set_option maxRecDepth 20000 in
theorem miX2_in_X2 : ∀ w ∈ u_ws RX2 TX2 6, w ∈ wsX2_in := by decide +kernel
set_option maxRecDepth 20000 in
theorem mbX2_in_1 : (.fieldLink RX2 10 "SectionFibres" "section" "LSectionFibres$Section;" : Cond) ∈ wsX2_in := by decide +kernel
set_option maxRecDepth 20000 in
theorem mbX2_in_2 : (.initialized RX1 : Cond) ∈ wsX2_in := by decide +kernel
set_option maxRecDepth 20000 in
theorem mbX2_in_3 : (.instanceMethod yX1_has : Cond) ∈ wsX2_in := by decide +kernel
set_option maxRecDepth 20000 in
theorem mbX2_in_4 : (.selects RX1 yX1_has yX1_has : Cond) ∈ wsX2_in := by decide +kernel
set_option maxRecDepth 20000 in
theorem mbX2_in_5 : (.fieldLink RX2 36 "SectionFibres" "planeAtHand" "Z" : Cond) ∈ wsX2_in := by decide +kernel
set_option maxRecDepth 20000 in
theorem mbX2_in_6 : (.fieldLink RX2 103 "SectionFibres" "planeE" "I" : Cond) ∈ wsX2_in := by decide +kernel
set_option maxRecDepth 20000 in
theorem mbX2_in_7 : (.fieldLink RX2 106 "SectionFibres" "planeK" "I" : Cond) ∈ wsX2_in := by decide +kernel
set_option maxRecDepth 20000 in
theorem mbX2_in_8 : (.instanceMethod yX1_worksOn : Cond) ∈ wsX2_in := by decide +kernel
set_option maxRecDepth 20000 in
theorem mbX2_in_9 : (.selects RX1 yX1_worksOn yX1_worksOn : Cond) ∈ wsX2_in := by decide +kernel
set_option maxRecDepth 20000 in
theorem mbX2_in_10 : (.instanceMethod yX1_stressOn : Cond) ∈ wsX2_in := by decide +kernel
set_option maxRecDepth 20000 in
theorem mbX2_in_11 : (.selects RX1 yX1_stressOn yX1_stressOn : Cond) ∈ wsX2_in := by decide +kernel
set_option maxRecDepth 20000 in
theorem mbX2_in_12 : (.constant RX2 43 (-1000000) : Cond) ∈ wsX2_in := by decide +kernel
set_option maxHeartbeats 4000000 in
set_option maxRecDepth 100000 in
theorem c_X2_in (l : Launch) (dC : Nat → ClassId) (dI : Nat → Nat → Nat) (cA : ClassId) (H : Heap) (A : Nat → Nat) (g : Gg) (n : Nat) (hs pe pk : Int32) (fo mo : Int64) (hP : va_P (dC, dI) vwCl (wC cA A g n hs pe pk fo mo) H) (hg : InvG g) (hn : n ≤ 40) (a b : Int32) (hrg : rg a 0 ((n : Int) - 1)) : Met l yX2_in wsX2_in ({ frames := 3, cells := 0, slots := 0, locals := 74 }) (rd_P [.ref (A 0), .int a, .int b] H (dC, dI) vwCl [(cA, .int)]) (rd_Qi H (fun r => r = inF g hs pe pk a b)) 0 0 nF := by
  refine Met.ofW (cc := cX2_in) (maxL := 3) (ret := (some .int)) (by decide) rfl ?_
  intro p e s m args below meth c s₁ B hml hv
  obtain ⟨rfl, hH, hK, hN⟩ := hv
  subst hH
  have hx := B.exec
  have hb := B.bytes
  have hr := B.returns
  have hts := atoms_spec (ws := wsX2_in) B.pre
  have hown : s.vm.findClass RX2 = some m.cls := findClass_of_methodNamed B.named
  have hlocks := B.notSynchronized
  have hS : va_S nF s.heap s.heap [] := va_S.rf
  have hl := lv_entry ([.ref (A 0), .int a, .int b]) (n := 3) (Nat.le_of_ble_eq_true rfl)
  rw [lg_entry_eq]
  generalize (lg_sl ([.ref (A 0), .int a, .int b]) ++ List.replicate (3 - (lg_sl ([.ref (A 0), .int a, .int b])).length) Slot.unset).toArray = ls at hl ⊢
  have hl : lv_has ls 3 [(0, .ref (A 0)), (1, .int a), (2, .int b)] := hl
  refine lv_aload_n hx hb dX2_in_0 rfl (lv_at hl 0 rfl) ?_
  refine va_get (D := (dC, dI)) (ci := 3) (v := .ref (A 1)) (C := RX2) (T := TX2) (N := 6) hx hb hts miX2_in_X2 hown hK hP 0 rfl rfl 0 (by decide) (hts (.fieldLink RX2 10 "SectionFibres" "section" "LSectionFibres$Section;") mbX2_in_1) (fun _ h9 => h9) rfl dX2_in_1 ?_
  refine lv_iload_n hx hb dX2_in_4 rfl (lv_at hl 1 rfl) ?_
  refine rd_i (va_runVN (As := [.int a]) (rest := []) ⟨hx, hb, hml, hown, hts⟩ (c_X1_has l dC dI cA s.heap A g n hs pe pk fo mo hP (by omega) a) ⟨(va_cnB 1 hts gX2_in_X1_has_n54 rfl rfl rfl (hN (.methodLinkNest RX2 54 yX1_has "SectionFibres") (List.mem_of_getElem? (i := 4) rfl)) (hts (.initialized RX1) mbX2_in_2) (by decide +kernel) ⟨Nat.le_of_ble_eq_true rfl, Nat.le_of_ble_eq_true rfl⟩), hts (.instanceMethod yX1_has) mbX2_in_3, hts (.selects RX1 yX1_has yX1_has) mbX2_in_4⟩ ⟨rd_bl, va_recv hK hP (ci := 2) (q0 := 1) rfl rfl, rd_pre hK hN⟩ rfl rfl hl.1 rfl (lv_room (Nat.le_of_ble_eq_true rfl)) dX2_in_5 ⟨Nat.zero_le _, Nat.zero_le _⟩) hS (fun r1 locs hq2 hS => ?_)
  rcases hq2 with ⟨hq2, rfl⟩ | ⟨hq2, rfl⟩
  · have q1 : rg a 0 ((n : Int) - 1) := hq2
    refine lv_if_ne (tgt := 21) hx hb dX2_in_8 (by decide) (fun _ => ?_) (fun h9 => absurd h9 (by decide))
    refine lv_aload_n hx hb dX2_in_21 rfl (lv_at hl 0 rfl) ?_
    refine va_get (D := (dC, dI)) (ci := 3) (v := .int hs) (C := RX2) (T := TX2) (N := 6) hx hb hts miX2_in_X2 hown hK hP 0 rfl rfl 1 (by decide) (hts (.fieldLink RX2 36 "SectionFibres" "planeAtHand" "Z") mbX2_in_5) (fun _ h9 => h9) rfl dX2_in_22 ?_
    refine lv_if_ne (tgt := 31) hx hb dX2_in_25 (by decide) (fun c1 => ?_) (fun c1 => ?_)
    · refine lv_iload_n hx hb dX2_in_31 rfl (lv_at hl 2 rfl) ?_
      by_cases k0 : b = 0
      · refine lv_lookup (off := 28) (tgt := 60) hx hb dX2_in_32 (by decide) (by rw [k0]; first | done | rfl) (by decide) ?_
        refine lv_aload_n hx hb dX2_in_60 rfl (lv_at hl 0 rfl) ?_
        refine va_get (D := (dC, dI)) (ci := 3) (v := .ref (A 1)) (C := RX2) (T := TX2) (N := 6) hx hb hts miX2_in_X2 hown hK hP 0 rfl rfl 0 (by decide) (hts (.fieldLink RX2 10 "SectionFibres" "section" "LSectionFibres$Section;") mbX2_in_1) (fun _ h9 => h9) rfl dX2_in_61 ?_
        refine lv_iload_n hx hb dX2_in_64 rfl (lv_at hl 1 rfl) ?_
        refine tp_i (v := nI a.toNatClampNeg) (rg_nI q1) ?_
        refine lv_aload_n hx hb dX2_in_65 rfl (lv_at hl 0 rfl) ?_
        refine va_get (D := (dC, dI)) (ci := 3) (v := .int pe) (C := RX2) (T := TX2) (N := 6) hx hb hts miX2_in_X2 hown hK hP 0 rfl rfl 2 (by decide) (hts (.fieldLink RX2 103 "SectionFibres" "planeE" "I") mbX2_in_6) (fun _ h9 => h9) rfl dX2_in_66 ?_
        refine lv_aload_n hx hb dX2_in_69 rfl (lv_at hl 0 rfl) ?_
        refine va_get (D := (dC, dI)) (ci := 3) (v := .int pk) (C := RX2) (T := TX2) (N := 6) hx hb hts miX2_in_X2 hown hK hP 0 rfl rfl 3 (by decide) (hts (.fieldLink RX2 106 "SectionFibres" "planeK" "I") mbX2_in_7) (fun _ h9 => h9) rfl dX2_in_70 ?_
        refine rd_i (va_runVN (As := [.int (nI a.toNatClampNeg), .int pe, .int pk]) (rest := []) ⟨hx, hb, hml, hown, hts⟩ (c_X1_worksOn l dC dI cA s.heap A g n hs pe pk fo mo hP hg a.toNatClampNeg (by have h9 := rg_lt q1; omega) pe pk) ⟨(va_cnB 3 hts gX2_in_X1_worksOn_n121 rfl rfl rfl (hN (.methodLinkNest RX2 121 yX1_worksOn "SectionFibres") (List.mem_of_getElem? (i := 18) rfl)) (hts (.initialized RX1) mbX2_in_2) (by decide +kernel) ⟨Nat.le_of_ble_eq_true rfl, Nat.le_of_ble_eq_true rfl⟩), hts (.instanceMethod yX1_worksOn) mbX2_in_8, hts (.selects RX1 yX1_worksOn yX1_worksOn) mbX2_in_9⟩ ⟨rd_bl, va_recv hK hP (ci := 2) (q0 := 1) rfl rfl, rd_pre hK hN⟩ rfl rfl hl.1 rfl (lv_room (Nat.le_of_ble_eq_true rfl)) dX2_in_73 ⟨Nat.zero_le _, Nat.zero_le _⟩) hS (fun r3 locs hq4 hS => ?_)
        have hq4 : r3 = wkF g a.toNatClampNeg pe pk := hq4
        subst hq4
        exact W.iret (v := (wkF g a.toNatClampNeg pe pk)) hx hb hr (fun t9 ht9 hW9 => ⟨⟨_, (), rfl, (by unfold inF; rw [if_neg c1, if_pos k0]), ht9⟩, hS.F ht9⟩) hS.2.2 dX2_in_76
      · by_cases k1 : b = 1
        · refine lv_lookup (off := 45) (tgt := 77) hx hb dX2_in_32 (by decide) (by rw [k1]; first | done | rfl) (by decide) ?_
          refine lv_aload_n hx hb dX2_in_77 rfl (lv_at hl 0 rfl) ?_
          refine va_get (D := (dC, dI)) (ci := 3) (v := .ref (A 1)) (C := RX2) (T := TX2) (N := 6) hx hb hts miX2_in_X2 hown hK hP 0 rfl rfl 0 (by decide) (hts (.fieldLink RX2 10 "SectionFibres" "section" "LSectionFibres$Section;") mbX2_in_1) (fun _ h9 => h9) rfl dX2_in_78 ?_
          refine lv_iload_n hx hb dX2_in_81 rfl (lv_at hl 1 rfl) ?_
          refine tp_i (v := nI a.toNatClampNeg) (rg_nI q1) ?_
          refine lv_aload_n hx hb dX2_in_82 rfl (lv_at hl 0 rfl) ?_
          refine va_get (D := (dC, dI)) (ci := 3) (v := .int pe) (C := RX2) (T := TX2) (N := 6) hx hb hts miX2_in_X2 hown hK hP 0 rfl rfl 2 (by decide) (hts (.fieldLink RX2 103 "SectionFibres" "planeE" "I") mbX2_in_6) (fun _ h9 => h9) rfl dX2_in_83 ?_
          refine lv_aload_n hx hb dX2_in_86 rfl (lv_at hl 0 rfl) ?_
          refine va_get (D := (dC, dI)) (ci := 3) (v := .int pk) (C := RX2) (T := TX2) (N := 6) hx hb hts miX2_in_X2 hown hK hP 0 rfl rfl 3 (by decide) (hts (.fieldLink RX2 106 "SectionFibres" "planeK" "I") mbX2_in_7) (fun _ h9 => h9) rfl dX2_in_87 ?_
          refine rd_i (va_runVN (As := [.int (nI a.toNatClampNeg), .int pe, .int pk]) (rest := []) ⟨hx, hb, hml, hown, hts⟩ (c_X1_stressOn l dC dI cA s.heap A g n hs pe pk fo mo hP hg a.toNatClampNeg (by have h9 := rg_lt q1; omega) pe pk) ⟨(va_cnB 3 hts gX2_in_X1_stressOn_n125 rfl rfl rfl (hN (.methodLinkNest RX2 125 yX1_stressOn "SectionFibres") (List.mem_of_getElem? (i := 19) rfl)) (hts (.initialized RX1) mbX2_in_2) (by decide +kernel) ⟨Nat.le_of_ble_eq_true rfl, Nat.le_of_ble_eq_true rfl⟩), hts (.instanceMethod yX1_stressOn) mbX2_in_10, hts (.selects RX1 yX1_stressOn yX1_stressOn) mbX2_in_11⟩ ⟨rd_bl, va_recv hK hP (ci := 2) (q0 := 1) rfl rfl, rd_pre hK hN⟩ rfl rfl hl.1 rfl (lv_room (Nat.le_of_ble_eq_true rfl)) dX2_in_90 ⟨Nat.zero_le _, Nat.zero_le _⟩) hS (fun r5 locs hq6 hS => ?_)
          have hq6 : r5 = stF g a.toNatClampNeg pe pk := hq6
          subst hq6
          exact W.iret (v := (stF g a.toNatClampNeg pe pk)) hx hb hr (fun t9 ht9 hW9 => ⟨⟨_, (), rfl, (by unfold inF; rw [if_neg c1, if_neg k0, if_pos k1]), ht9⟩, hS.F ht9⟩) hS.2.2 dX2_in_93
        · refine lv_lookup (off := 62) (tgt := 94) hx hb dX2_in_32 (by decide) ((lv_osw k0 (by decide)).trans ((lv_osw k1 (by decide)).trans (rfl))) (by decide) ?_
          refine lv_ldc hx hb hown (hts (.constant RX2 43 (-1000000)) mbX2_in_12) dX2_in_94 ?_
          exact W.iret (v := (-1000000)) hx hb hr (fun t9 ht9 hW9 => ⟨⟨_, (), rfl, (by unfold inF; rw [if_neg c1, if_neg k0, if_neg k1]), ht9⟩, hS.F ht9⟩) hS.2.2 dX2_in_96
    · refine lv_ldc hx hb hown (hts (.constant RX2 43 (-1000000)) mbX2_in_12) dX2_in_28 ?_
      exact W.iret (v := (-1000000)) hx hb hr (fun t9 ht9 hW9 => ⟨⟨_, (), rfl, (by unfold inF; rw [if_pos c1]), ht9⟩, hS.F ht9⟩) hS.2.2 dX2_in_30
  · have q1 : ¬ (rg a 0 ((n : Int) - 1)) := hq2
    exact absurd hrg q1

set_option maxRecDepth 20000 in
theorem mbX2_row_0x : (.classLink RX2 70 RJx00060 : Cond) ∈ wsX2_row := by decide +kernel
set_option maxRecDepth 20000 in
theorem mbX2_row_1x : (.initialized RJx00060 : Cond) ∈ wsX2_row := by decide +kernel
set_option maxHeartbeats 4000000 in
set_option maxRecDepth 100000 in
theorem x_X2_row (l : Launch) (dC : Nat → ClassId) (dI : Nat → Nat → Nat) (cA : ClassId) (H : Heap) (A : Nat → Nat) (g : Gg) (n : Nat) (hs pe pk : Int32) (fo mo : Int64) (hP : va_P (dC, dI) vwCl (wC cA A g n hs pe pk fo mo) H) (hl9 : l.stackTraces = false) (s0 : State) (a0 : Array Value) (hex : exS a0 s0) (hh0 : ∀ q : Nat, q < s0.heap.size → H[q]? = s0.heap[q]?) (a b : Int32) (hno : ¬ rg a 0 3) : exMet l yX2_row wsX2_row ({ frames := 7, cells := 1, slots := 6, locals := 95 }) (exP [.ref (A 0), .int a, .int b] H (dC, dI) vwCl [(cA, .int)] s0) RJx00060 := by
  refine exMet.ofW (cc := cX2_row) (maxL := 3) (ret := (some .int)) (by decide) rfl ?_
  intro p e s m args below meth c s₁ B hml htab hv
  obtain ⟨rfl, hH, hK, hN, hW0⟩ := hv
  subst hH
  have hx := B.exec
  have hb := B.bytes
  have hr := B.returns
  have hts := atoms_spec (ws := wsX2_row) B.pre
  have hown : s.vm.findClass RX2 = some m.cls := findClass_of_methodNamed B.named
  have hlocks := B.notSynchronized
  have hS : va_S nF s.heap s.heap [] := va_S.rf
  have hl := lv_entry ([.ref (A 0), .int a, .int b]) (n := 3) (Nat.le_of_ble_eq_true rfl)
  rw [lg_entry_eq]
  generalize (lg_sl ([.ref (A 0), .int a, .int b]) ++ List.replicate (3 - (lg_sl ([.ref (A 0), .int a, .int b])).length) Slot.unset).toArray = ls at hl ⊢
  have hl : lv_has ls 3 [(0, .ref (A 0)), (1, .int a), (2, .int b)] := hl
  refine lv_iload_n hx hb dX2_row_0 rfl (lv_at hl 1 rfl) ?_
  refine rd_i (va_runS (As := [.int a]) (rest := []) ⟨hx, hb, hml, hown, hts⟩ (c_X2_isKind l dC dI cA s.heap a) (va_cwS 1 hts gX2_row_X2_isKind rfl rfl rfl (by decide +kernel) ⟨Nat.le_of_ble_eq_true rfl, Nat.le_of_ble_eq_true rfl⟩) ⟨rd_bl, rd_pre hK hN⟩ rfl rfl hl.1 rfl (lv_room (Nat.le_of_ble_eq_true rfl)) dX2_row_1 ⟨Nat.zero_le _, Nat.zero_le _⟩) hS (fun r1 locs hq2 hS => ?_)
  rcases hq2 with ⟨hq2, rfl⟩ | ⟨hq2, rfl⟩
  · have q1 : rg a 0 3 := hq2
    exact absurd q1 hno
  · have q1 : ¬ (rg a 0 3) := hq2
    refine lv_if_ne (tgt := 17) hx hb dX2_row_4 (by decide) (fun h9 => absurd h9 (by decide)) (fun _ => ?_)
    obtain ⟨sa, hs1, hs2⟩ := str_at (a' := [.ref (A 0), .int a, .int b].toArray) (U := s) hW0 hex.2.2.2.1
    exact ex_throw (text := "no such kind") (names := exN) hx hb hl9 hown (by decide +kernel) (by decide +kernel) (hts (.classLink RX2 70 RJx00060) mbX2_row_0x) (hts (.initialized RJx00060) mbX2_row_1x) hs1 hs2 (exA_at hex hW0 hh0) hS (hl.1.trans hml.symm) dX2_row_7 dX2_row_10 dX2_row_11 dX2_row_13 dX2_row_16 htab (by decide) (by decide) (by decide) (by decide) hlocks

set_option maxRecDepth 20000 in
theorem miX2_in_X2x : ∀ w ∈ u_ws RX2 TX2 6, w ∈ wsX2_in := by decide +kernel
set_option maxRecDepth 20000 in
theorem mbX2_in_1x : (.fieldLink RX2 10 "SectionFibres" "section" "LSectionFibres$Section;" : Cond) ∈ wsX2_in := by decide +kernel
set_option maxRecDepth 20000 in
theorem mbX2_in_2x : (.initialized RX1 : Cond) ∈ wsX2_in := by decide +kernel
set_option maxRecDepth 20000 in
theorem mbX2_in_3x : (.instanceMethod yX1_has : Cond) ∈ wsX2_in := by decide +kernel
set_option maxRecDepth 20000 in
theorem mbX2_in_4x : (.selects RX1 yX1_has yX1_has : Cond) ∈ wsX2_in := by decide +kernel
set_option maxRecDepth 20000 in
theorem mbX2_in_5x : (.classLink RX2 70 RJx00060 : Cond) ∈ wsX2_in := by decide +kernel
set_option maxRecDepth 20000 in
theorem mbX2_in_6x : (.initialized RJx00060 : Cond) ∈ wsX2_in := by decide +kernel
set_option maxHeartbeats 4000000 in
set_option maxRecDepth 100000 in
theorem x_X2_in (l : Launch) (dC : Nat → ClassId) (dI : Nat → Nat → Nat) (cA : ClassId) (H : Heap) (A : Nat → Nat) (g : Gg) (n : Nat) (hs pe pk : Int32) (fo mo : Int64) (hP : va_P (dC, dI) vwCl (wC cA A g n hs pe pk fo mo) H) (hl9 : l.stackTraces = false) (s0 : State) (a0 : Array Value) (hex : exS a0 s0) (hh0 : ∀ q : Nat, q < s0.heap.size → H[q]? = s0.heap[q]?) (hn : n ≤ 40) (a b : Int32) (hno : ¬ rg a 0 ((n : Int) - 1)) : exMet l yX2_in wsX2_in ({ frames := 7, cells := 1, slots := 6, locals := 95 }) (exP [.ref (A 0), .int a, .int b] H (dC, dI) vwCl [(cA, .int)] s0) RJx00060 := by
  refine exMet.ofW (cc := cX2_in) (maxL := 3) (ret := (some .int)) (by decide) rfl ?_
  intro p e s m args below meth c s₁ B hml htab hv
  obtain ⟨rfl, hH, hK, hN, hW0⟩ := hv
  subst hH
  have hx := B.exec
  have hb := B.bytes
  have hr := B.returns
  have hts := atoms_spec (ws := wsX2_in) B.pre
  have hown : s.vm.findClass RX2 = some m.cls := findClass_of_methodNamed B.named
  have hlocks := B.notSynchronized
  have hS : va_S nF s.heap s.heap [] := va_S.rf
  have hl := lv_entry ([.ref (A 0), .int a, .int b]) (n := 3) (Nat.le_of_ble_eq_true rfl)
  rw [lg_entry_eq]
  generalize (lg_sl ([.ref (A 0), .int a, .int b]) ++ List.replicate (3 - (lg_sl ([.ref (A 0), .int a, .int b])).length) Slot.unset).toArray = ls at hl ⊢
  have hl : lv_has ls 3 [(0, .ref (A 0)), (1, .int a), (2, .int b)] := hl
  refine lv_aload_n hx hb dX2_in_0 rfl (lv_at hl 0 rfl) ?_
  refine va_get (D := (dC, dI)) (ci := 3) (v := .ref (A 1)) (C := RX2) (T := TX2) (N := 6) hx hb hts miX2_in_X2x hown hK hP 0 rfl rfl 0 (by decide) (hts (.fieldLink RX2 10 "SectionFibres" "section" "LSectionFibres$Section;") mbX2_in_1x) (fun _ h9 => h9) rfl dX2_in_1 ?_
  refine lv_iload_n hx hb dX2_in_4 rfl (lv_at hl 1 rfl) ?_
  refine rd_i (va_runVN (As := [.int a]) (rest := []) ⟨hx, hb, hml, hown, hts⟩ (c_X1_has l dC dI cA s.heap A g n hs pe pk fo mo hP (by omega) a) ⟨(va_cnB 1 hts gX2_in_X1_has_n54 rfl rfl rfl (hN (.methodLinkNest RX2 54 yX1_has "SectionFibres") (List.mem_of_getElem? (i := 4) rfl)) (hts (.initialized RX1) mbX2_in_2x) (by decide +kernel) ⟨Nat.le_of_ble_eq_true rfl, Nat.le_of_ble_eq_true rfl⟩), hts (.instanceMethod yX1_has) mbX2_in_3x, hts (.selects RX1 yX1_has yX1_has) mbX2_in_4x⟩ ⟨rd_bl, va_recv hK hP (ci := 2) (q0 := 1) rfl rfl, rd_pre hK hN⟩ rfl rfl hl.1 rfl (lv_room (Nat.le_of_ble_eq_true rfl)) dX2_in_5 ⟨Nat.zero_le _, Nat.zero_le _⟩) hS (fun r1 locs hq2 hS => ?_)
  rcases hq2 with ⟨hq2, rfl⟩ | ⟨hq2, rfl⟩
  · have q1 : rg a 0 ((n : Int) - 1) := hq2
    exact absurd q1 hno
  · have q1 : ¬ (rg a 0 ((n : Int) - 1)) := hq2
    refine lv_if_ne (tgt := 21) hx hb dX2_in_8 (by decide) (fun h9 => absurd h9 (by decide)) (fun _ => ?_)
    obtain ⟨sa, hs1, hs2⟩ := str_at (a' := [.ref (A 0), .int a, .int b].toArray) (U := s) hW0 hex.2.2.2.2.1
    exact ex_throw (text := "no such fibre") (names := exN) hx hb hl9 hown (by decide +kernel) (by decide +kernel) (hts (.classLink RX2 70 RJx00060) mbX2_in_5x) (hts (.initialized RJx00060) mbX2_in_6x) hs1 hs2 (exA_at hex hW0 hh0) hS (hl.1.trans hml.symm) dX2_in_11 dX2_in_14 dX2_in_15 dX2_in_17 dX2_in_20 htab (by decide) (by decide) (by decide) (by decide) hlocks
