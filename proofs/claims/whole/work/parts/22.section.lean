set_option maxRecDepth 20000 in
theorem miX1_has_X1 : ∀ w ∈ u_ws RX1 TX1 7, w ∈ wsX1_has := by decide +kernel
set_option maxRecDepth 20000 in
theorem mbX1_has_1 : (.fieldLink RX1 34 "SectionFibres$Section" "size" "I" : Cond) ∈ wsX1_has := by decide +kernel
set_option maxRecDepth 20000 in
theorem mbX1_has_2 : (.initialized RX2 : Cond) ∈ wsX1_has := by decide +kernel
set_option maxRecDepth 20000 in
theorem mbX1_has_3 : (.static yX2_within : Cond) ∈ wsX1_has := by decide +kernel
set_option maxHeartbeats 4000000 in
set_option maxRecDepth 100000 in
theorem c_X1_has (l : Launch) (dC : Nat → ClassId) (dI : Nat → Nat → Nat) (cA : ClassId) (H : Heap) (A : Nat → Nat) (g : Gg) (n : Nat) (hs pe pk : Int32) (fo mo : Int64) (hP : va_P (dC, dI) vwCl (wC cA A g n hs pe pk fo mo) H) (hn : n ≤ 41) (v : Int32) : Met l yX1_has wsX1_has ({ frames := 1, cells := 0, slots := 0, locals := 22 }) (rd_P [.ref (A 1), .int v] H (dC, dI) vwCl [(cA, .int)]) (rd_Qi H (fun r => (rg v 0 ((n : Int) - 1) ∧ r = 1) ∨ (¬ (rg v 0 ((n : Int) - 1)) ∧ r = 0))) 0 0 nF := by
  refine Met.ofW (cc := cX1_has) (maxL := 2) (ret := (some .boolean)) (by decide) rfl ?_
  intro p e s m args below meth c s₁ B hml hv
  obtain ⟨rfl, hH, hK, hN⟩ := hv
  subst hH
  have hx := B.exec
  have hb := B.bytes
  have hr := B.returns
  have hts := atoms_spec (ws := wsX1_has) B.pre
  have hown : s.vm.findClass RX1 = some m.cls := findClass_of_methodNamed B.named
  have hlocks := B.notSynchronized
  have hS : va_S nF s.heap s.heap [] := va_S.rf
  have hl := lv_entry ([.ref (A 1), .int v]) (n := 2) (Nat.le_of_ble_eq_true rfl)
  rw [lg_entry_eq]
  generalize (lg_sl ([.ref (A 1), .int v]) ++ List.replicate (2 - (lg_sl ([.ref (A 1), .int v])).length) Slot.unset).toArray = ls at hl ⊢
  have hl : lv_has ls 2 [(0, .ref (A 1)), (1, .int v)] := hl
  have hnt : (nI n).toInt = (n : Int) := nI_toInt (by omega)
  refine lv_iload_n hx hb dX1_has_0 rfl (lv_at hl 1 rfl) ?_
  refine lv_iconst (v := 0) hx hb dX1_has_1 (by decide) ?_
  refine lv_aload_n hx hb dX1_has_2 rfl (lv_at hl 0 rfl) ?_
  refine va_get (D := (dC, dI)) (ci := 2) (v := .int (nI n)) (C := RX1) (T := TX1) (N := 7) hx hb hts miX1_has_X1 hown hK hP 1 rfl rfl 6 (by decide) (hts (.fieldLink RX1 34 "SectionFibres$Section" "size" "I") mbX1_has_1) (fun _ h9 => h9) rfl dX1_has_3 ?_
  refine lv_iconst (v := 1) hx hb dX1_has_6 (by decide) ?_
  refine lv_isub hx hb dX1_has_7 ?_
  refine rd_i (va_runSN (As := [.int v, .int 0, .int ((nI n) - 1)]) (rest := []) ⟨hx, hb, hml, hown, hts⟩ (c_X2_within l dC dI cA s.heap v 0 ((nI n) - 1) 0 ((n : Int) - 1) (by decide) (by rw [sb32 (by rw [hnt, show (1 : Int32).toInt = 1 by decide]; omega) (by rw [hnt, show (1 : Int32).toInt = 1 by decide]; omega), hnt]; rfl)) ⟨(va_cnB 3 hts gX1_has_X2_within_n38 rfl rfl rfl (hN (.methodLinkNest RX1 38 yX2_within "SectionFibres") (List.mem_of_getElem? (i := 5) rfl)) (hts (.initialized RX2) mbX1_has_2) (by decide +kernel) ⟨Nat.le_of_ble_eq_true rfl, Nat.le_of_ble_eq_true rfl⟩), hts (.static yX2_within) mbX1_has_3, trivial⟩ ⟨rd_bl, rd_pre hK hN⟩ rfl rfl hl.1 rfl (lv_room (Nat.le_of_ble_eq_true rfl)) dX1_has_8 ⟨Nat.zero_le _, Nat.zero_le _⟩) hS (fun r1 locs hq2 hS => ?_)
  rcases hq2 with ⟨hq2, rfl⟩ | ⟨hq2, rfl⟩
  · have hq9 : rg v 0 ((n : Int) - 1) := hq2
    exact W.zret (ty := .boolean) (v := 1) hx hb hr (by decide) (fun t9 ht9 hW9 => ⟨⟨_, (), rfl, (Or.inl ⟨hq9, rfl⟩), ht9⟩, hS.F ht9⟩) hS.2.2 dX1_has_11
  · have hq9 : ¬ (rg v 0 ((n : Int) - 1)) := hq2
    exact W.zret (ty := .boolean) (v := 0) hx hb hr (by decide) (fun t9 ht9 hW9 => ⟨⟨_, (), rfl, (Or.inr ⟨hq9, rfl⟩), ht9⟩, hS.F ht9⟩) hS.2.2 dX1_has_11

set_option maxRecDepth 20000 in
theorem miX1_worksOn_X1 : ∀ w ∈ u_ws RX1 TX1 7, w ∈ wsX1_worksOn := by decide +kernel
set_option maxRecDepth 20000 in
theorem mbX1_worksOn_1 : (.fieldLink RX1 25 "SectionFibres$Section" "kindOf" "[I" : Cond) ∈ wsX1_worksOn := by decide +kernel
set_option maxRecDepth 20000 in
theorem mbX1_worksOn_2 : (.fieldLink RX1 22 "SectionFibres$Section" "places" "[I" : Cond) ∈ wsX1_worksOn := by decide +kernel
set_option maxRecDepth 20000 in
theorem mbX1_worksOn_3 : (.fieldLink RX1 28 "SectionFibres$Section" "births" "[I" : Cond) ∈ wsX1_worksOn := by decide +kernel
set_option maxRecDepth 20000 in
theorem mbX1_worksOn_4 : (.fieldLink RX1 12 "SectionFibres$Section" "kinds" "LSectionFibres$Kinds;" : Cond) ∈ wsX1_worksOn := by decide +kernel
set_option maxRecDepth 20000 in
theorem miX1_worksOn_X0 : ∀ w ∈ u_ws RX0 TX0 5, w ∈ wsX1_worksOn := by decide +kernel
set_option maxRecDepth 20000 in
theorem mbX1_worksOn_6 : (.constantLong RX1 51 (100) : Cond) ∈ wsX1_worksOn := by decide +kernel
set_option maxRecDepth 20000 in
theorem mbX1_worksOn_7 : (.initialized RX2 : Cond) ∈ wsX1_worksOn := by decide +kernel
set_option maxRecDepth 20000 in
theorem mbX1_worksOn_8 : (.static yX2_share : Cond) ∈ wsX1_worksOn := by decide +kernel
set_option maxHeartbeats 4000000 in
set_option maxRecDepth 100000 in
theorem c_X1_worksOn (l : Launch) (dC : Nat → ClassId) (dI : Nat → Nat → Nat) (cA : ClassId) (H : Heap) (A : Nat → Nat) (g : Gg) (n : Nat) (hs pe pk : Int32) (fo mo : Int64) (hP : va_P (dC, dI) vwCl (wC cA A g n hs pe pk fo mo) H) (hg : InvG g) (f : Nat) (hf : f < 41) (ee kb : Int32) : Met l yX1_worksOn wsX1_worksOn ({ frames := 1, cells := 0, slots := 0, locals := 25 }) (rd_P [.ref (A 1), .int (nI f), .int ee, .int kb] H (dC, dI) vwCl [(cA, .int)]) (rd_Qi H (fun r => r = wkF g f ee kb)) 0 0 nF := by
  refine Met.ofW (cc := cX1_worksOn) (maxL := 6) (ret := (some .int)) (by decide) rfl ?_
  intro p e s m args below meth c s₁ B hml hv
  obtain ⟨rfl, hH, hK, hN⟩ := hv
  subst hH
  have hx := B.exec
  have hb := B.bytes
  have hr := B.returns
  have hts := atoms_spec (ws := wsX1_worksOn) B.pre
  have hown : s.vm.findClass RX1 = some m.cls := findClass_of_methodNamed B.named
  have hlocks := B.notSynchronized
  have hS : va_S nF s.heap s.heap [] := va_S.rf
  have hl := lv_entry ([.ref (A 1), .int (nI f), .int ee, .int kb]) (n := 6) (Nat.le_of_ble_eq_true rfl)
  rw [lg_entry_eq]
  generalize (lg_sl ([.ref (A 1), .int (nI f), .int ee, .int kb]) ++ List.replicate (6 - (lg_sl ([.ref (A 1), .int (nI f), .int ee, .int kb])).length) Slot.unset).toArray = ls at hl ⊢
  have hl : lv_has ls 6 [(0, .ref (A 1)), (1, .int (nI f)), (2, .int ee), (3, .int kb)] := hl
  obtain ⟨kd, hkd, hke⟩ := vp_in_of (hg.1 f hf) (by decide)
  refine lv_aload_n hx hb dX1_worksOn_0 rfl (lv_at hl 0 rfl) ?_
  refine va_get (D := (dC, dI)) (ci := 2) (v := .ref (A 5)) (C := RX1) (T := TX1) (N := 7) hx hb hts miX1_worksOn_X1 hown hK hP 1 rfl rfl 3 (by decide) (hts (.fieldLink RX1 25 "SectionFibres$Section" "kindOf" "[I") mbX1_worksOn_1) (fun _ h9 => h9) rfl dX1_worksOn_1 ?_
  refine lv_iload_n hx hb dX1_worksOn_4 rfl (lv_at hl 1 rfl) ?_
  refine ialn hx hb hK hP 5 0 rfl rfl f (rfl) (by omega) (by decide) dX1_worksOn_5 ?_
  refine tp_i (v := nI kd) (hke) ?_
  refine lv_istore (lv' := [(4, .int (nI kd)), (0, .ref (A 1)), (1, .int (nI f)), (2, .int ee), (3, .int kb)]) hx hb dX1_worksOn_6 hl (by decide) rfl (fun ls hl => ?_)
  refine lv_iload_n hx hb dX1_worksOn_8 rfl (lv_at hl 3 rfl) ?_
  refine lv_iload_n hx hb dX1_worksOn_9 rfl (lv_at hl 4 rfl) ?_
  refine lv_aload_n hx hb dX1_worksOn_10 rfl (lv_at hl 1 rfl) ?_
  refine va_get (D := (dC, dI)) (ci := 2) (v := .ref (A 4)) (C := RX1) (T := TX1) (N := 7) hx hb hts miX1_worksOn_X1 hown hK hP 1 rfl rfl 2 (by decide) (hts (.fieldLink RX1 22 "SectionFibres$Section" "places" "[I") mbX1_worksOn_2) (fun _ h9 => h9) rfl dX1_worksOn_11 ?_
  refine lv_iload_n hx hb dX1_worksOn_14 rfl (lv_at hl 2 rfl) ?_
  refine ialn hx hb hK hP 4 0 rfl rfl f (rfl) (by omega) (by decide) dX1_worksOn_15 ?_
  refine lv_imul hx hb dX1_worksOn_16 ?_
  refine lv_sipush (v := 1000) hx hb dX1_worksOn_17 (by decide) ?_
  refine rd_i (va_runS (As := [.int (kb * (g 1 f)), .int 1000]) (rest := [.int ee]) ⟨hx, hb, hml, hown, hts⟩ (c_J9_floorDiv_7cf53 l dC dI cA s.heap (kb * (g 1 f)) 1000 (by decide)) (va_cwS 2 hts gX1_worksOn_J9_floorDiv_7cf53 rfl rfl rfl (by decide +kernel) ⟨Nat.le_of_ble_eq_true rfl, Nat.le_of_ble_eq_true rfl⟩) ⟨rd_bl, rd_pre hK hN⟩ rfl rfl hl.1 rfl (lv_room (Nat.le_of_ble_eq_true rfl)) dX1_worksOn_20 ⟨Nat.zero_le _, Nat.zero_le _⟩) hS (fun r1 locs hq2 hS => ?_)
  have hq2 : r1 = fdv (kb * (g 1 f)) 1000 := hq2
  subst hq2
  refine lv_iadd hx hb dX1_worksOn_23 ?_
  refine lv_istore (lv' := [(5, .int (ee + (fdv (kb * (g 1 f)) 1000))), (4, .int (nI kd)), (0, .ref (A 1)), (1, .int (nI f)), (2, .int ee), (3, .int kb)]) hx hb dX1_worksOn_24 hl (by decide) rfl (fun ls hl => ?_)
  refine lv_iload hx hb dX1_worksOn_26 (lv_at hl 0 rfl) ?_
  refine lv_aload_n hx hb dX1_worksOn_28 rfl (lv_at hl 2 rfl) ?_
  refine va_get (D := (dC, dI)) (ci := 2) (v := .ref (A 6)) (C := RX1) (T := TX1) (N := 7) hx hb hts miX1_worksOn_X1 hown hK hP 1 rfl rfl 4 (by decide) (hts (.fieldLink RX1 28 "SectionFibres$Section" "births" "[I") mbX1_worksOn_3) (fun _ h9 => h9) rfl dX1_worksOn_29 ?_
  refine lv_iload_n hx hb dX1_worksOn_32 rfl (lv_at hl 3 rfl) ?_
  refine ialn hx hb hK hP 6 0 rfl rfl f (rfl) (by omega) (by decide) dX1_worksOn_33 ?_
  refine lv_isub hx hb dX1_worksOn_34 ?_
  refine lv_aload_n hx hb dX1_worksOn_35 rfl (lv_at hl 2 rfl) ?_
  refine va_get (D := (dC, dI)) (ci := 2) (v := .ref (A 2)) (C := RX1) (T := TX1) (N := 7) hx hb hts miX1_worksOn_X1 hown hK hP 1 rfl rfl 0 (by decide) (hts (.fieldLink RX1 12 "SectionFibres$Section" "kinds" "LSectionFibres$Kinds;") mbX1_worksOn_4) (fun _ h9 => h9) rfl dX1_worksOn_36 ?_
  refine va_getN (D := (dC, dI)) (ci := 1) (v := .ref (A 12)) (C := RX0) (T := TX0) (N := 5) hx hb hts miX1_worksOn_X0 hown hK hP 2 rfl rfl 4 (by decide) (va_Nw.use rfl (hN (.fieldLinkNest RX1 48 "SectionFibres$Kinds" "shrunk" "[I" "SectionFibres") (List.mem_of_getElem? (i := 24) rfl))) (fun _ h9 => h9) rfl dX1_worksOn_39 ?_
  refine lv_iload hx hb dX1_worksOn_42 (lv_at hl 1 rfl) ?_
  refine ialn hx hb hK hP 12 0 rfl rfl kd (rfl) (by omega) (by decide) dX1_worksOn_44 ?_
  refine lv_isub hx hb dX1_worksOn_45 ?_
  refine lv_i2l hx hb dX1_worksOn_46 rfl ?_
  refine lv_ldc2 hx hb hown (hts (.constantLong RX1 51 (100)) mbX1_worksOn_6) dX1_worksOn_47 ?_
  refine lv_bipush (v := 100) hx hb dX1_worksOn_50 (by decide) ?_
  refine lv_aload_n hx hb dX1_worksOn_52 rfl (lv_at hl 2 rfl) ?_
  refine va_get (D := (dC, dI)) (ci := 2) (v := .ref (A 2)) (C := RX1) (T := TX1) (N := 7) hx hb hts miX1_worksOn_X1 hown hK hP 1 rfl rfl 0 (by decide) (hts (.fieldLink RX1 12 "SectionFibres$Section" "kinds" "LSectionFibres$Kinds;") mbX1_worksOn_4) (fun _ h9 => h9) rfl dX1_worksOn_53 ?_
  refine va_getN (D := (dC, dI)) (ci := 1) (v := .ref (A 11)) (C := RX0) (T := TX0) (N := 5) hx hb hts miX1_worksOn_X0 hown hK hP 2 rfl rfl 3 (by decide) (va_Nw.use rfl (hN (.fieldLinkNest RX1 53 "SectionFibres$Kinds" "creep" "[I" "SectionFibres") (List.mem_of_getElem? (i := 22) rfl))) (fun _ h9 => h9) rfl dX1_worksOn_56 ?_
  refine lv_iload hx hb dX1_worksOn_59 (lv_at hl 1 rfl) ?_
  refine ialn hx hb hK hP 11 0 rfl rfl kd (rfl) (by omega) (by decide) dX1_worksOn_61 ?_
  refine lv_iadd hx hb dX1_worksOn_62 ?_
  refine lv_i2l hx hb dX1_worksOn_63 rfl ?_
  refine rd_i (va_runSN (As := [.long ((((ee + (fdv (kb * (g 1 f)) 1000)) - (g 3 f)) - (g 9 kd)).toInt64), .long 100, .long ((100 + (g 8 kd)).toInt64)]) (rest := []) ⟨hx, hb, hml, hown, hts⟩ (c_X2_share l dC dI cA s.heap ((((ee + (fdv (kb * (g 1 f)) 1000)) - (g 3 f)) - (g 9 kd)).toInt64) 100 ((100 + (g 8 kd)).toInt64)) ⟨(va_cnB 3 hts gX1_worksOn_X2_share_n56 rfl rfl rfl (hN (.methodLinkNest RX1 56 yX2_share "SectionFibres") (List.mem_of_getElem? (i := 7) rfl)) (hts (.initialized RX2) mbX1_worksOn_7) (by decide +kernel) ⟨Nat.le_of_ble_eq_true rfl, Nat.le_of_ble_eq_true rfl⟩), hts (.static yX2_share) mbX1_worksOn_8, trivial⟩ ⟨rd_bl, rd_pre hK hN⟩ rfl rfl hl.1 rfl (lv_room (Nat.le_of_ble_eq_true rfl)) dX1_worksOn_64 ⟨Nat.zero_le _, Nat.zero_le _⟩) hS (fun r3 locs hq4 hS => ?_)
  have hq4 : r3 = sh ((((ee + (fdv (kb * (g 1 f)) 1000)) - (g 3 f)) - (g 9 kd)).toInt64) 100 ((100 + (g 8 kd)).toInt64) := hq4
  subst hq4
  exact W.iret (v := (sh ((((ee + (fdv (kb * (g 1 f)) 1000)) - (g 3 f)) - (g 9 kd)).toInt64) 100 ((100 + (g 8 kd)).toInt64))) hx hb hr (fun t9 ht9 hW9 => ⟨⟨_, (), rfl, (by unfold wkF; rw [hke, nI_clamp (n := kd) (by omega)]), ht9⟩, hS.F ht9⟩) hS.2.2 dX1_worksOn_67

set_option maxRecDepth 20000 in
theorem miX1_stressOn_X1 : ∀ w ∈ u_ws RX1 TX1 7, w ∈ wsX1_stressOn := by decide +kernel
set_option maxRecDepth 20000 in
theorem mbX1_stressOn_1 : (.fieldLink RX1 12 "SectionFibres$Section" "kinds" "LSectionFibres$Kinds;" : Cond) ∈ wsX1_stressOn := by decide +kernel
set_option maxRecDepth 20000 in
theorem mbX1_stressOn_2 : (.fieldLink RX1 25 "SectionFibres$Section" "kindOf" "[I" : Cond) ∈ wsX1_stressOn := by decide +kernel
set_option maxRecDepth 20000 in
theorem mbX1_stressOn_3 : (.initialized RX0 : Cond) ∈ wsX1_stressOn := by decide +kernel
set_option maxRecDepth 20000 in
theorem mbX1_stressOn_4 : (.instanceMethod yX0_stressAt : Cond) ∈ wsX1_stressOn := by decide +kernel
set_option maxRecDepth 20000 in
theorem mbX1_stressOn_5 : (.selects RX0 yX0_stressAt yX0_stressAt : Cond) ∈ wsX1_stressOn := by decide +kernel
set_option maxRecDepth 20000 in
theorem mbX1_stressOn_6 : (.fieldLink RX1 31 "SectionFibres$Section" "kept" "[I" : Cond) ∈ wsX1_stressOn := by decide +kernel
set_option maxRecDepth 20000 in
theorem mbX1_stressOn_7 : (.constantLong RX1 51 (100) : Cond) ∈ wsX1_stressOn := by decide +kernel
set_option maxRecDepth 20000 in
theorem mbX1_stressOn_8 : (.initialized RX2 : Cond) ∈ wsX1_stressOn := by decide +kernel
set_option maxRecDepth 20000 in
theorem mbX1_stressOn_9 : (.static yX2_share : Cond) ∈ wsX1_stressOn := by decide +kernel
set_option maxHeartbeats 4000000 in
set_option maxRecDepth 100000 in
theorem c_X1_stressOn (l : Launch) (dC : Nat → ClassId) (dI : Nat → Nat → Nat) (cA : ClassId) (H : Heap) (A : Nat → Nat) (g : Gg) (n : Nat) (hs pe pk : Int32) (fo mo : Int64) (hP : va_P (dC, dI) vwCl (wC cA A g n hs pe pk fo mo) H) (hg : InvG g) (f : Nat) (hf : f < 41) (ee kb : Int32) : Met l yX1_stressOn wsX1_stressOn ({ frames := 2, cells := 0, slots := 0, locals := 51 }) (rd_P [.ref (A 1), .int (nI f), .int ee, .int kb] H (dC, dI) vwCl [(cA, .int)]) (rd_Qi H (fun r => r = stF g f ee kb)) 0 0 nF := by
  refine Met.ofW (cc := cX1_stressOn) (maxL := 4) (ret := (some .int)) (by decide) rfl ?_
  intro p e s m args below meth c s₁ B hml hv
  obtain ⟨rfl, hH, hK, hN⟩ := hv
  subst hH
  have hx := B.exec
  have hb := B.bytes
  have hr := B.returns
  have hts := atoms_spec (ws := wsX1_stressOn) B.pre
  have hown : s.vm.findClass RX1 = some m.cls := findClass_of_methodNamed B.named
  have hlocks := B.notSynchronized
  have hS : va_S nF s.heap s.heap [] := va_S.rf
  have hl := lv_entry ([.ref (A 1), .int (nI f), .int ee, .int kb]) (n := 4) (Nat.le_of_ble_eq_true rfl)
  rw [lg_entry_eq]
  generalize (lg_sl ([.ref (A 1), .int (nI f), .int ee, .int kb]) ++ List.replicate (4 - (lg_sl ([.ref (A 1), .int (nI f), .int ee, .int kb])).length) Slot.unset).toArray = ls at hl ⊢
  have hl : lv_has ls 4 [(0, .ref (A 1)), (1, .int (nI f)), (2, .int ee), (3, .int kb)] := hl
  refine lv_aload_n hx hb dX1_stressOn_0 rfl (lv_at hl 0 rfl) ?_
  refine va_get (D := (dC, dI)) (ci := 2) (v := .ref (A 2)) (C := RX1) (T := TX1) (N := 7) hx hb hts miX1_stressOn_X1 hown hK hP 1 rfl rfl 0 (by decide) (hts (.fieldLink RX1 12 "SectionFibres$Section" "kinds" "LSectionFibres$Kinds;") mbX1_stressOn_1) (fun _ h9 => h9) rfl dX1_stressOn_1 ?_
  refine lv_aload_n hx hb dX1_stressOn_4 rfl (lv_at hl 0 rfl) ?_
  refine va_get (D := (dC, dI)) (ci := 2) (v := .ref (A 5)) (C := RX1) (T := TX1) (N := 7) hx hb hts miX1_stressOn_X1 hown hK hP 1 rfl rfl 3 (by decide) (hts (.fieldLink RX1 25 "SectionFibres$Section" "kindOf" "[I") mbX1_stressOn_2) (fun _ h9 => h9) rfl dX1_stressOn_5 ?_
  refine lv_iload_n hx hb dX1_stressOn_8 rfl (lv_at hl 1 rfl) ?_
  refine ialn hx hb hK hP 5 0 rfl rfl f (rfl) (by omega) (by decide) dX1_stressOn_9 ?_
  refine lv_aload_n hx hb dX1_stressOn_10 rfl (lv_at hl 0 rfl) ?_
  refine lv_iload_n hx hb dX1_stressOn_11 rfl (lv_at hl 1 rfl) ?_
  refine lv_iload_n hx hb dX1_stressOn_12 rfl (lv_at hl 2 rfl) ?_
  refine lv_iload_n hx hb dX1_stressOn_13 rfl (lv_at hl 3 rfl) ?_
  refine rd_i (va_runV (As := [.int (nI f), .int ee, .int kb]) (rest := [.int (g 2 f), .ref (A 2)]) ⟨hx, hb, hml, hown, hts⟩ (c_X1_worksOn l dC dI cA s.heap A g n hs pe pk fo mo hP hg f (by omega) ee kb) (cwV 3 hts gX1_stressOn_X1_worksOn rfl rfl rfl (by decide +kernel) ⟨Nat.le_of_ble_eq_true rfl, Nat.le_of_ble_eq_true rfl⟩) ⟨rd_bl, va_recv hK hP (ci := 2) (q0 := 1) rfl rfl, rd_pre hK hN⟩ rfl rfl hl.1 rfl (lv_room (Nat.le_of_ble_eq_true rfl)) dX1_stressOn_14 ⟨Nat.zero_le _, Nat.zero_le _⟩) hS (fun r1 locs hq2 hS => ?_)
  have hq2 : r1 = wkF g f ee kb := hq2
  subst hq2
  refine rd_i (va_runVN (As := [.int (g 2 f), .int (wkF g f ee kb)]) (rest := []) ⟨hx, hb, hml, hown, hts⟩ (c_X0_stressAt l dC dI cA s.heap A g n hs pe pk fo mo hP hg (g 2 f) (wkF g f ee kb) (hg.1 f hf)) ⟨(va_cnB 2 hts gX1_stressOn_X0_stressAt_n64 rfl rfl rfl (hN (.methodLinkNest RX1 64 yX0_stressAt "SectionFibres") (List.mem_of_getElem? (i := 8) rfl)) (hts (.initialized RX0) mbX1_stressOn_3) (by decide +kernel) ⟨Nat.le_of_ble_eq_true rfl, Nat.le_of_ble_eq_true rfl⟩), hts (.instanceMethod yX0_stressAt) mbX1_stressOn_4, hts (.selects RX0 yX0_stressAt yX0_stressAt) mbX1_stressOn_5⟩ ⟨rd_bl, va_recv hK hP (ci := 1) (q0 := 2) rfl rfl, rd_pre hK hN⟩ rfl rfl hl.1 rfl (lv_room (Nat.le_of_ble_eq_true rfl)) dX1_stressOn_17 ⟨Nat.zero_le _, Nat.zero_le _⟩) hS (fun r3 locs hq4 hS => ?_)
  have hq4 : r3 = rwF g (g 2 f) (wkF g f ee kb) := hq4
  subst hq4
  refine lv_i2l hx hb dX1_stressOn_20 rfl ?_
  refine lv_aload_n hx hb dX1_stressOn_21 rfl (lv_at hl 0 rfl) ?_
  refine va_get (D := (dC, dI)) (ci := 2) (v := .ref (A 7)) (C := RX1) (T := TX1) (N := 7) hx hb hts miX1_stressOn_X1 hown hK hP 1 rfl rfl 5 (by decide) (hts (.fieldLink RX1 31 "SectionFibres$Section" "kept" "[I") mbX1_stressOn_6) (fun _ h9 => h9) rfl dX1_stressOn_22 ?_
  refine lv_iload_n hx hb dX1_stressOn_25 rfl (lv_at hl 1 rfl) ?_
  refine ialn hx hb hK hP 7 0 rfl rfl f (rfl) (by omega) (by decide) dX1_stressOn_26 ?_
  refine lv_i2l hx hb dX1_stressOn_27 rfl ?_
  refine lv_ldc2 hx hb hown (hts (.constantLong RX1 51 (100)) mbX1_stressOn_7) dX1_stressOn_28 ?_
  refine rd_i (va_runSN (As := [.long ((rwF g (g 2 f) (wkF g f ee kb)).toInt64), .long ((g 4 f).toInt64), .long 100]) (rest := []) ⟨hx, hb, hml, hown, hts⟩ (c_X2_share l dC dI cA s.heap ((rwF g (g 2 f) (wkF g f ee kb)).toInt64) ((g 4 f).toInt64) 100) ⟨(va_cnB 3 hts gX1_stressOn_X2_share_n56 rfl rfl rfl (hN (.methodLinkNest RX1 56 yX2_share "SectionFibres") (List.mem_of_getElem? (i := 7) rfl)) (hts (.initialized RX2) mbX1_stressOn_8) (by decide +kernel) ⟨Nat.le_of_ble_eq_true rfl, Nat.le_of_ble_eq_true rfl⟩), hts (.static yX2_share) mbX1_stressOn_9, trivial⟩ ⟨rd_bl, rd_pre hK hN⟩ rfl rfl hl.1 rfl (lv_room (Nat.le_of_ble_eq_true rfl)) dX1_stressOn_31 ⟨Nat.zero_le _, Nat.zero_le _⟩) hS (fun r5 locs hq6 hS => ?_)
  have hq6 : r5 = sh ((rwF g (g 2 f) (wkF g f ee kb)).toInt64) ((g 4 f).toInt64) 100 := hq6
  subst hq6
  exact W.iret (v := (sh ((rwF g (g 2 f) (wkF g f ee kb)).toInt64) ((g 4 f).toInt64) 100)) hx hb hr (fun t9 ht9 hW9 => ⟨⟨_, (), rfl, rfl, ht9⟩, hS.F ht9⟩) hS.2.2 dX1_stressOn_34

set_option maxRecDepth 20000 in
theorem miX1_sumOf_X1 : ∀ w ∈ u_ws RX1 TX1 7, w ∈ wsX1_sumOf := by decide +kernel
set_option maxRecDepth 20000 in
theorem mbX1_sumOf_1 : (.fieldLink RX1 34 "SectionFibres$Section" "size" "I" : Cond) ∈ wsX1_sumOf := by decide +kernel
set_option maxRecDepth 20000 in
theorem mbX1_sumOf_2 : (.fieldLink RX1 18 "SectionFibres$Section" "areas" "[I" : Cond) ∈ wsX1_sumOf := by decide +kernel
set_option maxRecDepth 20000 in
theorem mbX1_sumOf_3 : (.fieldLink RX1 22 "SectionFibres$Section" "places" "[I" : Cond) ∈ wsX1_sumOf := by decide +kernel
set_option maxHeartbeats 4000000 in
set_option maxRecDepth 100000 in
theorem c_X1_sumOf (l : Launch) (dC : Nat → ClassId) (dI : Nat → Nat → Nat) (cA : ClassId) (H : Heap) (A : Nat → Nat) (g : Gg) (n : Nat) (hs pe pk : Int32) (fo mo : Int64) (hP : va_P (dC, dI) vwCl (wC cA A g n hs pe pk fo mo) H) (hg : InvG g) (hn : n ≤ 41) (w : Bool) (wh : Int32) (hw : wh = 1 ↔ w = true) (ee kb : Int32) : Met l yX1_sumOf wsX1_sumOf ({ frames := 3, cells := 0, slots := 0, locals := 74 }) (rd_P [.ref (A 1), .int wh, .int ee, .int kb] H (dC, dI) vwCl [(cA, .int)]) (rd_Ql H (fun r => r = smF g w ee kb n)) 0 0 nF := by
  refine Met.ofW (cc := cX1_sumOf) (maxL := 9) (ret := (some .long)) (by decide) rfl ?_
  intro p e s m args below meth c s₁ B hml hv
  obtain ⟨rfl, hH, hK, hN⟩ := hv
  subst hH
  have hx := B.exec
  have hb := B.bytes
  have hr := B.returns
  have hts := atoms_spec (ws := wsX1_sumOf) B.pre
  have hown : s.vm.findClass RX1 = some m.cls := findClass_of_methodNamed B.named
  have hlocks := B.notSynchronized
  have hS : va_S nF s.heap s.heap [] := va_S.rf
  have hl := lv_entry ([.ref (A 1), .int wh, .int ee, .int kb]) (n := 9) (Nat.le_of_ble_eq_true rfl)
  rw [lg_entry_eq]
  generalize (lg_sl ([.ref (A 1), .int wh, .int ee, .int kb]) ++ List.replicate (9 - (lg_sl ([.ref (A 1), .int wh, .int ee, .int kb])).length) Slot.unset).toArray = ls at hl ⊢
  have hl : lv_has ls 9 [(0, .ref (A 1)), (1, .int wh), (2, .int ee), (3, .int kb)] := hl
  refine lv_lconst (v := 0) hx hb dX1_sumOf_0 (by decide) ?_
  refine lv_lstore (lv' := [(4, .long 0), (0, .ref (A 1)), (1, .int wh), (2, .int ee), (3, .int kb)]) hx hb dX1_sumOf_1 hl (by decide) rfl (fun ls hl => ?_)
  refine lv_iconst (v := 0) hx hb dX1_sumOf_3 (by decide) ?_
  refine tp_i (v := nI 0) (rfl) ?_
  refine lv_istore (lv' := [(6, .int (nI 0)), (4, .long 0), (0, .ref (A 1)), (1, .int wh), (2, .int ee), (3, .int kb)]) hx hb dX1_sumOf_4 hl (by decide) rfl (fun ls hl => ?_)
  have lp : ∀ (z : Nat) (i : Nat) (locs : List Loc) (ls : Array Slot), i ≤ n → n + 1 ≤ i + z → va_S nF s.heap s.heap locs → lv_has ls 9 [(0, .ref (A 1)), (1, .int wh), (2, .int ee), (3, .int kb), (4, .long (smF g w ee kb i)), (6, .int (nI i))] → W p l e (headSpec wsX1_sumOf ({ frames := 3, cells := 0, slots := 0, locals := 74 })).room s m ([.ref (A 1), .int wh, .int ee, .int kb]).toArray below meth c s.heap locs 0 0 (MQ below (rd_Ql s.heap (fun r => r = smF g w ee kb n)) ([.ref (A 1), .int wh, .int ee, .int kb]).toArray s 0 0 nF) (F0 m 6 ls []) := by
    intro z
    induction z with
    | zero =>
      intro i locs ls h1 h2 hS hl
      exact absurd h2 (by omega)
    | succ z ih =>
      intro i locs ls h1 h2 hS hl
      refine lv_iload hx hb dX1_sumOf_6 (lv_at hl 5 rfl) ?_
      refine lv_aload_n hx hb dX1_sumOf_8 rfl (lv_at hl 0 rfl) ?_
      refine va_get (D := (dC, dI)) (ci := 2) (v := .int (nI n)) (C := RX1) (T := TX1) (N := 7) hx hb hts miX1_sumOf_X1 hown hK hP 1 rfl rfl 6 (by decide) (hts (.fieldLink RX1 34 "SectionFibres$Section" "size" "I") mbX1_sumOf_1) (fun _ h9 => h9) rfl dX1_sumOf_9 ?_
      refine lv_icmp_ge (tgt := 67) hx hb dX1_sumOf_12 (by decide) (fun c1 => ?_) (fun c1 => ?_)
      · have hi : i = n := by have h9 := (nI_leI (by omega) (by omega)).mp c1; omega
        refine lv_lload hx hb dX1_sumOf_67 (lv_at hl 4 rfl) ?_
        exact W.lret (v := (smF g w ee kb i)) hx hb hr (fun t9 ht9 hW9 => ⟨⟨_, (), rfl, (by rw [hi]), ht9⟩, hS.F ht9⟩) hS.2.2 dX1_sumOf_69
      · have hi : i < n := by rcases Nat.lt_or_ge i n with h9 | h9; exact h9; exact absurd (nI_le h9 (by omega)) c1
        refine lv_aload_n hx hb dX1_sumOf_15 rfl (lv_at hl 0 rfl) ?_
        refine va_get (D := (dC, dI)) (ci := 2) (v := .ref (A 3)) (C := RX1) (T := TX1) (N := 7) hx hb hts miX1_sumOf_X1 hown hK hP 1 rfl rfl 1 (by decide) (hts (.fieldLink RX1 18 "SectionFibres$Section" "areas" "[I") mbX1_sumOf_2) (fun _ h9 => h9) rfl dX1_sumOf_16 ?_
        refine lv_iload hx hb dX1_sumOf_19 (lv_at hl 5 rfl) ?_
        refine ialn hx hb hK hP 3 0 rfl rfl i (rfl) (by omega) (by decide) dX1_sumOf_21 ?_
        refine lv_i2l hx hb dX1_sumOf_22 rfl ?_
        refine lv_aload_n hx hb dX1_sumOf_23 rfl (lv_at hl 0 rfl) ?_
        refine lv_iload hx hb dX1_sumOf_24 (lv_at hl 5 rfl) ?_
        refine lv_iload_n hx hb dX1_sumOf_26 rfl (lv_at hl 2 rfl) ?_
        refine lv_iload_n hx hb dX1_sumOf_27 rfl (lv_at hl 3 rfl) ?_
        refine rd_i (va_runV (As := [.int (nI i), .int ee, .int kb]) (rest := [.long ((g 0 i).toInt64)]) ⟨hx, hb, hml, hown, hts⟩ (c_X1_stressOn l dC dI cA s.heap A g n hs pe pk fo mo hP hg i (by omega) ee kb) (cwV 3 hts gX1_sumOf_X1_stressOn rfl rfl rfl (by decide +kernel) ⟨Nat.le_of_ble_eq_true rfl, Nat.le_of_ble_eq_true rfl⟩) ⟨rd_bl, va_recv hK hP (ci := 2) (q0 := 1) rfl rfl, rd_pre hK hN⟩ rfl rfl hl.1 rfl (lv_room (Nat.le_of_ble_eq_true rfl)) dX1_sumOf_28 ⟨Nat.zero_le _, Nat.zero_le _⟩) hS (fun r1 locs hq2 hS => ?_)
        have hq2 : r1 = stF g i ee kb := hq2
        subst hq2
        refine lv_i2l hx hb dX1_sumOf_31 rfl ?_
        refine lv_lmul hx hb dX1_sumOf_32 ?_
        refine lv_lstore (lv' := [(7, .long (((g 0 i).toInt64) * ((stF g i ee kb).toInt64))), (0, .ref (A 1)), (1, .int wh), (2, .int ee), (3, .int kb), (4, .long (smF g w ee kb i)), (6, .int (nI i))]) hx hb dX1_sumOf_33 hl (by decide) rfl (fun ls hl => ?_)
        refine lv_lload hx hb dX1_sumOf_35 (lv_at hl 5 rfl) ?_
        refine lv_iload_n hx hb dX1_sumOf_37 rfl (lv_at hl 2 rfl) ?_
        refine lv_iconst (v := 1) hx hb dX1_sumOf_38 (by decide) ?_
        refine lv_icmp_ne (tgt := 56) hx hb dX1_sumOf_39 (by decide) (fun c2 => ?_) (fun c2 => ?_)
        · refine lv_lload hx hb dX1_sumOf_56 (lv_at hl 0 rfl) ?_
          refine lv_ladd hx hb dX1_sumOf_58 ?_
          refine tp_l (v := smF g w ee kb (i + 1)) (by rw [Bool.eq_false_iff.mpr (fun h9 => c2 (hw.mpr h9))]; rfl) ?_
          refine lv_lstore (lv' := [(4, .long (smF g w ee kb (i + 1))), (7, .long (((g 0 i).toInt64) * ((stF g i ee kb).toInt64))), (0, .ref (A 1)), (1, .int wh), (2, .int ee), (3, .int kb), (6, .int (nI i))]) hx hb dX1_sumOf_59 hl (by decide) rfl (fun ls hl => ?_)
          refine lv_iinc (v := nI (i + 1)) (lv' := [(6, .int (nI (i + 1))), (4, .long (smF g w ee kb (i + 1))), (7, .long (((g 0 i).toInt64) * ((stF g i ee kb).toInt64))), (0, .ref (A 1)), (1, .int wh), (2, .int ee), (3, .int kb)]) hx hb dX1_sumOf_61 hl (k := 6) rfl (nI_1 i) (by decide) rfl (fun ls hl => ?_)
          refine lv_goto (tgt := 6) hx hb dX1_sumOf_64 (by decide) ?_
          exact ih (i + 1) _ _ (by omega) (by omega) hS (lv_sub hl [3, 4, 5, 6, 1, 0] rfl)
        · refine lv_lload hx hb dX1_sumOf_42 (lv_at hl 0 rfl) ?_
          refine lv_aload_n hx hb dX1_sumOf_44 rfl (lv_at hl 1 rfl) ?_
          refine va_get (D := (dC, dI)) (ci := 2) (v := .ref (A 4)) (C := RX1) (T := TX1) (N := 7) hx hb hts miX1_sumOf_X1 hown hK hP 1 rfl rfl 2 (by decide) (hts (.fieldLink RX1 22 "SectionFibres$Section" "places" "[I") mbX1_sumOf_3) (fun _ h9 => h9) rfl dX1_sumOf_45 ?_
          refine lv_iload hx hb dX1_sumOf_48 (lv_at hl 6 rfl) ?_
          refine ialn hx hb hK hP 4 0 rfl rfl i (rfl) (by omega) (by decide) dX1_sumOf_50 ?_
          refine lv_i2l hx hb dX1_sumOf_51 rfl ?_
          refine lv_lmul hx hb dX1_sumOf_52 ?_
          refine lv_goto (tgt := 58) hx hb dX1_sumOf_53 (by decide) ?_
          refine lv_ladd hx hb dX1_sumOf_58 ?_
          refine tp_l (v := smF g w ee kb (i + 1)) (by rw [hw.mp c2]; rfl) ?_
          refine lv_lstore (lv' := [(4, .long (smF g w ee kb (i + 1))), (7, .long (((g 0 i).toInt64) * ((stF g i ee kb).toInt64))), (0, .ref (A 1)), (1, .int wh), (2, .int ee), (3, .int kb), (6, .int (nI i))]) hx hb dX1_sumOf_59 hl (by decide) rfl (fun ls hl => ?_)
          refine lv_iinc (v := nI (i + 1)) (lv' := [(6, .int (nI (i + 1))), (4, .long (smF g w ee kb (i + 1))), (7, .long (((g 0 i).toInt64) * ((stF g i ee kb).toInt64))), (0, .ref (A 1)), (1, .int wh), (2, .int ee), (3, .int kb)]) hx hb dX1_sumOf_61 hl (k := 6) rfl (nI_1 i) (by decide) rfl (fun ls hl => ?_)
          refine lv_goto (tgt := 6) hx hb dX1_sumOf_64 (by decide) ?_
          exact ih (i + 1) _ _ (by omega) (by omega) hS (lv_sub hl [3, 4, 5, 6, 1, 0] rfl)
  exact lp (n + 1) 0 _ _ (Nat.zero_le _) (by omega) hS (lv_sub hl [2, 3, 4, 5, 1, 0] rfl)

set_option maxRecDepth 20000 in
theorem miX1_firstBeyond_X1 : ∀ w ∈ u_ws RX1 TX1 7, w ∈ wsX1_firstBeyond := by decide +kernel
set_option maxRecDepth 20000 in
theorem mbX1_firstBeyond_1 : (.fieldLink RX1 34 "SectionFibres$Section" "size" "I" : Cond) ∈ wsX1_firstBeyond := by decide +kernel
set_option maxRecDepth 20000 in
theorem mbX1_firstBeyond_2 : (.fieldLink RX1 12 "SectionFibres$Section" "kinds" "LSectionFibres$Kinds;" : Cond) ∈ wsX1_firstBeyond := by decide +kernel
set_option maxRecDepth 20000 in
theorem mbX1_firstBeyond_3 : (.fieldLink RX1 25 "SectionFibres$Section" "kindOf" "[I" : Cond) ∈ wsX1_firstBeyond := by decide +kernel
set_option maxRecDepth 20000 in
theorem mbX1_firstBeyond_4 : (.initialized RX0 : Cond) ∈ wsX1_firstBeyond := by decide +kernel
set_option maxRecDepth 20000 in
theorem mbX1_firstBeyond_5 : (.instanceMethod yX0_isBeyond : Cond) ∈ wsX1_firstBeyond := by decide +kernel
set_option maxRecDepth 20000 in
theorem mbX1_firstBeyond_6 : (.selects RX0 yX0_isBeyond yX0_isBeyond : Cond) ∈ wsX1_firstBeyond := by decide +kernel
set_option maxHeartbeats 4000000 in
set_option maxRecDepth 100000 in
theorem c_X1_firstBeyond (l : Launch) (dC : Nat → ClassId) (dI : Nat → Nat → Nat) (cA : ClassId) (H : Heap) (A : Nat → Nat) (g : Gg) (n : Nat) (hs pe pk : Int32) (fo mo : Int64) (hP : va_P (dC, dI) vwCl (wC cA A g n hs pe pk fo mo) H) (hg : InvG g) (hn : n ≤ 41) (ee kb : Int32) : Met l yX1_firstBeyond wsX1_firstBeyond ({ frames := 2, cells := 0, slots := 0, locals := 50 }) (rd_P [.ref (A 1), .int ee, .int kb] H (dC, dI) vwCl [(cA, .int)]) (rd_Qi H (fun r => r = fbF g ee kb n 0)) 0 0 nF := by
  refine Met.ofW (cc := cX1_firstBeyond) (maxL := 4) (ret := (some .int)) (by decide) rfl ?_
  intro p e s m args below meth c s₁ B hml hv
  obtain ⟨rfl, hH, hK, hN⟩ := hv
  subst hH
  have hx := B.exec
  have hb := B.bytes
  have hr := B.returns
  have hts := atoms_spec (ws := wsX1_firstBeyond) B.pre
  have hown : s.vm.findClass RX1 = some m.cls := findClass_of_methodNamed B.named
  have hlocks := B.notSynchronized
  have hS : va_S nF s.heap s.heap [] := va_S.rf
  have hl := lv_entry ([.ref (A 1), .int ee, .int kb]) (n := 4) (Nat.le_of_ble_eq_true rfl)
  rw [lg_entry_eq]
  generalize (lg_sl ([.ref (A 1), .int ee, .int kb]) ++ List.replicate (4 - (lg_sl ([.ref (A 1), .int ee, .int kb])).length) Slot.unset).toArray = ls at hl ⊢
  have hl : lv_has ls 4 [(0, .ref (A 1)), (1, .int ee), (2, .int kb)] := hl
  refine lv_iconst (v := 0) hx hb dX1_firstBeyond_0 (by decide) ?_
  refine tp_i (v := nI 0) (rfl) ?_
  refine lv_istore_n (lv' := [(3, .int (nI 0)), (0, .ref (A 1)), (1, .int ee), (2, .int kb)]) hx hb dX1_firstBeyond_1 rfl hl (by decide) rfl (fun ls hl => ?_)
  have lp : ∀ (z : Nat) (i : Nat) (locs : List Loc) (ls : Array Slot), i ≤ n → n + 1 ≤ i + z → fbF g ee kb n 0 = fbF g ee kb (n - i) i → va_S nF s.heap s.heap locs → lv_has ls 4 [(0, .ref (A 1)), (1, .int ee), (2, .int kb), (3, .int (nI i))] → W p l e (headSpec wsX1_firstBeyond ({ frames := 2, cells := 0, slots := 0, locals := 50 })).room s m ([.ref (A 1), .int ee, .int kb]).toArray below meth c s.heap locs 0 0 (MQ below (rd_Qi s.heap (fun r => r = fbF g ee kb n 0)) ([.ref (A 1), .int ee, .int kb]).toArray s 0 0 nF) (F0 m 2 ls []) := by
    intro z
    induction z with
    | zero =>
      intro i locs ls h1 h2 hv hS hl
      exact absurd h2 (by omega)
    | succ z ih =>
      intro i locs ls h1 h2 hv hS hl
      refine lv_iload_n hx hb dX1_firstBeyond_2 rfl (lv_at hl 3 rfl) ?_
      refine lv_aload_n hx hb dX1_firstBeyond_3 rfl (lv_at hl 0 rfl) ?_
      refine va_get (D := (dC, dI)) (ci := 2) (v := .int (nI n)) (C := RX1) (T := TX1) (N := 7) hx hb hts miX1_firstBeyond_X1 hown hK hP 1 rfl rfl 6 (by decide) (hts (.fieldLink RX1 34 "SectionFibres$Section" "size" "I") mbX1_firstBeyond_1) (fun _ h9 => h9) rfl dX1_firstBeyond_4 ?_
      refine lv_icmp_ge (tgt := 41) hx hb dX1_firstBeyond_7 (by decide) (fun c1 => ?_) (fun c1 => ?_)
      · have hi : i = n := by have h9 := (nI_leI (by omega) (by omega)).mp c1; omega
        refine lv_iconst (v := (-1)) hx hb dX1_firstBeyond_41 (by decide) ?_
        exact W.iret (v := (-1)) hx hb hr (fun t9 ht9 hW9 => ⟨⟨_, (), rfl, (by rw [hv, hi, Nat.sub_self]; rfl), ht9⟩, hS.F ht9⟩) hS.2.2 dX1_firstBeyond_42
      · have hi : i < n := by rcases Nat.lt_or_ge i n with h9 | h9; exact h9; exact absurd (nI_le h9 (by omega)) c1
        refine lv_aload_n hx hb dX1_firstBeyond_10 rfl (lv_at hl 0 rfl) ?_
        refine va_get (D := (dC, dI)) (ci := 2) (v := .ref (A 2)) (C := RX1) (T := TX1) (N := 7) hx hb hts miX1_firstBeyond_X1 hown hK hP 1 rfl rfl 0 (by decide) (hts (.fieldLink RX1 12 "SectionFibres$Section" "kinds" "LSectionFibres$Kinds;") mbX1_firstBeyond_2) (fun _ h9 => h9) rfl dX1_firstBeyond_11 ?_
        refine lv_aload_n hx hb dX1_firstBeyond_14 rfl (lv_at hl 0 rfl) ?_
        refine va_get (D := (dC, dI)) (ci := 2) (v := .ref (A 5)) (C := RX1) (T := TX1) (N := 7) hx hb hts miX1_firstBeyond_X1 hown hK hP 1 rfl rfl 3 (by decide) (hts (.fieldLink RX1 25 "SectionFibres$Section" "kindOf" "[I") mbX1_firstBeyond_3) (fun _ h9 => h9) rfl dX1_firstBeyond_15 ?_
        refine lv_iload_n hx hb dX1_firstBeyond_18 rfl (lv_at hl 3 rfl) ?_
        refine ialn hx hb hK hP 5 0 rfl rfl i (rfl) (by omega) (by decide) dX1_firstBeyond_19 ?_
        refine lv_aload_n hx hb dX1_firstBeyond_20 rfl (lv_at hl 0 rfl) ?_
        refine lv_iload_n hx hb dX1_firstBeyond_21 rfl (lv_at hl 3 rfl) ?_
        refine lv_iload_n hx hb dX1_firstBeyond_22 rfl (lv_at hl 1 rfl) ?_
        refine lv_iload_n hx hb dX1_firstBeyond_23 rfl (lv_at hl 2 rfl) ?_
        refine rd_i (va_runV (As := [.int (nI i), .int ee, .int kb]) (rest := [.int (g 2 i), .ref (A 2)]) ⟨hx, hb, hml, hown, hts⟩ (c_X1_worksOn l dC dI cA s.heap A g n hs pe pk fo mo hP hg i (by omega) ee kb) (cwV 3 hts gX1_firstBeyond_X1_worksOn rfl rfl rfl (by decide +kernel) ⟨Nat.le_of_ble_eq_true rfl, Nat.le_of_ble_eq_true rfl⟩) ⟨rd_bl, va_recv hK hP (ci := 2) (q0 := 1) rfl rfl, rd_pre hK hN⟩ rfl rfl hl.1 rfl (lv_room (Nat.le_of_ble_eq_true rfl)) dX1_firstBeyond_24 ⟨Nat.zero_le _, Nat.zero_le _⟩) hS (fun r1 locs hq2 hS => ?_)
        have hq2 : r1 = wkF g i ee kb := hq2
        subst hq2
        refine rd_i (va_runVN (As := [.int (g 2 i), .int (wkF g i ee kb)]) (rest := []) ⟨hx, hb, hml, hown, hts⟩ (c_X0_isBeyond l dC dI cA s.heap A g n hs pe pk fo mo hP hg (g 2 i) (wkF g i ee kb) (hg.1 i (by omega))) ⟨(va_cnB 2 hts gX1_firstBeyond_X0_isBeyond_n70 rfl rfl rfl (hN (.methodLinkNest RX1 70 yX0_isBeyond "SectionFibres") (List.mem_of_getElem? (i := 13) rfl)) (hts (.initialized RX0) mbX1_firstBeyond_4) (by decide +kernel) ⟨Nat.le_of_ble_eq_true rfl, Nat.le_of_ble_eq_true rfl⟩), hts (.instanceMethod yX0_isBeyond) mbX1_firstBeyond_5, hts (.selects RX0 yX0_isBeyond yX0_isBeyond) mbX1_firstBeyond_6⟩ ⟨rd_bl, va_recv hK hP (ci := 1) (q0 := 2) rfl rfl, rd_pre hK hN⟩ rfl rfl hl.1 rfl (lv_room (Nat.le_of_ble_eq_true rfl)) dX1_firstBeyond_27 ⟨Nat.zero_le _, Nat.zero_le _⟩) hS (fun r3 locs hq4 hS => ?_)
        rcases hq4 with ⟨hq4, rfl⟩ | ⟨hq4, rfl⟩
        · have hq9 : byF g (g 2 i) (wkF g i ee kb) := hq4
          refine lv_if_eq (tgt := 35) hx hb dX1_firstBeyond_30 (by decide) (fun h9 => absurd h9 (by decide)) (fun _ => ?_)
          refine lv_iload_n hx hb dX1_firstBeyond_33 rfl (lv_at hl 3 rfl) ?_
          exact W.iret (v := (nI i)) hx hb hr (fun t9 ht9 hW9 => ⟨⟨_, (), rfl, (by rw [hv, show n - i = (n - (i + 1)) + 1 by omega, fbF_t hq9]), ht9⟩, hS.F ht9⟩) hS.2.2 dX1_firstBeyond_34
        · have hq9 : ¬ (byF g (g 2 i) (wkF g i ee kb)) := hq4
          refine lv_if_eq (tgt := 35) hx hb dX1_firstBeyond_30 (by decide) (fun _ => ?_) (fun h9 => absurd h9 (by decide))
          refine lv_iinc (v := nI (i + 1)) (lv' := [(3, .int (nI (i + 1))), (0, .ref (A 1)), (1, .int ee), (2, .int kb)]) hx hb dX1_firstBeyond_35 hl (k := 3) rfl (nI_1 i) (by decide) rfl (fun ls hl => ?_)
          refine lv_goto (tgt := 2) hx hb dX1_firstBeyond_38 (by decide) ?_
          exact ih (i + 1) _ _ (by omega) (by omega) (by rw [hv, show n - i = (n - (i + 1)) + 1 by omega, fbF_f hq9]) hS (lv_sub hl [1, 2, 3, 0] rfl)
  exact lp (n + 1) 0 _ _ (Nat.zero_le _) (by omega) rfl hS (lv_sub hl [1, 2, 3, 0] rfl)

set_option maxRecDepth 20000 in
theorem miX1_allAreas_X1 : ∀ w ∈ u_ws RX1 TX1 7, w ∈ wsX1_allAreas := by decide +kernel
set_option maxRecDepth 20000 in
theorem mbX1_allAreas_1 : (.fieldLink RX1 34 "SectionFibres$Section" "size" "I" : Cond) ∈ wsX1_allAreas := by decide +kernel
set_option maxRecDepth 20000 in
theorem mbX1_allAreas_2 : (.fieldLink RX1 18 "SectionFibres$Section" "areas" "[I" : Cond) ∈ wsX1_allAreas := by decide +kernel
set_option maxHeartbeats 4000000 in
set_option maxRecDepth 100000 in
theorem c_X1_allAreas (l : Launch) (dC : Nat → ClassId) (dI : Nat → Nat → Nat) (cA : ClassId) (H : Heap) (A : Nat → Nat) (g : Gg) (n : Nat) (hs pe pk : Int32) (fo mo : Int64) (hP : va_P (dC, dI) vwCl (wC cA A g n hs pe pk fo mo) H) (hn : n ≤ 41) : Met l yX1_allAreas wsX1_allAreas ({ frames := 0, cells := 0, slots := 0, locals := 0 }) (rd_P [.ref (A 1)] H (dC, dI) vwCl [(cA, .int)]) (rd_Qi H (fun r => r = arF g n)) 0 0 nF := by
  refine Met.ofW (cc := cX1_allAreas) (maxL := 3) (ret := (some .int)) (by decide) rfl ?_
  intro p e s m args below meth c s₁ B hml hv
  obtain ⟨rfl, hH, hK, hN⟩ := hv
  subst hH
  have hx := B.exec
  have hb := B.bytes
  have hr := B.returns
  have hts := atoms_spec (ws := wsX1_allAreas) B.pre
  have hown : s.vm.findClass RX1 = some m.cls := findClass_of_methodNamed B.named
  have hlocks := B.notSynchronized
  have hS : va_S nF s.heap s.heap [] := va_S.rf
  have hl := lv_entry ([.ref (A 1)]) (n := 3) (Nat.le_of_ble_eq_true rfl)
  rw [lg_entry_eq]
  generalize (lg_sl ([.ref (A 1)]) ++ List.replicate (3 - (lg_sl ([.ref (A 1)])).length) Slot.unset).toArray = ls at hl ⊢
  have hl : lv_has ls 3 [(0, .ref (A 1))] := hl
  refine lv_iconst (v := 0) hx hb dX1_allAreas_0 (by decide) ?_
  refine lv_istore_n (lv' := [(1, .int 0), (0, .ref (A 1))]) hx hb dX1_allAreas_1 rfl hl (by decide) rfl (fun ls hl => ?_)
  refine lv_iconst (v := 0) hx hb dX1_allAreas_2 (by decide) ?_
  refine tp_i (v := nI 0) (rfl) ?_
  refine lv_istore_n (lv' := [(2, .int (nI 0)), (1, .int 0), (0, .ref (A 1))]) hx hb dX1_allAreas_3 rfl hl (by decide) rfl (fun ls hl => ?_)
  have lp : ∀ (z : Nat) (i : Nat) (locs : List Loc) (ls : Array Slot), i ≤ n → n + 1 ≤ i + z → va_S nF s.heap s.heap locs → lv_has ls 3 [(0, .ref (A 1)), (1, .int (arF g i)), (2, .int (nI i))] → W p l e (headSpec wsX1_allAreas ({ frames := 0, cells := 0, slots := 0, locals := 0 })).room s m ([.ref (A 1)]).toArray below meth c s.heap locs 0 0 (MQ below (rd_Qi s.heap (fun r => r = arF g n)) ([.ref (A 1)]).toArray s 0 0 nF) (F0 m 4 ls []) := by
    intro z
    induction z with
    | zero =>
      intro i locs ls h1 h2 hS hl
      exact absurd h2 (by omega)
    | succ z ih =>
      intro i locs ls h1 h2 hS hl
      refine lv_iload_n hx hb dX1_allAreas_4 rfl (lv_at hl 2 rfl) ?_
      refine lv_aload_n hx hb dX1_allAreas_5 rfl (lv_at hl 0 rfl) ?_
      refine va_get (D := (dC, dI)) (ci := 2) (v := .int (nI n)) (C := RX1) (T := TX1) (N := 7) hx hb hts miX1_allAreas_X1 hown hK hP 1 rfl rfl 6 (by decide) (hts (.fieldLink RX1 34 "SectionFibres$Section" "size" "I") mbX1_allAreas_1) (fun _ h9 => h9) rfl dX1_allAreas_6 ?_
      refine lv_icmp_ge (tgt := 27) hx hb dX1_allAreas_9 (by decide) (fun c1 => ?_) (fun c1 => ?_)
      · have hi : i = n := by have h9 := (nI_leI (by omega) (by omega)).mp c1; omega
        refine lv_iload_n hx hb dX1_allAreas_27 rfl (lv_at hl 1 rfl) ?_
        exact W.iret (v := (arF g i)) hx hb hr (fun t9 ht9 hW9 => ⟨⟨_, (), rfl, (by rw [hi]), ht9⟩, hS.F ht9⟩) hS.2.2 dX1_allAreas_28
      · have hi : i < n := by rcases Nat.lt_or_ge i n with h9 | h9; exact h9; exact absurd (nI_le h9 (by omega)) c1
        refine lv_iload_n hx hb dX1_allAreas_12 rfl (lv_at hl 1 rfl) ?_
        refine lv_aload_n hx hb dX1_allAreas_13 rfl (lv_at hl 0 rfl) ?_
        refine va_get (D := (dC, dI)) (ci := 2) (v := .ref (A 3)) (C := RX1) (T := TX1) (N := 7) hx hb hts miX1_allAreas_X1 hown hK hP 1 rfl rfl 1 (by decide) (hts (.fieldLink RX1 18 "SectionFibres$Section" "areas" "[I") mbX1_allAreas_2) (fun _ h9 => h9) rfl dX1_allAreas_14 ?_
        refine lv_iload_n hx hb dX1_allAreas_17 rfl (lv_at hl 2 rfl) ?_
        refine ialn hx hb hK hP 3 0 rfl rfl i (rfl) (by omega) (by decide) dX1_allAreas_18 ?_
        refine lv_iadd hx hb dX1_allAreas_19 ?_
        refine tp_i (v := arF g (i + 1)) (rfl) ?_
        refine lv_istore_n (lv' := [(1, .int (arF g (i + 1))), (0, .ref (A 1)), (2, .int (nI i))]) hx hb dX1_allAreas_20 rfl hl (by decide) rfl (fun ls hl => ?_)
        refine lv_iinc (v := nI (i + 1)) (lv' := [(2, .int (nI (i + 1))), (1, .int (arF g (i + 1))), (0, .ref (A 1))]) hx hb dX1_allAreas_21 hl (k := 2) rfl (nI_1 i) (by decide) rfl (fun ls hl => ?_)
        refine lv_goto (tgt := 4) hx hb dX1_allAreas_24 (by decide) ?_
        exact ih (i + 1) _ _ (by omega) (by omega) hS (lv_sub hl [2, 1, 0] rfl)
  exact lp (n + 1) 0 _ _ (Nat.zero_le _) (by omega) hS (lv_sub hl [2, 1, 0] rfl)

set_option maxRecDepth 20000 in
theorem mbX1_balanceOf_0 : (.constant RX1 78 (-1000000) : Cond) ∈ wsX1_balanceOf := by decide +kernel
set_option maxHeartbeats 4000000 in
set_option maxRecDepth 100000 in
theorem c_X1_balanceOf (l : Launch) (dC : Nat → ClassId) (dI : Nat → Nat → Nat) (cA : ClassId) (H : Heap) (A : Nat → Nat) (g : Gg) (n : Nat) (hs pe pk : Int32) (fo mo : Int64) (hP : va_P (dC, dI) vwCl (wC cA A g n hs pe pk fo mo) H) (hg : InvG g) (hn : n ≤ 41) (fr : Int64) (kb : Int32) : Met l yX1_balanceOf wsX1_balanceOf ({ frames := 4, cells := 0, slots := 0, locals := 102 }) (rd_P [.ref (A 1), .long fr, .int kb] H (dC, dI) vwCl [(cA, .int)]) (rd_Qi H (fun r => r = blF g n fr kb)) 0 0 nF := by
  refine Met.ofW (cc := cX1_balanceOf) (maxL := 8) (ret := (some .int)) (by decide) rfl ?_
  intro p e s m args below meth c s₁ B hml hv
  obtain ⟨rfl, hH, hK, hN⟩ := hv
  subst hH
  have hx := B.exec
  have hb := B.bytes
  have hr := B.returns
  have hts := atoms_spec (ws := wsX1_balanceOf) B.pre
  have hown : s.vm.findClass RX1 = some m.cls := findClass_of_methodNamed B.named
  have hlocks := B.notSynchronized
  have hS : va_S nF s.heap s.heap [] := va_S.rf
  have hl := lv_entry ([.ref (A 1), .long fr, .int kb]) (n := 8) (Nat.le_of_ble_eq_true rfl)
  rw [lg_entry_eq]
  generalize (lg_sl ([.ref (A 1), .long fr, .int kb]) ++ List.replicate (8 - (lg_sl ([.ref (A 1), .long fr, .int kb])).length) Slot.unset).toArray = ls at hl ⊢
  have hl : lv_has ls 8 [(0, .ref (A 1)), (1, .long fr), (3, .int kb)] := hl
  refine lv_sipush (v := (-20000)) hx hb dX1_balanceOf_0 (by decide) ?_
  refine tp_i (v := iI (-20000)) (by decide) ?_
  refine lv_istore (lv' := [(4, .int (iI (-20000))), (0, .ref (A 1)), (1, .long fr), (3, .int kb)]) hx hb dX1_balanceOf_3 hl (by decide) rfl (fun ls hl => ?_)
  refine lv_sipush (v := 20000) hx hb dX1_balanceOf_5 (by decide) ?_
  refine tp_i (v := iI 20000) (by decide) ?_
  refine lv_istore (lv' := [(5, .int (iI 20000)), (4, .int (iI (-20000))), (0, .ref (A 1)), (1, .long fr), (3, .int kb)]) hx hb dX1_balanceOf_8 hl (by decide) rfl (fun ls hl => ?_)
  refine lv_aload_n hx hb dX1_balanceOf_10 rfl (lv_at hl 2 rfl) ?_
  refine lv_iconst (v := 0) hx hb dX1_balanceOf_11 (by decide) ?_
  refine lv_iload hx hb dX1_balanceOf_12 (lv_at hl 0 rfl) ?_
  refine lv_iload_n hx hb dX1_balanceOf_14 rfl (lv_at hl 4 rfl) ?_
  refine rd_l (va_runV (As := [.int 0, .int (iI 20000), .int kb]) (rest := []) ⟨hx, hb, hml, hown, hts⟩ (c_X1_sumOf l dC dI cA s.heap A g n hs pe pk fo mo hP hg hn false 0 (by decide) (iI 20000) kb) (cwV 3 hts gX1_balanceOf_X1_sumOf rfl rfl rfl (by decide +kernel) ⟨Nat.le_of_ble_eq_true rfl, Nat.le_of_ble_eq_true rfl⟩) ⟨rd_bl, va_recv hK hP (ci := 2) (q0 := 1) rfl rfl, rd_pre hK hN⟩ rfl rfl hl.1 rfl (lv_room (Nat.le_of_ble_eq_true rfl)) dX1_balanceOf_15 ⟨Nat.zero_le _, Nat.zero_le _⟩) hS (fun r1 locs hq2 hS => ?_)
  have hq2 : r1 = smF g false (iI 20000) kb n := hq2
  subst hq2
  refine lv_lload_n hx hb dX1_balanceOf_18 rfl (lv_at hl 3 rfl) ?_
  refine W.lcmp hx hb dX1_balanceOf_19 ?_
  refine lv_if_ge (tgt := 26) hx hb dX1_balanceOf_20 (by decide) (fun c1 => ?_) (fun c1 => ?_)
  · have c1 := (lg_cmp_ge _ _).mp c1
    refine lv_iconst (v := 0) hx hb dX1_balanceOf_26 (by decide) ?_
    refine tp_i (v := nI 0) (rfl) ?_
    refine lv_istore (lv' := [(6, .int (nI 0)), (5, .int (iI 20000)), (4, .int (iI (-20000))), (0, .ref (A 1)), (1, .long fr), (3, .int kb)]) hx hb dX1_balanceOf_27 hl (by decide) rfl (fun ls hl => ?_)
    have lp : ∀ (z : Nat) (a : Int) (b : Int) (j : Nat) (locs : List Loc) (ls : Array Slot), -20000 ≤ a → a ≤ 20000 → -20000 ≤ b → b ≤ 20000 → j ≤ 32 → 33 ≤ j + z → bsF (fun x => fr ≤ smF g false (iI x) kb n) 32 (-20000) 20000 = bsF (fun x => fr ≤ smF g false (iI x) kb n) (32 - j) a b → va_S nF s.heap s.heap locs → lv_has ls 8 [(0, .ref (A 1)), (1, .long fr), (3, .int kb), (4, .int (iI a)), (5, .int (iI b)), (6, .int (nI j))] → W p l e (headSpec wsX1_balanceOf ({ frames := 4, cells := 0, slots := 0, locals := 102 })).room s m ([.ref (A 1), .long fr, .int kb]).toArray below meth c s.heap locs 0 0 (MQ below (rd_Qi s.heap (fun r => r = blF g n fr kb)) ([.ref (A 1), .long fr, .int kb]).toArray s 0 0 nF) (F0 m 29 ls []) := by
      intro z
      induction z with
      | zero =>
        intro a b j locs ls a1 a2 b1 b2 h1 h2 hv hS hl
        exact absurd h2 (by omega)
      | succ z ih =>
        intro a b j locs ls a1 a2 b1 b2 h1 h2 hv hS hl
        refine lv_iload hx hb dX1_balanceOf_29 (lv_at hl 5 rfl) ?_
        refine lv_bipush (v := 32) hx hb dX1_balanceOf_31 (by decide) ?_
        refine tp_i (v := nI 32) (rfl) ?_
        refine lv_icmp_ge (tgt := 86) hx hb dX1_balanceOf_33 (by decide) (fun c2 => ?_) (fun c2 => ?_)
        · have hj : j = 32 := by have h9 := (nI_leI (by omega) (by omega)).mp c2; omega
          refine lv_iload hx hb dX1_balanceOf_86 (lv_at hl 3 rfl) ?_
          exact W.iret (v := (iI a)) hx hb hr (fun t9 ht9 hW9 => ⟨⟨_, (), rfl, (by unfold blF; rw [if_neg (le_nlt64 c1), hv, hj, Nat.sub_self, show bsF (fun x => fr ≤ smF g false (iI x) kb n) 0 a b = a from rfl]), ht9⟩, hS.F ht9⟩) hS.2.2 dX1_balanceOf_88
        · have hj : j < 32 := by rcases Nat.lt_or_ge j 32 with h9 | h9; exact h9; exact absurd (nI_le h9 (by omega)) c2
          refine lv_iload hx hb dX1_balanceOf_36 (lv_at hl 3 rfl) ?_
          refine lv_iload hx hb dX1_balanceOf_38 (lv_at hl 4 rfl) ?_
          refine lv_icmp_ge (tgt := 86) hx hb dX1_balanceOf_40 (by decide) (fun c3 => ?_) (fun c3 => ?_)
          · have hab : ¬ a < b := by have h9 := (iI_le (by omega) (by omega) (by omega) (by omega)).mp c3; omega
            refine lv_iload hx hb dX1_balanceOf_86 (lv_at hl 3 rfl) ?_
            exact W.iret (v := (iI a)) hx hb hr (fun t9 ht9 hW9 => ⟨⟨_, (), rfl, (by unfold blF; rw [if_neg (le_nlt64 c1), hv, bs_end hab]), ht9⟩, hS.F ht9⟩) hS.2.2 dX1_balanceOf_88
          · have hab : a < b := by rcases Int.lt_or_le a b with h9 | h9; exact h9; exact absurd ((iI_le (by omega) (by omega) (by omega) (by omega)).mpr h9) c3
            refine lv_iload hx hb dX1_balanceOf_43 (lv_at hl 3 rfl) ?_
            refine lv_iload hx hb dX1_balanceOf_45 (lv_at hl 4 rfl) ?_
            refine lv_iadd hx hb dX1_balanceOf_47 ?_
            refine lv_iconst (v := 2) hx hb dX1_balanceOf_48 (by decide) ?_
            refine rd_i (va_runS (As := [.int ((iI a) + (iI b)), .int 2]) (rest := []) ⟨hx, hb, hml, hown, hts⟩ (c_J9_floorDiv_7cf53 l dC dI cA s.heap ((iI a) + (iI b)) 2 (by decide)) (va_cwS 2 hts gX1_balanceOf_J9_floorDiv_7cf53 rfl rfl rfl (by decide +kernel) ⟨Nat.le_of_ble_eq_true rfl, Nat.le_of_ble_eq_true rfl⟩) ⟨rd_bl, rd_pre hK hN⟩ rfl rfl hl.1 rfl (lv_room (Nat.le_of_ble_eq_true rfl)) dX1_balanceOf_49 ⟨Nat.zero_le _, Nat.zero_le _⟩) hS (fun r3 locs hq4 hS => ?_)
            have hq4 : r3 = fdv ((iI a) + (iI b)) 2 := hq4
            subst hq4
            refine tp_i (v := iI ((a + b) / 2)) (midC a1 a2 b1 b2) ?_
            refine lv_istore (lv' := [(7, .int (iI ((a + b) / 2))), (0, .ref (A 1)), (1, .long fr), (3, .int kb), (4, .int (iI a)), (5, .int (iI b)), (6, .int (nI j))]) hx hb dX1_balanceOf_52 hl (by decide) rfl (fun ls hl => ?_)
            refine lv_aload_n hx hb dX1_balanceOf_54 rfl (lv_at hl 1 rfl) ?_
            refine lv_iconst (v := 0) hx hb dX1_balanceOf_55 (by decide) ?_
            refine lv_iload hx hb dX1_balanceOf_56 (lv_at hl 0 rfl) ?_
            refine lv_iload_n hx hb dX1_balanceOf_58 rfl (lv_at hl 3 rfl) ?_
            refine rd_l (va_runV (As := [.int 0, .int (iI ((a + b) / 2)), .int kb]) (rest := []) ⟨hx, hb, hml, hown, hts⟩ (c_X1_sumOf l dC dI cA s.heap A g n hs pe pk fo mo hP hg hn false 0 (by decide) (iI ((a + b) / 2)) kb) (cwV 3 hts gX1_balanceOf_X1_sumOf rfl rfl rfl (by decide +kernel) ⟨Nat.le_of_ble_eq_true rfl, Nat.le_of_ble_eq_true rfl⟩) ⟨rd_bl, va_recv hK hP (ci := 2) (q0 := 1) rfl rfl, rd_pre hK hN⟩ rfl rfl hl.1 rfl (lv_room (Nat.le_of_ble_eq_true rfl)) dX1_balanceOf_59 ⟨Nat.zero_le _, Nat.zero_le _⟩) hS (fun r5 locs hq6 hS => ?_)
            have hq6 : r5 = smF g false (iI ((a + b) / 2)) kb n := hq6
            subst hq6
            refine lv_lload_n hx hb dX1_balanceOf_62 rfl (lv_at hl 2 rfl) ?_
            refine W.lcmp hx hb dX1_balanceOf_63 ?_
            refine lv_if_lt (tgt := 74) hx hb dX1_balanceOf_64 (by decide) (fun c4 => ?_) (fun c4 => ?_)
            · have c4 := (lg_cmp_lt _ _).mp c4
              refine lv_iload hx hb dX1_balanceOf_74 (lv_at hl 0 rfl) ?_
              refine lv_iconst (v := 1) hx hb dX1_balanceOf_76 (by decide) ?_
              refine lv_iadd hx hb dX1_balanceOf_77 ?_
              refine tp_i (v := iI ((a + b) / 2 + 1)) (by rw [← iI_ad]; rfl) ?_
              refine lv_istore (lv' := [(4, .int (iI ((a + b) / 2 + 1))), (7, .int (iI ((a + b) / 2))), (0, .ref (A 1)), (1, .long fr), (3, .int kb), (5, .int (iI b)), (6, .int (nI j))]) hx hb dX1_balanceOf_78 hl (by decide) rfl (fun ls hl => ?_)
              refine lv_iinc (v := nI (j + 1)) (lv' := [(6, .int (nI (j + 1))), (4, .int (iI ((a + b) / 2 + 1))), (7, .int (iI ((a + b) / 2))), (0, .ref (A 1)), (1, .long fr), (3, .int kb), (5, .int (iI b))]) hx hb dX1_balanceOf_80 hl (k := 6) rfl (nI_1 j) (by decide) rfl (fun ls hl => ?_)
              refine lv_goto (tgt := 29) hx hb dX1_balanceOf_83 (by decide) ?_
              exact ih ((a + b) / 2 + 1) b (j + 1) _ _ (by omega) (by omega) b1 b2 (by omega) (by omega) (by rw [hv, show 32 - j = (32 - (j + 1)) + 1 by omega, bs_f hab (lt_nle64 c4)]) hS (lv_sub hl [3, 4, 5, 1, 6, 0] rfl)
            · have c4 := mt (lg_cmp_lt _ _).mpr c4
              refine lv_iload hx hb dX1_balanceOf_67 (lv_at hl 0 rfl) ?_
              refine lv_istore (lv' := [(5, .int (iI ((a + b) / 2))), (7, .int (iI ((a + b) / 2))), (0, .ref (A 1)), (1, .long fr), (3, .int kb), (4, .int (iI a)), (6, .int (nI j))]) hx hb dX1_balanceOf_69 hl (by decide) rfl (fun ls hl => ?_)
              refine lv_goto (tgt := 80) hx hb dX1_balanceOf_71 (by decide) ?_
              refine lv_iinc (v := nI (j + 1)) (lv' := [(6, .int (nI (j + 1))), (5, .int (iI ((a + b) / 2))), (7, .int (iI ((a + b) / 2))), (0, .ref (A 1)), (1, .long fr), (3, .int kb), (4, .int (iI a))]) hx hb dX1_balanceOf_80 hl (k := 6) rfl (nI_1 j) (by decide) rfl (fun ls hl => ?_)
              refine lv_goto (tgt := 29) hx hb dX1_balanceOf_83 (by decide) ?_
              exact ih a ((a + b) / 2) (j + 1) _ _ a1 a2 (by omega) (by omega) (by omega) (by omega) (by rw [hv, show 32 - j = (32 - (j + 1)) + 1 by omega, bs_t hab (nlt_le64 c4)]) hS (lv_sub hl [3, 4, 5, 6, 1, 0] rfl)
    exact lp 33 (-20000) 20000 0 _ _ (by omega) (by omega) (by omega) (by omega) (by omega) (by omega) rfl hS (lv_sub hl [3, 4, 5, 2, 1, 0] rfl)
  · have c1 := mt (lg_cmp_ge _ _).mpr c1
    refine lv_ldc hx hb hown (hts (.constant RX1 78 (-1000000)) mbX1_balanceOf_0) dX1_balanceOf_23 ?_
    exact W.iret (v := (-1000000)) hx hb hr (fun t9 ht9 hW9 => ⟨⟨_, (), rfl, (by unfold blF; rw [if_pos (nle_lt64 c1)]), ht9⟩, hS.F ht9⟩) hS.2.2 dX1_balanceOf_25

set_option maxRecDepth 20000 in
theorem mbX1_bendFor_0 : (.constant RX1 78 (-1000000) : Cond) ∈ wsX1_bendFor := by decide +kernel
set_option maxRecDepth 20000 in
theorem mbX1_bendFor_1 : (.constant RX1 84 (1000002) : Cond) ∈ wsX1_bendFor := by decide +kernel
set_option maxRecDepth 20000 in
theorem mbX1_bendFor_2 : (.constant RX1 83 (1000001) : Cond) ∈ wsX1_bendFor := by decide +kernel
set_option maxHeartbeats 4000000 in
set_option maxRecDepth 100000 in
theorem c_X1_bendFor (l : Launch) (dC : Nat → ClassId) (dI : Nat → Nat → Nat) (cA : ClassId) (H : Heap) (A : Nat → Nat) (g : Gg) (n : Nat) (hs pe pk : Int32) (fo mo : Int64) (hP : va_P (dC, dI) vwCl (wC cA A g n hs pe pk fo mo) H) (hg : InvG g) (hn : n ≤ 41) (fr mv : Int64) : Met l yX1_bendFor wsX1_bendFor ({ frames := 5, cells := 0, slots := 0, locals := 129 }) (rd_P [.ref (A 1), .long fr, .long mv] H (dC, dI) vwCl [(cA, .int)]) (rd_Qi H (fun r => r = enF (slF g n fr mv))) 0 0 nF := by
  refine Met.ofW (cc := cX1_bendFor) (maxL := 10) (ret := (some .int)) (by decide) rfl ?_
  intro p e s m args below meth c s₁ B hml hv
  obtain ⟨rfl, hH, hK, hN⟩ := hv
  subst hH
  have hx := B.exec
  have hb := B.bytes
  have hr := B.returns
  have hts := atoms_spec (ws := wsX1_bendFor) B.pre
  have hown : s.vm.findClass RX1 = some m.cls := findClass_of_methodNamed B.named
  have hlocks := B.notSynchronized
  have hS : va_S nF s.heap s.heap [] := va_S.rf
  have hl := lv_entry ([.ref (A 1), .long fr, .long mv]) (n := 10) (Nat.le_of_ble_eq_true rfl)
  rw [lg_entry_eq]
  generalize (lg_sl ([.ref (A 1), .long fr, .long mv]) ++ List.replicate (10 - (lg_sl ([.ref (A 1), .long fr, .long mv])).length) Slot.unset).toArray = ls at hl ⊢
  have hl : lv_has ls 10 [(0, .ref (A 1)), (1, .long fr), (3, .long mv)] := hl
  refine lv_sipush (v := (-20000)) hx hb dX1_bendFor_0 (by decide) ?_
  refine tp_i (v := iI (-20000)) (by decide) ?_
  refine lv_istore (lv' := [(5, .int (iI (-20000))), (0, .ref (A 1)), (1, .long fr), (3, .long mv)]) hx hb dX1_bendFor_3 hl (by decide) rfl (fun ls hl => ?_)
  refine lv_sipush (v := 20000) hx hb dX1_bendFor_5 (by decide) ?_
  refine tp_i (v := iI 20000) (by decide) ?_
  refine lv_istore (lv' := [(6, .int (iI 20000)), (5, .int (iI (-20000))), (0, .ref (A 1)), (1, .long fr), (3, .long mv)]) hx hb dX1_bendFor_8 hl (by decide) rfl (fun ls hl => ?_)
  refine lv_iconst (v := 0) hx hb dX1_bendFor_10 (by decide) ?_
  refine tp_i (v := nI 0) (rfl) ?_
  refine lv_istore (lv' := [(7, .int (nI 0)), (6, .int (iI 20000)), (5, .int (iI (-20000))), (0, .ref (A 1)), (1, .long fr), (3, .long mv)]) hx hb dX1_bendFor_11 hl (by decide) rfl (fun ls hl => ?_)
  have lp : ∀ (z : Nat) (a : Int) (b : Int) (j : Nat) (locs : List Loc) (ls : Array Slot), -20000 ≤ a → a ≤ 20000 → -20000 ≤ b → b ≤ 20000 → j ≤ 32 → 33 ≤ j + z → slF g n fr mv = soF g n fr mv (32 - j) a b → va_S nF s.heap s.heap locs → lv_has ls 10 [(0, .ref (A 1)), (1, .long fr), (3, .long mv), (5, .int (iI a)), (6, .int (iI b)), (7, .int (nI j))] → W p l e (headSpec wsX1_bendFor ({ frames := 5, cells := 0, slots := 0, locals := 129 })).room s m ([.ref (A 1), .long fr, .long mv]).toArray below meth c s.heap locs 0 0 (MQ below (rd_Qi s.heap (fun r => r = enF (slF g n fr mv))) ([.ref (A 1), .long fr, .long mv]).toArray s 0 0 nF) (F0 m 13 ls []) := by
    intro z
    induction z with
    | zero =>
      intro a b j locs ls a1 a2 b1 b2 h1 h2 hv hS hl
      exact absurd h2 (by omega)
    | succ z ih =>
      intro a b j locs ls a1 a2 b1 b2 h1 h2 hv hS hl
      refine lv_iload hx hb dX1_bendFor_13 (lv_at hl 5 rfl) ?_
      refine lv_bipush (v := 32) hx hb dX1_bendFor_15 (by decide) ?_
      refine tp_i (v := nI 32) (rfl) ?_
      refine lv_icmp_ge (tgt := 90) hx hb dX1_bendFor_17 (by decide) (fun c2 => ?_) (fun c2 => ?_)
      · have hj : j = 32 := by have h9 := (nI_leI (by omega) (by omega)).mp c2; omega
        have hv : slF g n fr mv = soE g n fr mv a := by rw [hv, hj]; rfl
        refine lv_aload_n hx hb dX1_bendFor_90 rfl (lv_at hl 0 rfl) ?_
        refine lv_lload_n hx hb dX1_bendFor_91 rfl (lv_at hl 1 rfl) ?_
        refine lv_iload hx hb dX1_bendFor_92 (lv_at hl 3 rfl) ?_
        refine rd_i (va_runV (As := [.long fr, .int (iI a)]) (rest := []) ⟨hx, hb, hml, hown, hts⟩ (c_X1_balanceOf l dC dI cA s.heap A g n hs pe pk fo mo hP hg hn fr (iI a)) (cwV 2 hts gX1_bendFor_X1_balanceOf rfl rfl rfl (by decide +kernel) ⟨Nat.le_of_ble_eq_true rfl, Nat.le_of_ble_eq_true rfl⟩) ⟨rd_bl, va_recv hK hP (ci := 2) (q0 := 1) rfl rfl, rd_pre hK hN⟩ rfl rfl hl.1 rfl (lv_room (Nat.le_of_ble_eq_true rfl)) dX1_bendFor_94 ⟨Nat.zero_le _, Nat.zero_le _⟩) hS (fun r1 locs hq2 hS => ?_)
        have hq2 : r1 = blF g n fr (iI a) := hq2
        subst hq2
        refine lv_istore (lv' := [(7, .int (blF g n fr (iI a))), (0, .ref (A 1)), (1, .long fr), (3, .long mv), (5, .int (iI a)), (6, .int (iI b))]) hx hb dX1_bendFor_97 hl (by decide) rfl (fun ls hl => ?_)
        refine lv_iload hx hb dX1_bendFor_99 (lv_at hl 0 rfl) ?_
        refine lv_ldc hx hb hown (hts (.constant RX1 78 (-1000000)) mbX1_bendFor_0) dX1_bendFor_101 ?_
        refine lv_icmp_ne (tgt := 109) hx hb dX1_bendFor_103 (by decide) (fun c6 => ?_) (fun c6 => ?_)
        · refine lv_aload_n hx hb dX1_bendFor_109 rfl (lv_at hl 1 rfl) ?_
          refine lv_iconst (v := 1) hx hb dX1_bendFor_110 (by decide) ?_
          refine lv_iload hx hb dX1_bendFor_111 (lv_at hl 0 rfl) ?_
          refine lv_iload hx hb dX1_bendFor_113 (lv_at hl 4 rfl) ?_
          refine rd_l (va_runV (As := [.int 1, .int (blF g n fr (iI a)), .int (iI a)]) (rest := []) ⟨hx, hb, hml, hown, hts⟩ (c_X1_sumOf l dC dI cA s.heap A g n hs pe pk fo mo hP hg hn true 1 (by decide) (blF g n fr (iI a)) (iI a)) (cwV 3 hts gX1_bendFor_X1_sumOf rfl rfl rfl (by decide +kernel) ⟨Nat.le_of_ble_eq_true rfl, Nat.le_of_ble_eq_true rfl⟩) ⟨rd_bl, va_recv hK hP (ci := 2) (q0 := 1) rfl rfl, rd_pre hK hN⟩ rfl rfl hl.1 rfl (lv_room (Nat.le_of_ble_eq_true rfl)) dX1_bendFor_115 ⟨Nat.zero_le _, Nat.zero_le _⟩) hS (fun r3 locs hq4 hS => ?_)
          have hq4 : r3 = smF g true (blF g n fr (iI a)) (iI a) n := hq4
          subst hq4
          refine lv_lload_n hx hb dX1_bendFor_118 rfl (lv_at hl 3 rfl) ?_
          refine W.lcmp hx hb dX1_bendFor_119 ?_
          refine lv_if_ge (tgt := 128) hx hb dX1_bendFor_120 (by decide) (fun c7 => ?_) (fun c7 => ?_)
          · have c7 := (lg_cmp_ge _ _).mp c7
            refine lv_iload hx hb dX1_bendFor_128 (lv_at hl 4 rfl) ?_
            exact W.iret (v := (iI a)) hx hb hr (fun t9 ht9 hW9 => ⟨⟨_, (), rfl, (by rw [hv]; unfold soE; rw [if_neg c6, if_neg (le_nlt64 c7)]; rfl), ht9⟩, hS.F ht9⟩) hS.2.2 dX1_bendFor_130
          · have c7 := mt (lg_cmp_ge _ _).mpr c7
            refine lv_ldc hx hb hown (hts (.constant RX1 84 (1000002)) mbX1_bendFor_1) dX1_bendFor_123 ?_
            refine lv_goto (tgt := 130) hx hb dX1_bendFor_125 (by decide) ?_
            exact W.iret (v := 1000002) hx hb hr (fun t9 ht9 hW9 => ⟨⟨_, (), rfl, (by rw [hv]; unfold soE; rw [if_neg c6, if_pos (nle_lt64 c7)]; rfl), ht9⟩, hS.F ht9⟩) hS.2.2 dX1_bendFor_130
        · refine lv_ldc hx hb hown (hts (.constant RX1 83 (1000001)) mbX1_bendFor_2) dX1_bendFor_106 ?_
          exact W.iret (v := 1000001) hx hb hr (fun t9 ht9 hW9 => ⟨⟨_, (), rfl, (by rw [hv]; unfold soE; rw [if_pos c6]; rfl), ht9⟩, hS.F ht9⟩) hS.2.2 dX1_bendFor_108
      · have hj : j < 32 := by rcases Nat.lt_or_ge j 32 with h9 | h9; exact h9; exact absurd (nI_le h9 (by omega)) c2
        refine lv_iload hx hb dX1_bendFor_20 (lv_at hl 3 rfl) ?_
        refine lv_iload hx hb dX1_bendFor_22 (lv_at hl 4 rfl) ?_
        refine lv_icmp_ge (tgt := 90) hx hb dX1_bendFor_24 (by decide) (fun c3 => ?_) (fun c3 => ?_)
        · have hab : ¬ a < b := by have h9 := (iI_le (by omega) (by omega) (by omega) (by omega)).mp c3; omega
          have hv : slF g n fr mv = soE g n fr mv a := by rw [hv, so_end hab]
          refine lv_aload_n hx hb dX1_bendFor_90 rfl (lv_at hl 0 rfl) ?_
          refine lv_lload_n hx hb dX1_bendFor_91 rfl (lv_at hl 1 rfl) ?_
          refine lv_iload hx hb dX1_bendFor_92 (lv_at hl 3 rfl) ?_
          refine rd_i (va_runV (As := [.long fr, .int (iI a)]) (rest := []) ⟨hx, hb, hml, hown, hts⟩ (c_X1_balanceOf l dC dI cA s.heap A g n hs pe pk fo mo hP hg hn fr (iI a)) (cwV 2 hts gX1_bendFor_X1_balanceOf rfl rfl rfl (by decide +kernel) ⟨Nat.le_of_ble_eq_true rfl, Nat.le_of_ble_eq_true rfl⟩) ⟨rd_bl, va_recv hK hP (ci := 2) (q0 := 1) rfl rfl, rd_pre hK hN⟩ rfl rfl hl.1 rfl (lv_room (Nat.le_of_ble_eq_true rfl)) dX1_bendFor_94 ⟨Nat.zero_le _, Nat.zero_le _⟩) hS (fun r5 locs hq6 hS => ?_)
          have hq6 : r5 = blF g n fr (iI a) := hq6
          subst hq6
          refine lv_istore (lv' := [(7, .int (blF g n fr (iI a))), (0, .ref (A 1)), (1, .long fr), (3, .long mv), (5, .int (iI a)), (6, .int (iI b))]) hx hb dX1_bendFor_97 hl (by decide) rfl (fun ls hl => ?_)
          refine lv_iload hx hb dX1_bendFor_99 (lv_at hl 0 rfl) ?_
          refine lv_ldc hx hb hown (hts (.constant RX1 78 (-1000000)) mbX1_bendFor_0) dX1_bendFor_101 ?_
          refine lv_icmp_ne (tgt := 109) hx hb dX1_bendFor_103 (by decide) (fun c6 => ?_) (fun c6 => ?_)
          · refine lv_aload_n hx hb dX1_bendFor_109 rfl (lv_at hl 1 rfl) ?_
            refine lv_iconst (v := 1) hx hb dX1_bendFor_110 (by decide) ?_
            refine lv_iload hx hb dX1_bendFor_111 (lv_at hl 0 rfl) ?_
            refine lv_iload hx hb dX1_bendFor_113 (lv_at hl 4 rfl) ?_
            refine rd_l (va_runV (As := [.int 1, .int (blF g n fr (iI a)), .int (iI a)]) (rest := []) ⟨hx, hb, hml, hown, hts⟩ (c_X1_sumOf l dC dI cA s.heap A g n hs pe pk fo mo hP hg hn true 1 (by decide) (blF g n fr (iI a)) (iI a)) (cwV 3 hts gX1_bendFor_X1_sumOf rfl rfl rfl (by decide +kernel) ⟨Nat.le_of_ble_eq_true rfl, Nat.le_of_ble_eq_true rfl⟩) ⟨rd_bl, va_recv hK hP (ci := 2) (q0 := 1) rfl rfl, rd_pre hK hN⟩ rfl rfl hl.1 rfl (lv_room (Nat.le_of_ble_eq_true rfl)) dX1_bendFor_115 ⟨Nat.zero_le _, Nat.zero_le _⟩) hS (fun r7 locs hq8 hS => ?_)
            have hq8 : r7 = smF g true (blF g n fr (iI a)) (iI a) n := hq8
            subst hq8
            refine lv_lload_n hx hb dX1_bendFor_118 rfl (lv_at hl 3 rfl) ?_
            refine W.lcmp hx hb dX1_bendFor_119 ?_
            refine lv_if_ge (tgt := 128) hx hb dX1_bendFor_120 (by decide) (fun c7 => ?_) (fun c7 => ?_)
            · have c7 := (lg_cmp_ge _ _).mp c7
              refine lv_iload hx hb dX1_bendFor_128 (lv_at hl 4 rfl) ?_
              exact W.iret (v := (iI a)) hx hb hr (fun t9 ht9 hW9 => ⟨⟨_, (), rfl, (by rw [hv]; unfold soE; rw [if_neg c6, if_neg (le_nlt64 c7)]; rfl), ht9⟩, hS.F ht9⟩) hS.2.2 dX1_bendFor_130
            · have c7 := mt (lg_cmp_ge _ _).mpr c7
              refine lv_ldc hx hb hown (hts (.constant RX1 84 (1000002)) mbX1_bendFor_1) dX1_bendFor_123 ?_
              refine lv_goto (tgt := 130) hx hb dX1_bendFor_125 (by decide) ?_
              exact W.iret (v := 1000002) hx hb hr (fun t9 ht9 hW9 => ⟨⟨_, (), rfl, (by rw [hv]; unfold soE; rw [if_neg c6, if_pos (nle_lt64 c7)]; rfl), ht9⟩, hS.F ht9⟩) hS.2.2 dX1_bendFor_130
          · refine lv_ldc hx hb hown (hts (.constant RX1 83 (1000001)) mbX1_bendFor_2) dX1_bendFor_106 ?_
            exact W.iret (v := 1000001) hx hb hr (fun t9 ht9 hW9 => ⟨⟨_, (), rfl, (by rw [hv]; unfold soE; rw [if_pos c6]; rfl), ht9⟩, hS.F ht9⟩) hS.2.2 dX1_bendFor_108
        · have hab : a < b := by rcases Int.lt_or_le a b with h9 | h9; exact h9; exact absurd ((iI_le (by omega) (by omega) (by omega) (by omega)).mpr h9) c3
          refine lv_iload hx hb dX1_bendFor_27 (lv_at hl 3 rfl) ?_
          refine lv_iload hx hb dX1_bendFor_29 (lv_at hl 4 rfl) ?_
          refine lv_iadd hx hb dX1_bendFor_31 ?_
          refine lv_iconst (v := 2) hx hb dX1_bendFor_32 (by decide) ?_
          refine rd_i (va_runS (As := [.int ((iI a) + (iI b)), .int 2]) (rest := []) ⟨hx, hb, hml, hown, hts⟩ (c_J9_floorDiv_7cf53 l dC dI cA s.heap ((iI a) + (iI b)) 2 (by decide)) (va_cwS 2 hts gX1_bendFor_J9_floorDiv_7cf53 rfl rfl rfl (by decide +kernel) ⟨Nat.le_of_ble_eq_true rfl, Nat.le_of_ble_eq_true rfl⟩) ⟨rd_bl, rd_pre hK hN⟩ rfl rfl hl.1 rfl (lv_room (Nat.le_of_ble_eq_true rfl)) dX1_bendFor_33 ⟨Nat.zero_le _, Nat.zero_le _⟩) hS (fun r9 locs hq10 hS => ?_)
          have hq10 : r9 = fdv ((iI a) + (iI b)) 2 := hq10
          subst hq10
          refine tp_i (v := iI ((a + b) / 2)) (midC a1 a2 b1 b2) ?_
          refine lv_istore (lv' := [(8, .int (iI ((a + b) / 2))), (0, .ref (A 1)), (1, .long fr), (3, .long mv), (5, .int (iI a)), (6, .int (iI b)), (7, .int (nI j))]) hx hb dX1_bendFor_36 hl (by decide) rfl (fun ls hl => ?_)
          refine lv_aload_n hx hb dX1_bendFor_38 rfl (lv_at hl 1 rfl) ?_
          refine lv_lload_n hx hb dX1_bendFor_39 rfl (lv_at hl 2 rfl) ?_
          refine lv_iload hx hb dX1_bendFor_40 (lv_at hl 0 rfl) ?_
          refine rd_i (va_runV (As := [.long fr, .int (iI ((a + b) / 2))]) (rest := []) ⟨hx, hb, hml, hown, hts⟩ (c_X1_balanceOf l dC dI cA s.heap A g n hs pe pk fo mo hP hg hn fr (iI ((a + b) / 2))) (cwV 2 hts gX1_bendFor_X1_balanceOf rfl rfl rfl (by decide +kernel) ⟨Nat.le_of_ble_eq_true rfl, Nat.le_of_ble_eq_true rfl⟩) ⟨rd_bl, va_recv hK hP (ci := 2) (q0 := 1) rfl rfl, rd_pre hK hN⟩ rfl rfl hl.1 rfl (lv_room (Nat.le_of_ble_eq_true rfl)) dX1_bendFor_42 ⟨Nat.zero_le _, Nat.zero_le _⟩) hS (fun r11 locs hq12 hS => ?_)
          have hq12 : r11 = blF g n fr (iI ((a + b) / 2)) := hq12
          subst hq12
          refine lv_istore (lv' := [(9, .int (blF g n fr (iI ((a + b) / 2)))), (8, .int (iI ((a + b) / 2))), (0, .ref (A 1)), (1, .long fr), (3, .long mv), (5, .int (iI a)), (6, .int (iI b)), (7, .int (nI j))]) hx hb dX1_bendFor_45 hl (by decide) rfl (fun ls hl => ?_)
          refine lv_iload hx hb dX1_bendFor_47 (lv_at hl 0 rfl) ?_
          refine lv_ldc hx hb hown (hts (.constant RX1 78 (-1000000)) mbX1_bendFor_0) dX1_bendFor_49 ?_
          refine lv_icmp_ne (tgt := 57) hx hb dX1_bendFor_51 (by decide) (fun c4 => ?_) (fun c4 => ?_)
          · refine lv_aload_n hx hb dX1_bendFor_57 rfl (lv_at hl 2 rfl) ?_
            refine lv_iconst (v := 1) hx hb dX1_bendFor_58 (by decide) ?_
            refine lv_iload hx hb dX1_bendFor_59 (lv_at hl 0 rfl) ?_
            refine lv_iload hx hb dX1_bendFor_61 (lv_at hl 1 rfl) ?_
            refine rd_l (va_runV (As := [.int 1, .int (blF g n fr (iI ((a + b) / 2))), .int (iI ((a + b) / 2))]) (rest := []) ⟨hx, hb, hml, hown, hts⟩ (c_X1_sumOf l dC dI cA s.heap A g n hs pe pk fo mo hP hg hn true 1 (by decide) (blF g n fr (iI ((a + b) / 2))) (iI ((a + b) / 2))) (cwV 3 hts gX1_bendFor_X1_sumOf rfl rfl rfl (by decide +kernel) ⟨Nat.le_of_ble_eq_true rfl, Nat.le_of_ble_eq_true rfl⟩) ⟨rd_bl, va_recv hK hP (ci := 2) (q0 := 1) rfl rfl, rd_pre hK hN⟩ rfl rfl hl.1 rfl (lv_room (Nat.le_of_ble_eq_true rfl)) dX1_bendFor_63 ⟨Nat.zero_le _, Nat.zero_le _⟩) hS (fun r13 locs hq14 hS => ?_)
            have hq14 : r13 = smF g true (blF g n fr (iI ((a + b) / 2))) (iI ((a + b) / 2)) n := hq14
            subst hq14
            refine lv_lload_n hx hb dX1_bendFor_66 rfl (lv_at hl 4 rfl) ?_
            refine W.lcmp hx hb dX1_bendFor_67 ?_
            refine lv_if_lt (tgt := 78) hx hb dX1_bendFor_68 (by decide) (fun c5 => ?_) (fun c5 => ?_)
            · have c5 := (lg_cmp_lt _ _).mp c5
              refine lv_iload hx hb dX1_bendFor_78 (lv_at hl 1 rfl) ?_
              refine lv_iconst (v := 1) hx hb dX1_bendFor_80 (by decide) ?_
              refine lv_iadd hx hb dX1_bendFor_81 ?_
              refine tp_i (v := iI ((a + b) / 2 + 1)) (by rw [← iI_ad]; rfl) ?_
              refine lv_istore (lv' := [(5, .int (iI ((a + b) / 2 + 1))), (9, .int (blF g n fr (iI ((a + b) / 2)))), (8, .int (iI ((a + b) / 2))), (0, .ref (A 1)), (1, .long fr), (3, .long mv), (6, .int (iI b)), (7, .int (nI j))]) hx hb dX1_bendFor_82 hl (by decide) rfl (fun ls hl => ?_)
              refine lv_iinc (v := nI (j + 1)) (lv' := [(7, .int (nI (j + 1))), (5, .int (iI ((a + b) / 2 + 1))), (9, .int (blF g n fr (iI ((a + b) / 2)))), (8, .int (iI ((a + b) / 2))), (0, .ref (A 1)), (1, .long fr), (3, .long mv), (6, .int (iI b))]) hx hb dX1_bendFor_84 hl (k := 7) rfl (nI_1 j) (by decide) rfl (fun ls hl => ?_)
              refine lv_goto (tgt := 13) hx hb dX1_bendFor_87 (by decide) ?_
              exact ih ((a + b) / 2 + 1) b (j + 1) _ _ (by omega) (by omega) b1 b2 (by omega) (by omega) (by rw [hv, show 32 - j = (32 - (j + 1)) + 1 by omega, so_f hab c4 (lt_nle64 c5)]) hS (lv_sub hl [4, 5, 6, 1, 7, 0] rfl)
            · have c5 := mt (lg_cmp_lt _ _).mpr c5
              refine lv_iload hx hb dX1_bendFor_71 (lv_at hl 1 rfl) ?_
              refine lv_istore (lv' := [(6, .int (iI ((a + b) / 2))), (9, .int (blF g n fr (iI ((a + b) / 2)))), (8, .int (iI ((a + b) / 2))), (0, .ref (A 1)), (1, .long fr), (3, .long mv), (5, .int (iI a)), (7, .int (nI j))]) hx hb dX1_bendFor_73 hl (by decide) rfl (fun ls hl => ?_)
              refine lv_goto (tgt := 84) hx hb dX1_bendFor_75 (by decide) ?_
              refine lv_iinc (v := nI (j + 1)) (lv' := [(7, .int (nI (j + 1))), (6, .int (iI ((a + b) / 2))), (9, .int (blF g n fr (iI ((a + b) / 2)))), (8, .int (iI ((a + b) / 2))), (0, .ref (A 1)), (1, .long fr), (3, .long mv), (5, .int (iI a))]) hx hb dX1_bendFor_84 hl (k := 7) rfl (nI_1 j) (by decide) rfl (fun ls hl => ?_)
              refine lv_goto (tgt := 13) hx hb dX1_bendFor_87 (by decide) ?_
              exact ih a ((a + b) / 2) (j + 1) _ _ a1 a2 (by omega) (by omega) (by omega) (by omega) (by rw [hv, show 32 - j = (32 - (j + 1)) + 1 by omega, so_t hab c4 (nlt_le64 c5)]) hS (lv_sub hl [4, 5, 6, 7, 1, 0] rfl)
          · refine lv_ldc hx hb hown (hts (.constant RX1 83 (1000001)) mbX1_bendFor_2) dX1_bendFor_54 ?_
            exact W.iret (v := 1000001) hx hb hr (fun t9 ht9 hW9 => ⟨⟨_, (), rfl, (by rw [hv, show 32 - j = (32 - (j + 1)) + 1 by omega, so_0 hab c4]; rfl), ht9⟩, hS.F ht9⟩) hS.2.2 dX1_bendFor_56
  exact lp 33 (-20000) 20000 0 _ _ (by omega) (by omega) (by omega) (by omega) (by omega) (by omega) rfl hS (lv_sub hl [3, 4, 5, 2, 1, 0] rfl)
