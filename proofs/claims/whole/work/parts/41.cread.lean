set_option maxRecDepth 20000 in
theorem miX2_of_X2 : ∀ w ∈ u_ws RX2 TX2 6, w ∈ wsX2_of := by decide +kernel
set_option maxRecDepth 20000 in
theorem mbX2_of_1 : (.fieldLink RX2 10 "SectionFibres" "section" "LSectionFibres$Section;" : Cond) ∈ wsX2_of := by decide +kernel
set_option maxRecDepth 20000 in
theorem mbX2_of_2 : (.initialized RX1 : Cond) ∈ wsX2_of := by decide +kernel
set_option maxRecDepth 20000 in
theorem mbX2_of_3 : (.instanceMethod yX1_sumOf : Cond) ∈ wsX2_of := by decide +kernel
set_option maxRecDepth 20000 in
theorem mbX2_of_4 : (.selects RX1 yX1_sumOf yX1_sumOf : Cond) ∈ wsX2_of := by decide +kernel
set_option maxRecDepth 20000 in
theorem mbX2_of_5 : (.constantLong RX2 87 (-4611686018427387904) : Cond) ∈ wsX2_of := by decide +kernel
set_option maxHeartbeats 4000000 in
set_option maxRecDepth 100000 in
theorem c_X2_of (l : Launch) (dC : Nat → ClassId) (dI : Nat → Nat → Nat) (cA : ClassId) (H : Heap) (A : Nat → Nat) (g : Gg) (n : Nat) (hs pe pk : Int32) (fo mo : Int64) (hP : va_P (dC, dI) vwCl (wC cA A g n hs pe pk fo mo) H) (hg : InvG g) (hn : n ≤ 41) (ee kb wh : Int32) : Met l yX2_of wsX2_of ({ frames := 4, cells := 0, slots := 0, locals := 102 }) (rd_P [.ref (A 0), .int ee, .int kb, .int wh] H (dC, dI) vwCl [(cA, .int)]) (rd_Ql H (fun r => r = ofF g n ee kb wh)) 0 0 nF := by
  refine Met.ofW (cc := cX2_of) (maxL := 4) (ret := (some .long)) (by decide) rfl ?_
  intro p e s m args below meth c s₁ B hml hv
  obtain ⟨rfl, hH, hK, hN⟩ := hv
  subst hH
  have hx := B.exec
  have hb := B.bytes
  have hr := B.returns
  have hts := atoms_spec (ws := wsX2_of) B.pre
  have hown : s.vm.findClass RX2 = some m.cls := findClass_of_methodNamed B.named
  have hlocks := B.notSynchronized
  have hS : va_S nF s.heap s.heap [] := va_S.rf
  have hl := lv_entry ([.ref (A 0), .int ee, .int kb, .int wh]) (n := 4) (Nat.le_of_ble_eq_true rfl)
  rw [lg_entry_eq]
  generalize (lg_sl ([.ref (A 0), .int ee, .int kb, .int wh]) ++ List.replicate (4 - (lg_sl ([.ref (A 0), .int ee, .int kb, .int wh])).length) Slot.unset).toArray = ls at hl ⊢
  have hl : lv_has ls 4 [(0, .ref (A 0)), (1, .int ee), (2, .int kb), (3, .int wh)] := hl
  refine lv_iload_n hx hb dX2_of_0 rfl (lv_at hl 1 rfl) ?_
  refine rd_i (va_runS (As := [.int ee]) (rest := []) ⟨hx, hb, hml, hown, hts⟩ (c_X2_isOfPlane l dC dI cA s.heap ee) (va_cwS 1 hts gX2_of_X2_isOfPlane rfl rfl rfl (by decide +kernel) ⟨Nat.le_of_ble_eq_true rfl, Nat.le_of_ble_eq_true rfl⟩) ⟨rd_bl, rd_pre hK hN⟩ rfl rfl hl.1 rfl (lv_room (Nat.le_of_ble_eq_true rfl)) dX2_of_1 ⟨Nat.zero_le _, Nat.zero_le _⟩) hS (fun r1 locs hq2 hS => ?_)
  rcases hq2 with ⟨hq2, rfl⟩ | ⟨hq2, rfl⟩
  · have q1 : rg ee (-20000) 20000 := hq2
    refine lv_if_eq (tgt := 21) hx hb dX2_of_4 (by decide) (fun h9 => absurd h9 (by decide)) (fun _ => ?_)
    refine lv_iload_n hx hb dX2_of_7 rfl (lv_at hl 2 rfl) ?_
    refine rd_i (va_runS (As := [.int kb]) (rest := []) ⟨hx, hb, hml, hown, hts⟩ (c_X2_isOfPlane l dC dI cA s.heap kb) (va_cwS 1 hts gX2_of_X2_isOfPlane rfl rfl rfl (by decide +kernel) ⟨Nat.le_of_ble_eq_true rfl, Nat.le_of_ble_eq_true rfl⟩) ⟨rd_bl, rd_pre hK hN⟩ rfl rfl hl.1 rfl (lv_room (Nat.le_of_ble_eq_true rfl)) dX2_of_8 ⟨Nat.zero_le _, Nat.zero_le _⟩) hS (fun r3 locs hq4 hS => ?_)
    rcases hq4 with ⟨hq4, rfl⟩ | ⟨hq4, rfl⟩
    · have q2 : rg kb (-20000) 20000 := hq4
      refine lv_if_eq (tgt := 21) hx hb dX2_of_11 (by decide) (fun h9 => absurd h9 (by decide)) (fun _ => ?_)
      refine lv_iload_n hx hb dX2_of_14 rfl (lv_at hl 3 rfl) ?_
      refine rd_i (va_runS (As := [.int wh]) (rest := []) ⟨hx, hb, hml, hown, hts⟩ (c_X2_isSum l dC dI cA s.heap wh) (va_cwS 1 hts gX2_of_X2_isSum rfl rfl rfl (by decide +kernel) ⟨Nat.le_of_ble_eq_true rfl, Nat.le_of_ble_eq_true rfl⟩) ⟨rd_bl, rd_pre hK hN⟩ rfl rfl hl.1 rfl (lv_room (Nat.le_of_ble_eq_true rfl)) dX2_of_15 ⟨Nat.zero_le _, Nat.zero_le _⟩) hS (fun r5 locs hq6 hS => ?_)
      rcases hq6 with ⟨hq6, rfl⟩ | ⟨hq6, rfl⟩
      · have q3 : (wh = 0 ∨ wh = 1) := hq6
        refine lv_if_ne (tgt := 25) hx hb dX2_of_18 (by decide) (fun _ => ?_) (fun h9 => absurd h9 (by decide))
        refine lv_aload_n hx hb dX2_of_25 rfl (lv_at hl 0 rfl) ?_
        refine va_get (D := (dC, dI)) (ci := 3) (v := .ref (A 1)) (C := RX2) (T := TX2) (N := 6) hx hb hts miX2_of_X2 hown hK hP 0 rfl rfl 0 (by decide) (hts (.fieldLink RX2 10 "SectionFibres" "section" "LSectionFibres$Section;") mbX2_of_1) (fun _ h9 => h9) rfl dX2_of_26 ?_
        refine lv_iload_n hx hb dX2_of_29 rfl (lv_at hl 3 rfl) ?_
        refine lv_iload_n hx hb dX2_of_30 rfl (lv_at hl 1 rfl) ?_
        refine lv_iload_n hx hb dX2_of_31 rfl (lv_at hl 2 rfl) ?_
        refine rd_l (va_runVN (As := [.int wh, .int ee, .int kb]) (rest := []) ⟨hx, hb, hml, hown, hts⟩ (c_X1_sumOf l dC dI cA s.heap A g n hs pe pk fo mo hP hg hn (decide (wh = 1)) wh (decide_eq_true_iff.symm) ee kb) ⟨(va_cnB 3 hts gX2_of_X1_sumOf_n89 rfl rfl rfl (hN (.methodLinkNest RX2 89 yX1_sumOf "SectionFibres") (List.mem_of_getElem? (i := 6) rfl)) (hts (.initialized RX1) mbX2_of_2) (by decide +kernel) ⟨Nat.le_of_ble_eq_true rfl, Nat.le_of_ble_eq_true rfl⟩), hts (.instanceMethod yX1_sumOf) mbX2_of_3, hts (.selects RX1 yX1_sumOf yX1_sumOf) mbX2_of_4⟩ ⟨rd_bl, va_recv hK hP (ci := 2) (q0 := 1) rfl rfl, rd_pre hK hN⟩ rfl rfl hl.1 rfl (lv_room (Nat.le_of_ble_eq_true rfl)) dX2_of_32 ⟨Nat.zero_le _, Nat.zero_le _⟩) hS (fun r7 locs hq8 hS => ?_)
        have hq8 : r7 = smF g (decide (wh = 1)) ee kb n := hq8
        subst hq8
        exact W.lret (v := (smF g (decide (wh = 1)) ee kb n)) hx hb hr (fun t9 ht9 hW9 => ⟨⟨_, (), rfl, (by unfold ofF; rw [if_pos ⟨q1, q2, q3⟩]), ht9⟩, hS.F ht9⟩) hS.2.2 dX2_of_35
      · have q3 : ¬ (wh = 0 ∨ wh = 1) := hq6
        refine lv_if_ne (tgt := 25) hx hb dX2_of_18 (by decide) (fun h9 => absurd h9 (by decide)) (fun _ => ?_)
        refine lv_ldc2 hx hb hown (hts (.constantLong RX2 87 (-4611686018427387904)) mbX2_of_5) dX2_of_21 ?_
        exact W.lret (v := (-4611686018427387904)) hx hb hr (fun t9 ht9 hW9 => ⟨⟨_, (), rfl, (by unfold ofF; rw [if_neg (fun h9 => q3 h9.2.2)]), ht9⟩, hS.F ht9⟩) hS.2.2 dX2_of_24
    · have q2 : ¬ (rg kb (-20000) 20000) := hq4
      refine lv_if_eq (tgt := 21) hx hb dX2_of_11 (by decide) (fun _ => ?_) (fun h9 => absurd h9 (by decide))
      refine lv_ldc2 hx hb hown (hts (.constantLong RX2 87 (-4611686018427387904)) mbX2_of_5) dX2_of_21 ?_
      exact W.lret (v := (-4611686018427387904)) hx hb hr (fun t9 ht9 hW9 => ⟨⟨_, (), rfl, (by unfold ofF; rw [if_neg (fun h9 => q2 h9.2.1)]), ht9⟩, hS.F ht9⟩) hS.2.2 dX2_of_24
  · have q1 : ¬ (rg ee (-20000) 20000) := hq2
    refine lv_if_eq (tgt := 21) hx hb dX2_of_4 (by decide) (fun _ => ?_) (fun h9 => absurd h9 (by decide))
    refine lv_ldc2 hx hb hown (hts (.constantLong RX2 87 (-4611686018427387904)) mbX2_of_5) dX2_of_21 ?_
    exact W.lret (v := (-4611686018427387904)) hx hb hr (fun t9 ht9 hW9 => ⟨⟨_, (), rfl, (by unfold ofF; rw [if_neg (fun h9 => q1 h9.1)]), ht9⟩, hS.F ht9⟩) hS.2.2 dX2_of_24

set_option maxRecDepth 20000 in
theorem miX2_balance_X2 : ∀ w ∈ u_ws RX2 TX2 6, w ∈ wsX2_balance := by decide +kernel
set_option maxRecDepth 20000 in
theorem mbX2_balance_1 : (.fieldLink RX2 10 "SectionFibres" "section" "LSectionFibres$Section;" : Cond) ∈ wsX2_balance := by decide +kernel
set_option maxRecDepth 20000 in
theorem mbX2_balance_2 : (.initialized RX1 : Cond) ∈ wsX2_balance := by decide +kernel
set_option maxRecDepth 20000 in
theorem mbX2_balance_3 : (.instanceMethod yX1_balanceOf : Cond) ∈ wsX2_balance := by decide +kernel
set_option maxRecDepth 20000 in
theorem mbX2_balance_4 : (.selects RX1 yX1_balanceOf yX1_balanceOf : Cond) ∈ wsX2_balance := by decide +kernel
set_option maxRecDepth 20000 in
theorem mbX2_balance_5 : (.constant RX2 43 (-1000000) : Cond) ∈ wsX2_balance := by decide +kernel
set_option maxHeartbeats 4000000 in
set_option maxRecDepth 100000 in
theorem c_X2_balance (l : Launch) (dC : Nat → ClassId) (dI : Nat → Nat → Nat) (cA : ClassId) (H : Heap) (A : Nat → Nat) (g : Gg) (n : Nat) (hs pe pk : Int32) (fo mo : Int64) (hP : va_P (dC, dI) vwCl (wC cA A g n hs pe pk fo mo) H) (hg : InvG g) (hn : n ≤ 41) (fr : Int64) (kb : Int32) : Met l yX2_balance wsX2_balance ({ frames := 5, cells := 0, slots := 0, locals := 129 }) (rd_P [.ref (A 0), .long fr, .int kb] H (dC, dI) vwCl [(cA, .int)]) (rd_Qi H (fun r => r = balF g n fr kb)) 0 0 nF := by
  refine Met.ofW (cc := cX2_balance) (maxL := 4) (ret := (some .int)) (by decide) rfl ?_
  intro p e s m args below meth c s₁ B hml hv
  obtain ⟨rfl, hH, hK, hN⟩ := hv
  subst hH
  have hx := B.exec
  have hb := B.bytes
  have hr := B.returns
  have hts := atoms_spec (ws := wsX2_balance) B.pre
  have hown : s.vm.findClass RX2 = some m.cls := findClass_of_methodNamed B.named
  have hlocks := B.notSynchronized
  have hS : va_S nF s.heap s.heap [] := va_S.rf
  have hl := lv_entry ([.ref (A 0), .long fr, .int kb]) (n := 4) (Nat.le_of_ble_eq_true rfl)
  rw [lg_entry_eq]
  generalize (lg_sl ([.ref (A 0), .long fr, .int kb]) ++ List.replicate (4 - (lg_sl ([.ref (A 0), .long fr, .int kb])).length) Slot.unset).toArray = ls at hl ⊢
  have hl : lv_has ls 4 [(0, .ref (A 0)), (1, .long fr), (3, .int kb)] := hl
  refine lv_iload_n hx hb dX2_balance_0 rfl (lv_at hl 2 rfl) ?_
  refine rd_i (va_runS (As := [.int kb]) (rest := []) ⟨hx, hb, hml, hown, hts⟩ (c_X2_isOfPlane l dC dI cA s.heap kb) (va_cwS 1 hts gX2_balance_X2_isOfPlane rfl rfl rfl (by decide +kernel) ⟨Nat.le_of_ble_eq_true rfl, Nat.le_of_ble_eq_true rfl⟩) ⟨rd_bl, rd_pre hK hN⟩ rfl rfl hl.1 rfl (lv_room (Nat.le_of_ble_eq_true rfl)) dX2_balance_1 ⟨Nat.zero_le _, Nat.zero_le _⟩) hS (fun r1 locs hq2 hS => ?_)
  rcases hq2 with ⟨hq2, rfl⟩ | ⟨hq2, rfl⟩
  · have q1 : rg kb (-20000) 20000 := hq2
    refine lv_if_ne (tgt := 10) hx hb dX2_balance_4 (by decide) (fun _ => ?_) (fun h9 => absurd h9 (by decide))
    refine lv_aload_n hx hb dX2_balance_10 rfl (lv_at hl 0 rfl) ?_
    refine va_get (D := (dC, dI)) (ci := 3) (v := .ref (A 1)) (C := RX2) (T := TX2) (N := 6) hx hb hts miX2_balance_X2 hown hK hP 0 rfl rfl 0 (by decide) (hts (.fieldLink RX2 10 "SectionFibres" "section" "LSectionFibres$Section;") mbX2_balance_1) (fun _ h9 => h9) rfl dX2_balance_11 ?_
    refine lv_lload_n hx hb dX2_balance_14 rfl (lv_at hl 1 rfl) ?_
    refine lv_iload_n hx hb dX2_balance_15 rfl (lv_at hl 2 rfl) ?_
    refine rd_i (va_runVN (As := [.long fr, .int kb]) (rest := []) ⟨hx, hb, hml, hown, hts⟩ (c_X1_balanceOf l dC dI cA s.heap A g n hs pe pk fo mo hP hg hn fr kb) ⟨(va_cnB 2 hts gX2_balance_X1_balanceOf_n93 rfl rfl rfl (hN (.methodLinkNest RX2 93 yX1_balanceOf "SectionFibres") (List.mem_of_getElem? (i := 10) rfl)) (hts (.initialized RX1) mbX2_balance_2) (by decide +kernel) ⟨Nat.le_of_ble_eq_true rfl, Nat.le_of_ble_eq_true rfl⟩), hts (.instanceMethod yX1_balanceOf) mbX2_balance_3, hts (.selects RX1 yX1_balanceOf yX1_balanceOf) mbX2_balance_4⟩ ⟨rd_bl, va_recv hK hP (ci := 2) (q0 := 1) rfl rfl, rd_pre hK hN⟩ rfl rfl hl.1 rfl (lv_room (Nat.le_of_ble_eq_true rfl)) dX2_balance_16 ⟨Nat.zero_le _, Nat.zero_le _⟩) hS (fun r3 locs hq4 hS => ?_)
    have hq4 : r3 = blF g n fr kb := hq4
    subst hq4
    exact W.iret (v := (blF g n fr kb)) hx hb hr (fun t9 ht9 hW9 => ⟨⟨_, (), rfl, (by unfold balF; rw [if_pos q1]), ht9⟩, hS.F ht9⟩) hS.2.2 dX2_balance_19
  · have q1 : ¬ (rg kb (-20000) 20000) := hq2
    refine lv_if_ne (tgt := 10) hx hb dX2_balance_4 (by decide) (fun h9 => absurd h9 (by decide)) (fun _ => ?_)
    refine lv_ldc hx hb hown (hts (.constant RX2 43 (-1000000)) mbX2_balance_5) dX2_balance_7 ?_
    exact W.iret (v := (-1000000)) hx hb hr (fun t9 ht9 hW9 => ⟨⟨_, (), rfl, (by unfold balF; rw [if_neg q1]), ht9⟩, hS.F ht9⟩) hS.2.2 dX2_balance_9

set_option maxRecDepth 20000 in
theorem miX2_told_X2 : ∀ w ∈ u_ws RX2 TX2 6, w ∈ wsX2_told := by decide +kernel
set_option maxRecDepth 20000 in
theorem mbX2_told_1 : (.fieldLink RX2 36 "SectionFibres" "planeAtHand" "Z" : Cond) ∈ wsX2_told := by decide +kernel
set_option maxRecDepth 20000 in
theorem mbX2_told_2 : (.fieldLink RX2 103 "SectionFibres" "planeE" "I" : Cond) ∈ wsX2_told := by decide +kernel
set_option maxRecDepth 20000 in
theorem mbX2_told_3 : (.fieldLink RX2 106 "SectionFibres" "planeK" "I" : Cond) ∈ wsX2_told := by decide +kernel
set_option maxRecDepth 20000 in
theorem mbX2_told_4 : (.fieldLink RX2 10 "SectionFibres" "section" "LSectionFibres$Section;" : Cond) ∈ wsX2_told := by decide +kernel
set_option maxRecDepth 20000 in
theorem mbX2_told_5 : (.initialized RX1 : Cond) ∈ wsX2_told := by decide +kernel
set_option maxRecDepth 20000 in
theorem mbX2_told_6 : (.instanceMethod yX1_firstBeyond : Cond) ∈ wsX2_told := by decide +kernel
set_option maxRecDepth 20000 in
theorem mbX2_told_7 : (.selects RX1 yX1_firstBeyond yX1_firstBeyond : Cond) ∈ wsX2_told := by decide +kernel
set_option maxHeartbeats 4000000 in
set_option maxRecDepth 100000 in
theorem c_X2_told (l : Launch) (dC : Nat → ClassId) (dI : Nat → Nat → Nat) (cA : ClassId) (H : Heap) (A : Nat → Nat) (g : Gg) (n : Nat) (hs pe pk : Int32) (fo mo : Int64) (hP : va_P (dC, dI) vwCl (wC cA A g n hs pe pk fo mo) H) (hg : InvG g) (hn : n ≤ 41) (wh : Int32) : Met l yX2_told wsX2_told ({ frames := 3, cells := 0, slots := 0, locals := 73 }) (rd_P [.ref (A 0), .int wh] H (dC, dI) vwCl [(cA, .int)]) (rd_Qi H (fun r => r = tolF g n hs pe pk wh)) 0 0 nF := by
  refine Met.ofW (cc := cX2_told) (maxL := 2) (ret := (some .int)) (by decide) rfl ?_
  intro p e s m args below meth c s₁ B hml hv
  obtain ⟨rfl, hH, hK, hN⟩ := hv
  subst hH
  have hx := B.exec
  have hb := B.bytes
  have hr := B.returns
  have hts := atoms_spec (ws := wsX2_told) B.pre
  have hown : s.vm.findClass RX2 = some m.cls := findClass_of_methodNamed B.named
  have hlocks := B.notSynchronized
  have hS : va_S nF s.heap s.heap [] := va_S.rf
  have hl := lv_entry ([.ref (A 0), .int wh]) (n := 2) (Nat.le_of_ble_eq_true rfl)
  rw [lg_entry_eq]
  generalize (lg_sl ([.ref (A 0), .int wh]) ++ List.replicate (2 - (lg_sl ([.ref (A 0), .int wh])).length) Slot.unset).toArray = ls at hl ⊢
  have hl : lv_has ls 2 [(0, .ref (A 0)), (1, .int wh)] := hl
  refine lv_aload_n hx hb dX2_told_0 rfl (lv_at hl 0 rfl) ?_
  refine va_get (D := (dC, dI)) (ci := 3) (v := .int hs) (C := RX2) (T := TX2) (N := 6) hx hb hts miX2_told_X2 hown hK hP 0 rfl rfl 1 (by decide) (hts (.fieldLink RX2 36 "SectionFibres" "planeAtHand" "Z") mbX2_told_1) (fun _ h9 => h9) rfl dX2_told_1 ?_
  refine lv_if_ne (tgt := 9) hx hb dX2_told_4 (by decide) (fun c1 => ?_) (fun c1 => ?_)
  · refine lv_iload_n hx hb dX2_told_9 rfl (lv_at hl 1 rfl) ?_
    by_cases k0 : wh = 0
    · refine lv_tableIn (tgt := 36) hx hb dX2_told_10 (by rw [k0]; decide) (by rw [k0]; decide) (by rw [k0]; rfl) (by decide) ?_
      refine lv_aload_n hx hb dX2_told_36 rfl (lv_at hl 0 rfl) ?_
      refine va_get (D := (dC, dI)) (ci := 3) (v := .int pe) (C := RX2) (T := TX2) (N := 6) hx hb hts miX2_told_X2 hown hK hP 0 rfl rfl 2 (by decide) (hts (.fieldLink RX2 103 "SectionFibres" "planeE" "I") mbX2_told_2) (fun _ h9 => h9) rfl dX2_told_37 ?_
      exact W.iret (v := pe) hx hb hr (fun t9 ht9 hW9 => ⟨⟨_, (), rfl, (by unfold tolF; rw [if_neg c1, if_pos k0]), ht9⟩, hS.F ht9⟩) hS.2.2 dX2_told_40
    · by_cases k1 : wh = 1
      · refine lv_tableIn (tgt := 41) hx hb dX2_told_10 (by rw [k1]; decide) (by rw [k1]; decide) (by rw [k1]; rfl) (by decide) ?_
        refine lv_aload_n hx hb dX2_told_41 rfl (lv_at hl 0 rfl) ?_
        refine va_get (D := (dC, dI)) (ci := 3) (v := .int pk) (C := RX2) (T := TX2) (N := 6) hx hb hts miX2_told_X2 hown hK hP 0 rfl rfl 3 (by decide) (hts (.fieldLink RX2 106 "SectionFibres" "planeK" "I") mbX2_told_3) (fun _ h9 => h9) rfl dX2_told_42 ?_
        exact W.iret (v := pk) hx hb hr (fun t9 ht9 hW9 => ⟨⟨_, (), rfl, (by unfold tolF; rw [if_neg c1, if_neg k0, if_pos k1]), ht9⟩, hS.F ht9⟩) hS.2.2 dX2_told_45
      · by_cases k2 : wh = 2
        · refine lv_tableIn (tgt := 46) hx hb dX2_told_10 (by rw [k2]; decide) (by rw [k2]; decide) (by rw [k2]; rfl) (by decide) ?_
          refine lv_aload_n hx hb dX2_told_46 rfl (lv_at hl 0 rfl) ?_
          refine va_get (D := (dC, dI)) (ci := 3) (v := .ref (A 1)) (C := RX2) (T := TX2) (N := 6) hx hb hts miX2_told_X2 hown hK hP 0 rfl rfl 0 (by decide) (hts (.fieldLink RX2 10 "SectionFibres" "section" "LSectionFibres$Section;") mbX2_told_4) (fun _ h9 => h9) rfl dX2_told_47 ?_
          refine lv_aload_n hx hb dX2_told_50 rfl (lv_at hl 0 rfl) ?_
          refine va_get (D := (dC, dI)) (ci := 3) (v := .int pe) (C := RX2) (T := TX2) (N := 6) hx hb hts miX2_told_X2 hown hK hP 0 rfl rfl 2 (by decide) (hts (.fieldLink RX2 103 "SectionFibres" "planeE" "I") mbX2_told_2) (fun _ h9 => h9) rfl dX2_told_51 ?_
          refine lv_aload_n hx hb dX2_told_54 rfl (lv_at hl 0 rfl) ?_
          refine va_get (D := (dC, dI)) (ci := 3) (v := .int pk) (C := RX2) (T := TX2) (N := 6) hx hb hts miX2_told_X2 hown hK hP 0 rfl rfl 3 (by decide) (hts (.fieldLink RX2 106 "SectionFibres" "planeK" "I") mbX2_told_3) (fun _ h9 => h9) rfl dX2_told_55 ?_
          refine rd_i (va_runVN (As := [.int pe, .int pk]) (rest := []) ⟨hx, hb, hml, hown, hts⟩ (c_X1_firstBeyond l dC dI cA s.heap A g n hs pe pk fo mo hP hg hn pe pk) ⟨(va_cnB 2 hts gX2_told_X1_firstBeyond_n116 rfl rfl rfl (hN (.methodLinkNest RX2 116 yX1_firstBeyond "SectionFibres") (List.mem_of_getElem? (i := 12) rfl)) (hts (.initialized RX1) mbX2_told_5) (by decide +kernel) ⟨Nat.le_of_ble_eq_true rfl, Nat.le_of_ble_eq_true rfl⟩), hts (.instanceMethod yX1_firstBeyond) mbX2_told_6, hts (.selects RX1 yX1_firstBeyond yX1_firstBeyond) mbX2_told_7⟩ ⟨rd_bl, va_recv hK hP (ci := 2) (q0 := 1) rfl rfl, rd_pre hK hN⟩ rfl rfl hl.1 rfl (lv_room (Nat.le_of_ble_eq_true rfl)) dX2_told_58 ⟨Nat.zero_le _, Nat.zero_le _⟩) hS (fun r1 locs hq2 hS => ?_)
          have hq2 : r1 = fbF g pe pk n 0 := hq2
          subst hq2
          exact W.iret (v := (fbF g pe pk n 0)) hx hb hr (fun t9 ht9 hW9 => ⟨⟨_, (), rfl, (by unfold tolF; rw [if_neg c1, if_neg k0, if_neg k1, if_pos k2]), ht9⟩, hS.F ht9⟩) hS.2.2 dX2_told_61
        · refine lv_tableOut (tgt := 62) hx hb dX2_told_10 (by have h6 : wh.toInt ≠ 0 := fun h9 => k0 (Int32.toInt_inj.1 h9); have h7 : wh.toInt ≠ 1 := fun h9 => k1 (Int32.toInt_inj.1 h9); have h8 : wh.toInt ≠ 2 := fun h9 => k2 (Int32.toInt_inj.1 h9); omega) (by decide) ?_
          refine lv_iconst (v := (-1)) hx hb dX2_told_62 (by decide) ?_
          exact W.iret (v := (-1)) hx hb hr (fun t9 ht9 hW9 => ⟨⟨_, (), rfl, (by unfold tolF; rw [if_neg c1, if_neg k0, if_neg k1, if_neg k2]), ht9⟩, hS.F ht9⟩) hS.2.2 dX2_told_63
  · refine lv_iconst (v := (-1)) hx hb dX2_told_7 (by decide) ?_
    exact W.iret (v := (-1)) hx hb hr (fun t9 ht9 hW9 => ⟨⟨_, (), rfl, (by unfold tolF; rw [if_pos c1]), ht9⟩, hS.F ht9⟩) hS.2.2 dX2_told_8

set_option maxRecDepth 20000 in
theorem miX2_residual_X2 : ∀ w ∈ u_ws RX2 TX2 6, w ∈ wsX2_residual := by decide +kernel
set_option maxRecDepth 20000 in
theorem mbX2_residual_1 : (.fieldLink RX2 36 "SectionFibres" "planeAtHand" "Z" : Cond) ∈ wsX2_residual := by decide +kernel
set_option maxRecDepth 20000 in
theorem mbX2_residual_2 : (.constantLong RX2 87 (-4611686018427387904) : Cond) ∈ wsX2_residual := by decide +kernel
set_option maxRecDepth 20000 in
theorem mbX2_residual_3 : (.fieldLink RX2 10 "SectionFibres" "section" "LSectionFibres$Section;" : Cond) ∈ wsX2_residual := by decide +kernel
set_option maxRecDepth 20000 in
theorem mbX2_residual_4 : (.fieldLink RX2 103 "SectionFibres" "planeE" "I" : Cond) ∈ wsX2_residual := by decide +kernel
set_option maxRecDepth 20000 in
theorem mbX2_residual_5 : (.fieldLink RX2 106 "SectionFibres" "planeK" "I" : Cond) ∈ wsX2_residual := by decide +kernel
set_option maxRecDepth 20000 in
theorem mbX2_residual_6 : (.initialized RX1 : Cond) ∈ wsX2_residual := by decide +kernel
set_option maxRecDepth 20000 in
theorem mbX2_residual_7 : (.instanceMethod yX1_sumOf : Cond) ∈ wsX2_residual := by decide +kernel
set_option maxRecDepth 20000 in
theorem mbX2_residual_8 : (.selects RX1 yX1_sumOf yX1_sumOf : Cond) ∈ wsX2_residual := by decide +kernel
set_option maxRecDepth 20000 in
theorem mbX2_residual_9 : (.fieldLink RX2 113 "SectionFibres" "solvedMoment" "J" : Cond) ∈ wsX2_residual := by decide +kernel
set_option maxRecDepth 20000 in
theorem mbX2_residual_10 : (.fieldLink RX2 109 "SectionFibres" "solvedForce" "J" : Cond) ∈ wsX2_residual := by decide +kernel
set_option maxHeartbeats 4000000 in
set_option maxRecDepth 100000 in
theorem c_X2_residual (l : Launch) (dC : Nat → ClassId) (dI : Nat → Nat → Nat) (cA : ClassId) (H : Heap) (A : Nat → Nat) (g : Gg) (n : Nat) (hs pe pk : Int32) (fo mo : Int64) (hP : va_P (dC, dI) vwCl (wC cA A g n hs pe pk fo mo) H) (hg : InvG g) (hn : n ≤ 41) (wh : Int32) : Met l yX2_residual wsX2_residual ({ frames := 4, cells := 0, slots := 0, locals := 102 }) (rd_P [.ref (A 0), .int wh] H (dC, dI) vwCl [(cA, .int)]) (rd_Ql H (fun r => r = resF g n hs pe pk fo mo wh)) 0 0 nF := by
  refine Met.ofW (cc := cX2_residual) (maxL := 2) (ret := (some .long)) (by decide) rfl ?_
  intro p e s m args below meth c s₁ B hml hv
  obtain ⟨rfl, hH, hK, hN⟩ := hv
  subst hH
  have hx := B.exec
  have hb := B.bytes
  have hr := B.returns
  have hts := atoms_spec (ws := wsX2_residual) B.pre
  have hown : s.vm.findClass RX2 = some m.cls := findClass_of_methodNamed B.named
  have hlocks := B.notSynchronized
  have hS : va_S nF s.heap s.heap [] := va_S.rf
  have hl := lv_entry ([.ref (A 0), .int wh]) (n := 2) (Nat.le_of_ble_eq_true rfl)
  rw [lg_entry_eq]
  generalize (lg_sl ([.ref (A 0), .int wh]) ++ List.replicate (2 - (lg_sl ([.ref (A 0), .int wh])).length) Slot.unset).toArray = ls at hl ⊢
  have hl : lv_has ls 2 [(0, .ref (A 0)), (1, .int wh)] := hl
  refine lv_aload_n hx hb dX2_residual_0 rfl (lv_at hl 0 rfl) ?_
  refine va_get (D := (dC, dI)) (ci := 3) (v := .int hs) (C := RX2) (T := TX2) (N := 6) hx hb hts miX2_residual_X2 hown hK hP 0 rfl rfl 1 (by decide) (hts (.fieldLink RX2 36 "SectionFibres" "planeAtHand" "Z") mbX2_residual_1) (fun _ h9 => h9) rfl dX2_residual_1 ?_
  refine lv_if_eq (tgt := 14) hx hb dX2_residual_4 (by decide) (fun c1 => ?_) (fun c1 => ?_)
  · refine lv_ldc2 hx hb hown (hts (.constantLong RX2 87 (-4611686018427387904)) mbX2_residual_2) dX2_residual_14 ?_
    exact W.lret (v := (-4611686018427387904)) hx hb hr (fun t9 ht9 hW9 => ⟨⟨_, (), rfl, (by unfold resF; rw [if_pos c1]), ht9⟩, hS.F ht9⟩) hS.2.2 dX2_residual_17
  · refine lv_iload_n hx hb dX2_residual_7 rfl (lv_at hl 1 rfl) ?_
    refine rd_i (va_runS (As := [.int wh]) (rest := []) ⟨hx, hb, hml, hown, hts⟩ (c_X2_isSum l dC dI cA s.heap wh) (va_cwS 1 hts gX2_residual_X2_isSum rfl rfl rfl (by decide +kernel) ⟨Nat.le_of_ble_eq_true rfl, Nat.le_of_ble_eq_true rfl⟩) ⟨rd_bl, rd_pre hK hN⟩ rfl rfl hl.1 rfl (lv_room (Nat.le_of_ble_eq_true rfl)) dX2_residual_8 ⟨Nat.zero_le _, Nat.zero_le _⟩) hS (fun r1 locs hq2 hS => ?_)
    rcases hq2 with ⟨hq2, rfl⟩ | ⟨hq2, rfl⟩
    · have q1 : (wh = 0 ∨ wh = 1) := hq2
      refine lv_if_ne (tgt := 18) hx hb dX2_residual_11 (by decide) (fun _ => ?_) (fun h9 => absurd h9 (by decide))
      refine lv_aload_n hx hb dX2_residual_18 rfl (lv_at hl 0 rfl) ?_
      refine va_get (D := (dC, dI)) (ci := 3) (v := .ref (A 1)) (C := RX2) (T := TX2) (N := 6) hx hb hts miX2_residual_X2 hown hK hP 0 rfl rfl 0 (by decide) (hts (.fieldLink RX2 10 "SectionFibres" "section" "LSectionFibres$Section;") mbX2_residual_3) (fun _ h9 => h9) rfl dX2_residual_19 ?_
      refine lv_iload_n hx hb dX2_residual_22 rfl (lv_at hl 1 rfl) ?_
      refine lv_aload_n hx hb dX2_residual_23 rfl (lv_at hl 0 rfl) ?_
      refine va_get (D := (dC, dI)) (ci := 3) (v := .int pe) (C := RX2) (T := TX2) (N := 6) hx hb hts miX2_residual_X2 hown hK hP 0 rfl rfl 2 (by decide) (hts (.fieldLink RX2 103 "SectionFibres" "planeE" "I") mbX2_residual_4) (fun _ h9 => h9) rfl dX2_residual_24 ?_
      refine lv_aload_n hx hb dX2_residual_27 rfl (lv_at hl 0 rfl) ?_
      refine va_get (D := (dC, dI)) (ci := 3) (v := .int pk) (C := RX2) (T := TX2) (N := 6) hx hb hts miX2_residual_X2 hown hK hP 0 rfl rfl 3 (by decide) (hts (.fieldLink RX2 106 "SectionFibres" "planeK" "I") mbX2_residual_5) (fun _ h9 => h9) rfl dX2_residual_28 ?_
      refine rd_l (va_runVN (As := [.int wh, .int pe, .int pk]) (rest := []) ⟨hx, hb, hml, hown, hts⟩ (c_X1_sumOf l dC dI cA s.heap A g n hs pe pk fo mo hP hg hn (decide (wh = 1)) wh (decide_eq_true_iff.symm) pe pk) ⟨(va_cnB 3 hts gX2_residual_X1_sumOf_n89 rfl rfl rfl (hN (.methodLinkNest RX2 89 yX1_sumOf "SectionFibres") (List.mem_of_getElem? (i := 6) rfl)) (hts (.initialized RX1) mbX2_residual_6) (by decide +kernel) ⟨Nat.le_of_ble_eq_true rfl, Nat.le_of_ble_eq_true rfl⟩), hts (.instanceMethod yX1_sumOf) mbX2_residual_7, hts (.selects RX1 yX1_sumOf yX1_sumOf) mbX2_residual_8⟩ ⟨rd_bl, va_recv hK hP (ci := 2) (q0 := 1) rfl rfl, rd_pre hK hN⟩ rfl rfl hl.1 rfl (lv_room (Nat.le_of_ble_eq_true rfl)) dX2_residual_31 ⟨Nat.zero_le _, Nat.zero_le _⟩) hS (fun r3 locs hq4 hS => ?_)
      have hq4 : r3 = smF g (decide (wh = 1)) pe pk n := hq4
      subst hq4
      refine lv_iload_n hx hb dX2_residual_34 rfl (lv_at hl 1 rfl) ?_
      refine lv_if_ne (tgt := 45) hx hb dX2_residual_35 (by decide) (fun c2 => ?_) (fun c2 => ?_)
      · refine lv_aload_n hx hb dX2_residual_45 rfl (lv_at hl 0 rfl) ?_
        refine va_get (D := (dC, dI)) (ci := 3) (v := .long mo) (C := RX2) (T := TX2) (N := 6) hx hb hts miX2_residual_X2 hown hK hP 0 rfl rfl 5 (by decide) (hts (.fieldLink RX2 113 "SectionFibres" "solvedMoment" "J") mbX2_residual_9) (fun _ h9 => h9) rfl dX2_residual_46 ?_
        refine lv_lsub hx hb dX2_residual_49 ?_
        exact W.lret (v := ((smF g (decide (wh = 1)) pe pk n) - mo)) hx hb hr (fun t9 ht9 hW9 => ⟨⟨_, (), rfl, (by unfold resF; rw [if_neg c1, if_neg c2, if_pos (q1.resolve_left c2), decide_eq_true (q1.resolve_left c2)]), ht9⟩, hS.F ht9⟩) hS.2.2 dX2_residual_50
      · refine lv_aload_n hx hb dX2_residual_38 rfl (lv_at hl 0 rfl) ?_
        refine va_get (D := (dC, dI)) (ci := 3) (v := .long fo) (C := RX2) (T := TX2) (N := 6) hx hb hts miX2_residual_X2 hown hK hP 0 rfl rfl 4 (by decide) (hts (.fieldLink RX2 109 "SectionFibres" "solvedForce" "J") mbX2_residual_10) (fun _ h9 => h9) rfl dX2_residual_39 ?_
        refine lv_goto (tgt := 49) hx hb dX2_residual_42 (by decide) ?_
        refine lv_lsub hx hb dX2_residual_49 ?_
        exact W.lret (v := ((smF g (decide (wh = 1)) pe pk n) - fo)) hx hb hr (fun t9 ht9 hW9 => ⟨⟨_, (), rfl, (by unfold resF; rw [if_neg c1, if_pos c2, decide_eq_false (fun h9 => absurd (c2.symm.trans h9) (by decide))]), ht9⟩, hS.F ht9⟩) hS.2.2 dX2_residual_50
    · have q1 : ¬ (wh = 0 ∨ wh = 1) := hq2
      refine lv_if_ne (tgt := 18) hx hb dX2_residual_11 (by decide) (fun h9 => absurd h9 (by decide)) (fun _ => ?_)
      refine lv_ldc2 hx hb hown (hts (.constantLong RX2 87 (-4611686018427387904)) mbX2_residual_2) dX2_residual_14 ?_
      exact W.lret (v := (-4611686018427387904)) hx hb hr (fun t9 ht9 hW9 => ⟨⟨_, (), rfl, (by unfold resF; rw [if_neg c1, if_neg (fun h9 => q1 (Or.inl h9)), if_neg (fun h9 => q1 (Or.inr h9))]), ht9⟩, hS.F ht9⟩) hS.2.2 dX2_residual_17

set_option maxRecDepth 20000 in
theorem miX2_curve_X2 : ∀ w ∈ u_ws RX2 TX2 6, w ∈ wsX2_curve := by decide +kernel
set_option maxRecDepth 20000 in
theorem mbX2_curve_1 : (.fieldLink RX2 10 "SectionFibres" "section" "LSectionFibres$Section;" : Cond) ∈ wsX2_curve := by decide +kernel
set_option maxRecDepth 20000 in
theorem mbX2_curve_2 : (.initialized RX1 : Cond) ∈ wsX2_curve := by decide +kernel
set_option maxRecDepth 20000 in
theorem mbX2_curve_3 : (.instanceMethod yX1_balanceOf : Cond) ∈ wsX2_curve := by decide +kernel
set_option maxRecDepth 20000 in
theorem mbX2_curve_4 : (.selects RX1 yX1_balanceOf yX1_balanceOf : Cond) ∈ wsX2_curve := by decide +kernel
set_option maxRecDepth 20000 in
theorem mbX2_curve_5 : (.constant RX2 43 (-1000000) : Cond) ∈ wsX2_curve := by decide +kernel
set_option maxRecDepth 20000 in
theorem mbX2_curve_6 : (.instanceMethod yX1_sumOf : Cond) ∈ wsX2_curve := by decide +kernel
set_option maxRecDepth 20000 in
theorem mbX2_curve_7 : (.selects RX1 yX1_sumOf yX1_sumOf : Cond) ∈ wsX2_curve := by decide +kernel
set_option maxRecDepth 20000 in
theorem mbX2_curve_8 : (.constantLong RX2 87 (-4611686018427387904) : Cond) ∈ wsX2_curve := by decide +kernel
set_option maxHeartbeats 4000000 in
set_option maxRecDepth 100000 in
theorem c_X2_curve (l : Launch) (dC : Nat → ClassId) (dI : Nat → Nat → Nat) (cA : ClassId) (H : Heap) (A : Nat → Nat) (g : Gg) (n : Nat) (hs pe pk : Int32) (fo mo : Int64) (hP : va_P (dC, dI) vwCl (wC cA A g n hs pe pk fo mo) H) (hg : InvG g) (hn : n ≤ 41) (fr : Int64) (sp kq : Int32) : Met l yX2_curve wsX2_curve ({ frames := 5, cells := 0, slots := 0, locals := 129 }) (rd_P [.ref (A 0), .long fr, .int sp, .int kq] H (dC, dI) vwCl [(cA, .int)]) (rd_Ql H (fun r => r = curF g n fr sp kq)) 0 0 nF := by
  refine Met.ofW (cc := cX2_curve) (maxL := 6) (ret := (some .long)) (by decide) rfl ?_
  intro p e s m args below meth c s₁ B hml hv
  obtain ⟨rfl, hH, hK, hN⟩ := hv
  subst hH
  have hx := B.exec
  have hb := B.bytes
  have hr := B.returns
  have hts := atoms_spec (ws := wsX2_curve) B.pre
  have hown : s.vm.findClass RX2 = some m.cls := findClass_of_methodNamed B.named
  have hlocks := B.notSynchronized
  have hS : va_S nF s.heap s.heap [] := va_S.rf
  have hl := lv_entry ([.ref (A 0), .long fr, .int sp, .int kq]) (n := 6) (Nat.le_of_ble_eq_true rfl)
  rw [lg_entry_eq]
  generalize (lg_sl ([.ref (A 0), .long fr, .int sp, .int kq]) ++ List.replicate (6 - (lg_sl ([.ref (A 0), .long fr, .int sp, .int kq])).length) Slot.unset).toArray = ls at hl ⊢
  have hl : lv_has ls 6 [(0, .ref (A 0)), (1, .long fr), (3, .int sp), (4, .int kq)] := hl
  refine lv_iload_n hx hb dX2_curve_0 rfl (lv_at hl 2 rfl) ?_
  refine rd_i (va_runS (As := [.int sp]) (rest := []) ⟨hx, hb, hml, hown, hts⟩ (c_X2_isBendStep l dC dI cA s.heap sp) (va_cwS 1 hts gX2_curve_X2_isBendStep rfl rfl rfl (by decide +kernel) ⟨Nat.le_of_ble_eq_true rfl, Nat.le_of_ble_eq_true rfl⟩) ⟨rd_bl, rd_pre hK hN⟩ rfl rfl hl.1 rfl (lv_room (Nat.le_of_ble_eq_true rfl)) dX2_curve_1 ⟨Nat.zero_le _, Nat.zero_le _⟩) hS (fun r1 locs hq2 hS => ?_)
  rcases hq2 with ⟨hq2, rfl⟩ | ⟨hq2, rfl⟩
  · have q1 : rg sp 1 1000 := hq2
    refine lv_if_eq (tgt := 18) hx hb dX2_curve_4 (by decide) (fun h9 => absurd h9 (by decide)) (fun _ => ?_)
    refine lv_iload hx hb dX2_curve_7 (lv_at hl 3 rfl) ?_
    refine lv_iconst (v := 0) hx hb dX2_curve_9 (by decide) ?_
    refine lv_bipush (v := 20) hx hb dX2_curve_10 (by decide) ?_
    refine rd_i (va_runS (As := [.int kq, .int 0, .int 20]) (rest := []) ⟨hx, hb, hml, hown, hts⟩ (c_X2_within l dC dI cA s.heap kq 0 20 0 20 (by decide) (by decide)) (va_cwS 3 hts gX2_curve_X2_within rfl rfl rfl (by decide +kernel) ⟨Nat.le_of_ble_eq_true rfl, Nat.le_of_ble_eq_true rfl⟩) ⟨rd_bl, rd_pre hK hN⟩ rfl rfl hl.1 rfl (lv_room (Nat.le_of_ble_eq_true rfl)) dX2_curve_12 ⟨Nat.zero_le _, Nat.zero_le _⟩) hS (fun r3 locs hq4 hS => ?_)
    rcases hq4 with ⟨hq4, rfl⟩ | ⟨hq4, rfl⟩
    · have q2 : rg kq 0 20 := hq4
      refine lv_if_ne (tgt := 22) hx hb dX2_curve_15 (by decide) (fun _ => ?_) (fun h9 => absurd h9 (by decide))
      refine lv_aload_n hx hb dX2_curve_22 rfl (lv_at hl 0 rfl) ?_
      refine va_get (D := (dC, dI)) (ci := 3) (v := .ref (A 1)) (C := RX2) (T := TX2) (N := 6) hx hb hts miX2_curve_X2 hown hK hP 0 rfl rfl 0 (by decide) (hts (.fieldLink RX2 10 "SectionFibres" "section" "LSectionFibres$Section;") mbX2_curve_1) (fun _ h9 => h9) rfl dX2_curve_23 ?_
      refine lv_lload_n hx hb dX2_curve_26 rfl (lv_at hl 1 rfl) ?_
      refine lv_iload hx hb dX2_curve_27 (lv_at hl 3 rfl) ?_
      refine lv_iload_n hx hb dX2_curve_29 rfl (lv_at hl 2 rfl) ?_
      refine lv_imul hx hb dX2_curve_30 ?_
      refine rd_i (va_runVN (As := [.long fr, .int (kq * sp)]) (rest := []) ⟨hx, hb, hml, hown, hts⟩ (c_X1_balanceOf l dC dI cA s.heap A g n hs pe pk fo mo hP hg hn fr (kq * sp)) ⟨(va_cnB 2 hts gX2_curve_X1_balanceOf_n93 rfl rfl rfl (hN (.methodLinkNest RX2 93 yX1_balanceOf "SectionFibres") (List.mem_of_getElem? (i := 10) rfl)) (hts (.initialized RX1) mbX2_curve_2) (by decide +kernel) ⟨Nat.le_of_ble_eq_true rfl, Nat.le_of_ble_eq_true rfl⟩), hts (.instanceMethod yX1_balanceOf) mbX2_curve_3, hts (.selects RX1 yX1_balanceOf yX1_balanceOf) mbX2_curve_4⟩ ⟨rd_bl, va_recv hK hP (ci := 2) (q0 := 1) rfl rfl, rd_pre hK hN⟩ rfl rfl hl.1 rfl (lv_room (Nat.le_of_ble_eq_true rfl)) dX2_curve_31 ⟨Nat.zero_le _, Nat.zero_le _⟩) hS (fun r5 locs hq6 hS => ?_)
      have hq6 : r5 = blF g n fr (kq * sp) := hq6
      subst hq6
      refine lv_istore (lv' := [(5, .int (blF g n fr (kq * sp))), (0, .ref (A 0)), (1, .long fr), (3, .int sp), (4, .int kq)]) hx hb dX2_curve_34 hl (by decide) rfl (fun ls hl => ?_)
      refine lv_iload hx hb dX2_curve_36 (lv_at hl 0 rfl) ?_
      refine lv_ldc hx hb hown (hts (.constant RX2 43 (-1000000)) mbX2_curve_5) dX2_curve_38 ?_
      refine lv_icmp_ne (tgt := 49) hx hb dX2_curve_40 (by decide) (fun c1 => ?_) (fun c1 => ?_)
      · refine lv_aload_n hx hb dX2_curve_49 rfl (lv_at hl 1 rfl) ?_
        refine va_get (D := (dC, dI)) (ci := 3) (v := .ref (A 1)) (C := RX2) (T := TX2) (N := 6) hx hb hts miX2_curve_X2 hown hK hP 0 rfl rfl 0 (by decide) (hts (.fieldLink RX2 10 "SectionFibres" "section" "LSectionFibres$Section;") mbX2_curve_1) (fun _ h9 => h9) rfl dX2_curve_50 ?_
        refine lv_iconst (v := 1) hx hb dX2_curve_53 (by decide) ?_
        refine lv_iload hx hb dX2_curve_54 (lv_at hl 0 rfl) ?_
        refine lv_iload hx hb dX2_curve_56 (lv_at hl 4 rfl) ?_
        refine lv_iload_n hx hb dX2_curve_58 rfl (lv_at hl 3 rfl) ?_
        refine lv_imul hx hb dX2_curve_59 ?_
        refine rd_l (va_runVN (As := [.int 1, .int (blF g n fr (kq * sp)), .int (kq * sp)]) (rest := []) ⟨hx, hb, hml, hown, hts⟩ (c_X1_sumOf l dC dI cA s.heap A g n hs pe pk fo mo hP hg hn true 1 (by decide) (blF g n fr (kq * sp)) (kq * sp)) ⟨(va_cnB 3 hts gX2_curve_X1_sumOf_n89 rfl rfl rfl (hN (.methodLinkNest RX2 89 yX1_sumOf "SectionFibres") (List.mem_of_getElem? (i := 6) rfl)) (hts (.initialized RX1) mbX2_curve_2) (by decide +kernel) ⟨Nat.le_of_ble_eq_true rfl, Nat.le_of_ble_eq_true rfl⟩), hts (.instanceMethod yX1_sumOf) mbX2_curve_6, hts (.selects RX1 yX1_sumOf yX1_sumOf) mbX2_curve_7⟩ ⟨rd_bl, va_recv hK hP (ci := 2) (q0 := 1) rfl rfl, rd_pre hK hN⟩ rfl rfl hl.1 rfl (lv_room (Nat.le_of_ble_eq_true rfl)) dX2_curve_60 ⟨Nat.zero_le _, Nat.zero_le _⟩) hS (fun r7 locs hq8 hS => ?_)
        have hq8 : r7 = smF g true (blF g n fr (kq * sp)) (kq * sp) n := hq8
        subst hq8
        exact W.lret (v := (smF g true (blF g n fr (kq * sp)) (kq * sp) n)) hx hb hr (fun t9 ht9 hW9 => ⟨⟨_, (), rfl, (by unfold curF cvF; rw [if_pos ⟨q1, q2⟩, if_neg c1]), ht9⟩, hS.F ht9⟩) hS.2.2 dX2_curve_63
      · refine lv_ldc2 hx hb hown (hts (.constantLong RX2 87 (-4611686018427387904)) mbX2_curve_8) dX2_curve_43 ?_
        refine lv_goto (tgt := 63) hx hb dX2_curve_46 (by decide) ?_
        exact W.lret (v := (-4611686018427387904)) hx hb hr (fun t9 ht9 hW9 => ⟨⟨_, (), rfl, (by unfold curF cvF; rw [if_pos ⟨q1, q2⟩, if_pos c1]), ht9⟩, hS.F ht9⟩) hS.2.2 dX2_curve_63
    · have q2 : ¬ (rg kq 0 20) := hq4
      refine lv_if_ne (tgt := 22) hx hb dX2_curve_15 (by decide) (fun h9 => absurd h9 (by decide)) (fun _ => ?_)
      refine lv_ldc2 hx hb hown (hts (.constantLong RX2 87 (-4611686018427387904)) mbX2_curve_8) dX2_curve_18 ?_
      exact W.lret (v := (-4611686018427387904)) hx hb hr (fun t9 ht9 hW9 => ⟨⟨_, (), rfl, (by unfold curF; rw [if_neg (fun h9 => q2 h9.2)]), ht9⟩, hS.F ht9⟩) hS.2.2 dX2_curve_21
  · have q1 : ¬ (rg sp 1 1000) := hq2
    refine lv_if_eq (tgt := 18) hx hb dX2_curve_4 (by decide) (fun _ => ?_) (fun h9 => absurd h9 (by decide))
    refine lv_ldc2 hx hb hown (hts (.constantLong RX2 87 (-4611686018427387904)) mbX2_curve_8) dX2_curve_18 ?_
    exact W.lret (v := (-4611686018427387904)) hx hb hr (fun t9 ht9 hW9 => ⟨⟨_, (), rfl, (by unfold curF; rw [if_neg (fun h9 => q1 h9.1)]), ht9⟩, hS.F ht9⟩) hS.2.2 dX2_curve_21

set_option maxRecDepth 20000 in
theorem miX2_last_X2 : ∀ w ∈ u_ws RX2 TX2 6, w ∈ wsX2_last := by decide +kernel
set_option maxRecDepth 20000 in
theorem mbX2_last_1 : (.fieldLink RX2 10 "SectionFibres" "section" "LSectionFibres$Section;" : Cond) ∈ wsX2_last := by decide +kernel
set_option maxRecDepth 20000 in
theorem mbX2_last_2 : (.initialized RX1 : Cond) ∈ wsX2_last := by decide +kernel
set_option maxRecDepth 20000 in
theorem mbX2_last_3 : (.instanceMethod yX1_balanceOf : Cond) ∈ wsX2_last := by decide +kernel
set_option maxRecDepth 20000 in
theorem mbX2_last_4 : (.selects RX1 yX1_balanceOf yX1_balanceOf : Cond) ∈ wsX2_last := by decide +kernel
set_option maxRecDepth 20000 in
theorem mbX2_last_5 : (.constant RX2 43 (-1000000) : Cond) ∈ wsX2_last := by decide +kernel
set_option maxRecDepth 20000 in
theorem mbX2_last_6 : (.instanceMethod yX1_firstBeyond : Cond) ∈ wsX2_last := by decide +kernel
set_option maxRecDepth 20000 in
theorem mbX2_last_7 : (.selects RX1 yX1_firstBeyond yX1_firstBeyond : Cond) ∈ wsX2_last := by decide +kernel
set_option maxHeartbeats 4000000 in
set_option maxRecDepth 100000 in
theorem c_X2_last (l : Launch) (dC : Nat → ClassId) (dI : Nat → Nat → Nat) (cA : ClassId) (H : Heap) (A : Nat → Nat) (g : Gg) (n : Nat) (hs pe pk : Int32) (fo mo : Int64) (hP : va_P (dC, dI) vwCl (wC cA A g n hs pe pk fo mo) H) (hg : InvG g) (hn : n ≤ 41) (fr : Int64) (sp : Int32) : Met l yX2_last wsX2_last ({ frames := 5, cells := 0, slots := 0, locals := 129 }) (rd_P [.ref (A 0), .long fr, .int sp] H (dC, dI) vwCl [(cA, .int)]) (rd_Qi H (fun r => r = lasF g n fr sp)) 0 0 nF := by
  refine Met.ofW (cc := cX2_last) (maxL := 6) (ret := (some .int)) (by decide) rfl ?_
  intro p e s m args below meth c s₁ B hml hv
  obtain ⟨rfl, hH, hK, hN⟩ := hv
  subst hH
  have hx := B.exec
  have hb := B.bytes
  have hr := B.returns
  have hts := atoms_spec (ws := wsX2_last) B.pre
  have hown : s.vm.findClass RX2 = some m.cls := findClass_of_methodNamed B.named
  have hlocks := B.notSynchronized
  have hS : va_S nF s.heap s.heap [] := va_S.rf
  have hl := lv_entry ([.ref (A 0), .long fr, .int sp]) (n := 6) (Nat.le_of_ble_eq_true rfl)
  rw [lg_entry_eq]
  generalize (lg_sl ([.ref (A 0), .long fr, .int sp]) ++ List.replicate (6 - (lg_sl ([.ref (A 0), .long fr, .int sp])).length) Slot.unset).toArray = ls at hl ⊢
  have hl : lv_has ls 6 [(0, .ref (A 0)), (1, .long fr), (3, .int sp)] := hl
  refine lv_iload_n hx hb dX2_last_0 rfl (lv_at hl 2 rfl) ?_
  refine rd_i (va_runS (As := [.int sp]) (rest := []) ⟨hx, hb, hml, hown, hts⟩ (c_X2_isBendStep l dC dI cA s.heap sp) (va_cwS 1 hts gX2_last_X2_isBendStep rfl rfl rfl (by decide +kernel) ⟨Nat.le_of_ble_eq_true rfl, Nat.le_of_ble_eq_true rfl⟩) ⟨rd_bl, rd_pre hK hN⟩ rfl rfl hl.1 rfl (lv_room (Nat.le_of_ble_eq_true rfl)) dX2_last_1 ⟨Nat.zero_le _, Nat.zero_le _⟩) hS (fun r1 locs hq2 hS => ?_)
  rcases hq2 with ⟨hq2, rfl⟩ | ⟨hq2, rfl⟩
  · have q1 : rg sp 1 1000 := hq2
    refine lv_if_ne (tgt := 9) hx hb dX2_last_4 (by decide) (fun _ => ?_) (fun h9 => absurd h9 (by decide))
    refine lv_iconst (v := 0) hx hb dX2_last_9 (by decide) ?_
    refine tp_i (v := nI 0) (rfl) ?_
    refine lv_istore (lv' := [(4, .int (nI 0)), (0, .ref (A 0)), (1, .long fr), (3, .int sp)]) hx hb dX2_last_10 hl (by decide) rfl (fun ls hl => ?_)
    have lp : ∀ (z : Nat) (i : Nat) (locs : List Loc) (ls : Array Slot), i ≤ 21 → 22 ≤ i + z → lasF g n fr sp = laF g n fr sp (21 - i) i → va_S nF s.heap s.heap locs → lv_has ls 6 [(0, .ref (A 0)), (1, .long fr), (3, .int sp), (4, .int (nI i))] → W p l e (headSpec wsX2_last ({ frames := 5, cells := 0, slots := 0, locals := 129 })).room s m ([.ref (A 0), .long fr, .int sp]).toArray below meth c s.heap locs 0 0 (MQ below (rd_Qi s.heap (fun r => r = lasF g n fr sp)) ([.ref (A 0), .long fr, .int sp]).toArray s 0 0 nF) (F0 m 12 ls []) := by
      intro z
      induction z with
      | zero =>
        intro i locs ls h1 h2 hv hS hl
        exact absurd h2 (by omega)
      | succ z ih =>
        intro i locs ls h1 h2 hv hS hl
        refine lv_iload hx hb dX2_last_12 (lv_at hl 3 rfl) ?_
        refine lv_bipush (v := 20) hx hb dX2_last_14 (by decide) ?_
        refine tp_i (v := nI 20) (rfl) ?_
        refine lv_icmp_gt (tgt := 68) hx hb dX2_last_16 (by decide) (fun c2 => ?_) (fun c2 => ?_)
        · have hi : i = 21 := by have h9 := (nI_ltI (by omega) (by omega)).mp c2; omega
          refine lv_iconst (v := (-1)) hx hb dX2_last_68 (by decide) ?_
          exact W.iret (v := (-1)) hx hb hr (fun t9 ht9 hW9 => ⟨⟨_, (), rfl, (by rw [hv, hi]; rfl), ht9⟩, hS.F ht9⟩) hS.2.2 dX2_last_69
        · have hi : i ≤ 20 := by rcases Nat.lt_or_ge 20 i with h9 | h9; exact absurd (nI_lt h9 (by omega)) c2; exact h9
          refine lv_aload_n hx hb dX2_last_19 rfl (lv_at hl 0 rfl) ?_
          refine va_get (D := (dC, dI)) (ci := 3) (v := .ref (A 1)) (C := RX2) (T := TX2) (N := 6) hx hb hts miX2_last_X2 hown hK hP 0 rfl rfl 0 (by decide) (hts (.fieldLink RX2 10 "SectionFibres" "section" "LSectionFibres$Section;") mbX2_last_1) (fun _ h9 => h9) rfl dX2_last_20 ?_
          refine lv_lload_n hx hb dX2_last_23 rfl (lv_at hl 1 rfl) ?_
          refine lv_iload hx hb dX2_last_24 (lv_at hl 3 rfl) ?_
          refine lv_iload_n hx hb dX2_last_26 rfl (lv_at hl 2 rfl) ?_
          refine lv_imul hx hb dX2_last_27 ?_
          refine rd_i (va_runVN (As := [.long fr, .int ((nI i) * sp)]) (rest := []) ⟨hx, hb, hml, hown, hts⟩ (c_X1_balanceOf l dC dI cA s.heap A g n hs pe pk fo mo hP hg hn fr ((nI i) * sp)) ⟨(va_cnB 2 hts gX2_last_X1_balanceOf_n93 rfl rfl rfl (hN (.methodLinkNest RX2 93 yX1_balanceOf "SectionFibres") (List.mem_of_getElem? (i := 10) rfl)) (hts (.initialized RX1) mbX2_last_2) (by decide +kernel) ⟨Nat.le_of_ble_eq_true rfl, Nat.le_of_ble_eq_true rfl⟩), hts (.instanceMethod yX1_balanceOf) mbX2_last_3, hts (.selects RX1 yX1_balanceOf yX1_balanceOf) mbX2_last_4⟩ ⟨rd_bl, va_recv hK hP (ci := 2) (q0 := 1) rfl rfl, rd_pre hK hN⟩ rfl rfl hl.1 rfl (lv_room (Nat.le_of_ble_eq_true rfl)) dX2_last_28 ⟨Nat.zero_le _, Nat.zero_le _⟩) hS (fun r3 locs hq4 hS => ?_)
          have hq4 : r3 = blF g n fr ((nI i) * sp) := hq4
          subst hq4
          refine lv_istore (lv' := [(5, .int (blF g n fr ((nI i) * sp))), (0, .ref (A 0)), (1, .long fr), (3, .int sp), (4, .int (nI i))]) hx hb dX2_last_31 hl (by decide) rfl (fun ls hl => ?_)
          refine lv_iload hx hb dX2_last_33 (lv_at hl 0 rfl) ?_
          refine lv_ldc hx hb hown (hts (.constant RX2 43 (-1000000)) mbX2_last_5) dX2_last_35 ?_
          refine lv_icmp_ne (tgt := 42) hx hb dX2_last_37 (by decide) (fun c3 => ?_) (fun c3 => ?_)
          · refine lv_aload_n hx hb dX2_last_42 rfl (lv_at hl 1 rfl) ?_
            refine va_get (D := (dC, dI)) (ci := 3) (v := .ref (A 1)) (C := RX2) (T := TX2) (N := 6) hx hb hts miX2_last_X2 hown hK hP 0 rfl rfl 0 (by decide) (hts (.fieldLink RX2 10 "SectionFibres" "section" "LSectionFibres$Section;") mbX2_last_1) (fun _ h9 => h9) rfl dX2_last_43 ?_
            refine lv_iload hx hb dX2_last_46 (lv_at hl 0 rfl) ?_
            refine lv_iload hx hb dX2_last_48 (lv_at hl 4 rfl) ?_
            refine lv_iload_n hx hb dX2_last_50 rfl (lv_at hl 3 rfl) ?_
            refine lv_imul hx hb dX2_last_51 ?_
            refine rd_i (va_runVN (As := [.int (blF g n fr ((nI i) * sp)), .int ((nI i) * sp)]) (rest := []) ⟨hx, hb, hml, hown, hts⟩ (c_X1_firstBeyond l dC dI cA s.heap A g n hs pe pk fo mo hP hg hn (blF g n fr ((nI i) * sp)) ((nI i) * sp)) ⟨(va_cnB 2 hts gX2_last_X1_firstBeyond_n116 rfl rfl rfl (hN (.methodLinkNest RX2 116 yX1_firstBeyond "SectionFibres") (List.mem_of_getElem? (i := 12) rfl)) (hts (.initialized RX1) mbX2_last_2) (by decide +kernel) ⟨Nat.le_of_ble_eq_true rfl, Nat.le_of_ble_eq_true rfl⟩), hts (.instanceMethod yX1_firstBeyond) mbX2_last_6, hts (.selects RX1 yX1_firstBeyond yX1_firstBeyond) mbX2_last_7⟩ ⟨rd_bl, va_recv hK hP (ci := 2) (q0 := 1) rfl rfl, rd_pre hK hN⟩ rfl rfl hl.1 rfl (lv_room (Nat.le_of_ble_eq_true rfl)) dX2_last_52 ⟨Nat.zero_le _, Nat.zero_le _⟩) hS (fun r5 locs hq6 hS => ?_)
            have hq6 : r5 = fbF g (blF g n fr ((nI i) * sp)) ((nI i) * sp) n 0 := hq6
            subst hq6
            refine lv_iconst (v := (-1)) hx hb dX2_last_55 (by decide) ?_
            refine lv_icmp_eq (tgt := 62) hx hb dX2_last_56 (by decide) (fun c4 => ?_) (fun c4 => ?_)
            · refine lv_iinc (v := nI (i + 1)) (lv' := [(4, .int (nI (i + 1))), (5, .int (blF g n fr ((nI i) * sp))), (0, .ref (A 0)), (1, .long fr), (3, .int sp)]) hx hb dX2_last_62 hl (k := 4) rfl (nI_1 i) (by decide) rfl (fun ls hl => ?_)
              refine lv_goto (tgt := 12) hx hb dX2_last_65 (by decide) ?_
              exact ih (i + 1) _ _ (by omega) (by omega) (by rw [hv, show 21 - i = (21 - (i + 1)) + 1 by omega, la_f c3 c4]) hS (lv_sub hl [2, 3, 4, 0] rfl)
            · refine lv_iload hx hb dX2_last_59 (lv_at hl 4 rfl) ?_
              exact W.iret (v := (nI i)) hx hb hr (fun t9 ht9 hW9 => ⟨⟨_, (), rfl, (by rw [hv, show 21 - i = (21 - (i + 1)) + 1 by omega, la_t c3 c4]), ht9⟩, hS.F ht9⟩) hS.2.2 dX2_last_61
          · refine lv_iconst (v := (-1)) hx hb dX2_last_40 (by decide) ?_
            exact W.iret (v := (-1)) hx hb hr (fun t9 ht9 hW9 => ⟨⟨_, (), rfl, (by rw [hv, show 21 - i = (21 - (i + 1)) + 1 by omega, la_0 c3]), ht9⟩, hS.F ht9⟩) hS.2.2 dX2_last_41
    exact lp 22 0 _ _ (by omega) (by omega) (by unfold lasF; rw [if_pos q1]) hS (lv_sub hl [1, 2, 3, 0] rfl)
  · have q1 : ¬ (rg sp 1 1000) := hq2
    refine lv_if_ne (tgt := 9) hx hb dX2_last_4 (by decide) (fun h9 => absurd h9 (by decide)) (fun _ => ?_)
    refine lv_iconst (v := (-1)) hx hb dX2_last_7 (by decide) ?_
    exact W.iret (v := (-1)) hx hb hr (fun t9 ht9 hW9 => ⟨⟨_, (), rfl, (by unfold lasF; rw [if_neg q1]), ht9⟩, hS.F ht9⟩) hS.2.2 dX2_last_8

theorem wh_2 {w : Int32} (h : rg w 2 5) : w - 2 = nI (w.toNatClampNeg - 2) := by
  have h1 := h.1
  have h2 := h.2
  have h3 : w.toInt.toNat = w.toNatClampNeg := rfl
  apply Int32.toInt_inj.1
  rw [sb32 (by rw [show (2 : Int32).toInt = 2 by decide]; omega) (by rw [show (2 : Int32).toInt = 2 by decide]; omega), show (2 : Int32).toInt = 2 by decide, nI_toInt (by omega)]
  omega

set_option maxRecDepth 20000 in
theorem miX2_count_X2 : ∀ w ∈ u_ws RX2 TX2 6, w ∈ wsX2_count := by decide +kernel
set_option maxRecDepth 20000 in
theorem mbX2_count_1 : (.fieldLink RX2 10 "SectionFibres" "section" "LSectionFibres$Section;" : Cond) ∈ wsX2_count := by decide +kernel
set_option maxRecDepth 20000 in
theorem miX2_count_X1 : ∀ w ∈ u_ws RX1 TX1 7, w ∈ wsX2_count := by decide +kernel
set_option maxRecDepth 20000 in
theorem miX2_count_X0 : ∀ w ∈ u_ws RX0 TX0 5, w ∈ wsX2_count := by decide +kernel
set_option maxRecDepth 20000 in
theorem mbX2_count_4 : (.initialized RX1 : Cond) ∈ wsX2_count := by decide +kernel
set_option maxRecDepth 20000 in
theorem mbX2_count_5 : (.instanceMethod yX1_allAreas : Cond) ∈ wsX2_count := by decide +kernel
set_option maxRecDepth 20000 in
theorem mbX2_count_6 : (.selects RX1 yX1_allAreas yX1_allAreas : Cond) ∈ wsX2_count := by decide +kernel
set_option maxHeartbeats 4000000 in
set_option maxRecDepth 100000 in
theorem c_X2_count (l : Launch) (dC : Nat → ClassId) (dI : Nat → Nat → Nat) (cA : ClassId) (H : Heap) (A : Nat → Nat) (g : Gg) (n : Nat) (hs pe pk : Int32) (fo mo : Int64) (hP : va_P (dC, dI) vwCl (wC cA A g n hs pe pk fo mo) H) (hg : InvG g) (hn : n ≤ 41) (wh : Int32) : Met l yX2_count wsX2_count ({ frames := 1, cells := 0, slots := 0, locals := 22 }) (rd_P [.ref (A 0), .int wh] H (dC, dI) vwCl [(cA, .int)]) (rd_Qi H (fun r => r = couF g n wh)) 0 0 nF := by
  refine Met.ofW (cc := cX2_count) (maxL := 2) (ret := (some .int)) (by decide) rfl ?_
  intro p e s m args below meth c s₁ B hml hv
  obtain ⟨rfl, hH, hK, hN⟩ := hv
  subst hH
  have hx := B.exec
  have hb := B.bytes
  have hr := B.returns
  have hts := atoms_spec (ws := wsX2_count) B.pre
  have hown : s.vm.findClass RX2 = some m.cls := findClass_of_methodNamed B.named
  have hlocks := B.notSynchronized
  have hS : va_S nF s.heap s.heap [] := va_S.rf
  have hl := lv_entry ([.ref (A 0), .int wh]) (n := 2) (Nat.le_of_ble_eq_true rfl)
  rw [lg_entry_eq]
  generalize (lg_sl ([.ref (A 0), .int wh]) ++ List.replicate (2 - (lg_sl ([.ref (A 0), .int wh])).length) Slot.unset).toArray = ls at hl ⊢
  have hl : lv_has ls 2 [(0, .ref (A 0)), (1, .int wh)] := hl
  refine lv_iload_n hx hb dX2_count_0 rfl (lv_at hl 1 rfl) ?_
  refine lv_if_ne (tgt := 12) hx hb dX2_count_1 (by decide) (fun c1 => ?_) (fun c1 => ?_)
  · refine lv_iload_n hx hb dX2_count_12 rfl (lv_at hl 1 rfl) ?_
    refine lv_iconst (v := 1) hx hb dX2_count_13 (by decide) ?_
    refine lv_icmp_ne (tgt := 25) hx hb dX2_count_14 (by decide) (fun c2 => ?_) (fun c2 => ?_)
    · refine lv_iload_n hx hb dX2_count_25 rfl (lv_at hl 1 rfl) ?_
      refine lv_iconst (v := 2) hx hb dX2_count_26 (by decide) ?_
      refine lv_iconst (v := 5) hx hb dX2_count_27 (by decide) ?_
      refine rd_i (va_runS (As := [.int wh, .int 2, .int 5]) (rest := []) ⟨hx, hb, hml, hown, hts⟩ (c_X2_within l dC dI cA s.heap wh 2 5 2 5 (by decide) (by decide)) (va_cwS 3 hts gX2_count_X2_within rfl rfl rfl (by decide +kernel) ⟨Nat.le_of_ble_eq_true rfl, Nat.le_of_ble_eq_true rfl⟩) ⟨rd_bl, rd_pre hK hN⟩ rfl rfl hl.1 rfl (lv_room (Nat.le_of_ble_eq_true rfl)) dX2_count_28 ⟨Nat.zero_le _, Nat.zero_le _⟩) hS (fun r1 locs hq2 hS => ?_)
      rcases hq2 with ⟨hq2, rfl⟩ | ⟨hq2, rfl⟩
      · have q1 : rg wh 2 5 := hq2
        refine lv_if_eq (tgt := 51) hx hb dX2_count_31 (by decide) (fun h9 => absurd h9 (by decide)) (fun _ => ?_)
        refine lv_aload_n hx hb dX2_count_34 rfl (lv_at hl 0 rfl) ?_
        refine va_get (D := (dC, dI)) (ci := 3) (v := .ref (A 1)) (C := RX2) (T := TX2) (N := 6) hx hb hts miX2_count_X2 hown hK hP 0 rfl rfl 0 (by decide) (hts (.fieldLink RX2 10 "SectionFibres" "section" "LSectionFibres$Section;") mbX2_count_1) (fun _ h9 => h9) rfl dX2_count_35 ?_
        refine va_getN (D := (dC, dI)) (ci := 2) (v := .ref (A 2)) (C := RX1) (T := TX1) (N := 7) hx hb hts miX2_count_X1 hown hK hP 1 rfl rfl 0 (by decide) (va_Nw.use rfl (hN (.fieldLinkNest RX2 45 "SectionFibres$Section" "kinds" "LSectionFibres$Kinds;" "SectionFibres") (List.mem_of_getElem? (i := 25) rfl))) (fun _ h9 => h9) rfl dX2_count_38 ?_
        refine va_getN (D := (dC, dI)) (ci := 1) (v := .ref (A 10)) (C := RX0) (T := TX0) (N := 5) hx hb hts miX2_count_X0 hown hK hP 2 rfl rfl 2 (by decide) (va_Nw.use rfl (hN (.fieldLinkNest RX2 142 "SectionFibres$Kinds" "points" "[I" "SectionFibres") (List.mem_of_getElem? (i := 20) rfl))) (fun _ h9 => h9) rfl dX2_count_41 ?_
        refine lv_iload_n hx hb dX2_count_44 rfl (lv_at hl 1 rfl) ?_
        refine lv_iconst (v := 2) hx hb dX2_count_45 (by decide) ?_
        refine lv_isub hx hb dX2_count_46 ?_
        refine tp_i (v := nI (wh.toNatClampNeg - 2)) (wh_2 q1) ?_
        refine ialn hx hb hK hP 10 0 rfl rfl (wh.toNatClampNeg - 2) (rfl) (by have h9 := q1.1; have h8 := q1.2; have h7 : wh.toInt.toNat = wh.toNatClampNeg := rfl; omega) (by decide) dX2_count_47 ?_
        refine lv_goto (tgt := 52) hx hb dX2_count_48 (by decide) ?_
        exact W.iret (v := (g 7 (wh.toNatClampNeg - 2))) hx hb hr (fun t9 ht9 hW9 => ⟨⟨_, (), rfl, (by unfold couF; rw [if_neg c1, if_neg c2, if_pos q1]), ht9⟩, hS.F ht9⟩) hS.2.2 dX2_count_52
      · have q1 : ¬ (rg wh 2 5) := hq2
        refine lv_if_eq (tgt := 51) hx hb dX2_count_31 (by decide) (fun _ => ?_) (fun h9 => absurd h9 (by decide))
        refine lv_iconst (v := (-1)) hx hb dX2_count_51 (by decide) ?_
        exact W.iret (v := (-1)) hx hb hr (fun t9 ht9 hW9 => ⟨⟨_, (), rfl, (by unfold couF; rw [if_neg c1, if_neg c2, if_neg q1]), ht9⟩, hS.F ht9⟩) hS.2.2 dX2_count_52
    · refine lv_aload_n hx hb dX2_count_17 rfl (lv_at hl 0 rfl) ?_
      refine va_get (D := (dC, dI)) (ci := 3) (v := .ref (A 1)) (C := RX2) (T := TX2) (N := 6) hx hb hts miX2_count_X2 hown hK hP 0 rfl rfl 0 (by decide) (hts (.fieldLink RX2 10 "SectionFibres" "section" "LSectionFibres$Section;") mbX2_count_1) (fun _ h9 => h9) rfl dX2_count_18 ?_
      refine rd_i (va_runVN (As := []) (rest := []) ⟨hx, hb, hml, hown, hts⟩ (c_X1_allAreas l dC dI cA s.heap A g n hs pe pk fo mo hP hn) ⟨(va_cnB 0 hts gX2_count_X1_allAreas_n138 rfl rfl rfl (hN (.methodLinkNest RX2 138 yX1_allAreas "SectionFibres") (List.mem_of_getElem? (i := 16) rfl)) (hts (.initialized RX1) mbX2_count_4) (by decide +kernel) ⟨Nat.le_of_ble_eq_true rfl, Nat.le_of_ble_eq_true rfl⟩), hts (.instanceMethod yX1_allAreas) mbX2_count_5, hts (.selects RX1 yX1_allAreas yX1_allAreas) mbX2_count_6⟩ ⟨rd_bl, va_recv hK hP (ci := 2) (q0 := 1) rfl rfl, rd_pre hK hN⟩ rfl rfl hl.1 rfl (lv_room (Nat.le_of_ble_eq_true rfl)) dX2_count_21 ⟨Nat.zero_le _, Nat.zero_le _⟩) hS (fun r3 locs hq4 hS => ?_)
      have hq4 : r3 = arF g n := hq4
      subst hq4
      exact W.iret (v := (arF g n)) hx hb hr (fun t9 ht9 hW9 => ⟨⟨_, (), rfl, (by unfold couF; rw [if_neg c1, if_pos c2]), ht9⟩, hS.F ht9⟩) hS.2.2 dX2_count_24
  · refine lv_aload_n hx hb dX2_count_4 rfl (lv_at hl 0 rfl) ?_
    refine va_get (D := (dC, dI)) (ci := 3) (v := .ref (A 1)) (C := RX2) (T := TX2) (N := 6) hx hb hts miX2_count_X2 hown hK hP 0 rfl rfl 0 (by decide) (hts (.fieldLink RX2 10 "SectionFibres" "section" "LSectionFibres$Section;") mbX2_count_1) (fun _ h9 => h9) rfl dX2_count_5 ?_
    refine va_getN (D := (dC, dI)) (ci := 2) (v := .int (nI n)) (C := RX1) (T := TX1) (N := 7) hx hb hts miX2_count_X1 hown hK hP 1 rfl rfl 6 (by decide) (va_Nw.use rfl (hN (.fieldLinkNest RX2 28 "SectionFibres$Section" "size" "I" "SectionFibres") (List.mem_of_getElem? (i := 28) rfl))) (fun _ h9 => h9) rfl dX2_count_8 ?_
    exact W.iret (v := (nI n)) hx hb hr (fun t9 ht9 hW9 => ⟨⟨_, (), rfl, (by unfold couF; rw [if_pos c1]), ht9⟩, hS.F ht9⟩) hS.2.2 dX2_count_11
