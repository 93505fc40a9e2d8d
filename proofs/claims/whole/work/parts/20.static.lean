/-- the class's cells -/
abbrev wC (cA : ClassId) (A : Nat → Nat) (g : Gg) (n : Nat) (hs pe pk : Int32) (fo mo : Int64) : va_W :=
  [(A 0, .inr (3, [.ref (A 1), .int hs, .int pe, .int pk, .long fo, .long mo])), (A 1, .inr (2, [.ref (A 2), .ref (A 3), .ref (A 4), .ref (A 5), .ref (A 6), .ref (A 7), .int (nI n)])), (A 2, .inr (1, [.ref (A 8), .ref (A 9), .ref (A 10), .ref (A 11), .ref (A 12)])),
   (A 3, .inl (cA, 41, .inl (g 0))), (A 4, .inl (cA, 41, .inl (g 1))), (A 5, .inl (cA, 41, .inl (g 2))), (A 6, .inl (cA, 41, .inl (g 3))), (A 7, .inl (cA, 41, .inl (g 4))),
   (A 8, .inl (cA, 32, .inl (g 5))), (A 9, .inl (cA, 32, .inl (g 6))), (A 10, .inl (cA, 4, .inl (g 7))), (A 11, .inl (cA, 4, .inl (g 8))), (A 12, .inl (cA, 4, .inl (g 9)))]

set_option maxHeartbeats 4000000 in
set_option maxRecDepth 100000 in
theorem c_X2_within (l : Launch) (dC : Nat → ClassId) (dI : Nat → Nat → Nat) (cA : ClassId) (H : Heap) (v lo hi : Int32) (a b : Int) (ha : lo.toInt = a) (hb9 : hi.toInt = b) : Met l yX2_within wsX2_within ({ frames := 0, cells := 0, slots := 0, locals := 0 }) (rd_P [.int v, .int lo, .int hi] H (dC, dI) vwCl [(cA, .int)]) (rd_Qi H (fun r => (rg v a b ∧ r = 1) ∨ (¬ (rg v a b) ∧ r = 0))) 0 0 nF := by
  refine Met.ofW (cc := cX2_within) (maxL := 3) (ret := (some .boolean)) (by decide) rfl ?_
  intro p e s m args below meth c s₁ B hml hv
  obtain ⟨rfl, hH, hK, hN⟩ := hv
  subst hH
  have hx := B.exec
  have hb := B.bytes
  have hr := B.returns
  have hts := atoms_spec (ws := wsX2_within) B.pre
  have hown : s.vm.findClass RX2 = some m.cls := findClass_of_methodNamed B.named
  have hlocks := B.notSynchronized
  have hS : va_S nF s.heap s.heap [] := va_S.rf
  have hl := lv_entry ([.int v, .int lo, .int hi]) (n := 3) (Nat.le_of_ble_eq_true rfl)
  rw [lg_entry_eq]
  generalize (lg_sl ([.int v, .int lo, .int hi]) ++ List.replicate (3 - (lg_sl ([.int v, .int lo, .int hi])).length) Slot.unset).toArray = ls at hl ⊢
  have hl : lv_has ls 3 [(0, .int v), (1, .int lo), (2, .int hi)] := hl
  refine lv_iload_n hx hb dX2_within_0 rfl (lv_at hl 0 rfl) ?_
  refine lv_iload_n hx hb dX2_within_1 rfl (lv_at hl 1 rfl) ?_
  refine lv_icmp_lt (tgt := 14) hx hb dX2_within_2 (by decide) (fun c1 => ?_) (fun c1 => ?_)
  · refine lv_iconst (v := 0) hx hb dX2_within_14 (by decide) ?_
    exact W.zret (ty := .boolean) (v := 0) hx hb hr (by decide) (fun t9 ht9 hW9 => ⟨⟨_, (), rfl, (Or.inr ⟨fun h9 => by rw [Int32.lt_iff_toInt_lt] at c1; have h8 := h9.1; have h7 := h9.2; omega, rfl⟩), ht9⟩, hS.F ht9⟩) hS.2.2 dX2_within_15
  · refine lv_iload_n hx hb dX2_within_5 rfl (lv_at hl 0 rfl) ?_
    refine lv_iload_n hx hb dX2_within_6 rfl (lv_at hl 2 rfl) ?_
    refine lv_icmp_gt (tgt := 14) hx hb dX2_within_7 (by decide) (fun c2 => ?_) (fun c2 => ?_)
    · refine lv_iconst (v := 0) hx hb dX2_within_14 (by decide) ?_
      exact W.zret (ty := .boolean) (v := 0) hx hb hr (by decide) (fun t9 ht9 hW9 => ⟨⟨_, (), rfl, (Or.inr ⟨fun h9 => by rw [Int32.lt_iff_toInt_lt] at c2; have h8 := h9.1; have h7 := h9.2; omega, rfl⟩), ht9⟩, hS.F ht9⟩) hS.2.2 dX2_within_15
    · refine lv_iconst (v := 1) hx hb dX2_within_10 (by decide) ?_
      refine lv_goto (tgt := 15) hx hb dX2_within_11 (by decide) ?_
      exact W.zret (ty := .boolean) (v := 1) hx hb hr (by decide) (fun t9 ht9 hW9 => ⟨⟨_, (), rfl, (Or.inl ⟨by rw [Int32.lt_iff_toInt_lt] at c1 c2; exact ⟨by omega, by omega⟩, rfl⟩), ht9⟩, hS.F ht9⟩) hS.2.2 dX2_within_15

set_option maxHeartbeats 4000000 in
set_option maxRecDepth 100000 in
theorem c_X2_share (l : Launch) (dC : Nat → ClassId) (dI : Nat → Nat → Nat) (cA : ClassId) (H : Heap) (a b d : Int64) : Met l yX2_share wsX2_share ({ frames := 0, cells := 0, slots := 0, locals := 0 }) (rd_P [.long a, .long b, .long d] H (dC, dI) vwCl [(cA, .int)]) (rd_Qi H (fun r => r = sh a b d)) 0 0 nF := by
  refine Met.ofW (cc := cX2_share) (maxL := 6) (ret := (some .int)) (by decide) rfl ?_
  intro p e s m args below meth c s₁ B hml hv
  obtain ⟨rfl, hH, hK, hN⟩ := hv
  subst hH
  have hx := B.exec
  have hb := B.bytes
  have hr := B.returns
  have hts := atoms_spec (ws := wsX2_share) B.pre
  have hown : s.vm.findClass RX2 = some m.cls := findClass_of_methodNamed B.named
  have hlocks := B.notSynchronized
  have hS : va_S nF s.heap s.heap [] := va_S.rf
  have hl := lv_entry ([.long a, .long b, .long d]) (n := 6) (Nat.le_of_ble_eq_true rfl)
  rw [lg_entry_eq]
  generalize (lg_sl ([.long a, .long b, .long d]) ++ List.replicate (6 - (lg_sl ([.long a, .long b, .long d])).length) Slot.unset).toArray = ls at hl ⊢
  have hl : lv_has ls 6 [(0, .long a), (2, .long b), (4, .long d)] := hl
  refine lv_lload hx hb dX2_share_0 (lv_at hl 2 rfl) ?_
  refine lv_lconst (v := 0) hx hb dX2_share_2 (by decide) ?_
  refine W.lcmp hx hb dX2_share_3 ?_
  refine lv_if_ne (tgt := 11) hx hb dX2_share_4 (by decide) (fun c1 => ?_) (fun c1 => ?_)
  · have c1 := mt (lg_cmp_eq _ _).mpr c1
    refine lv_lload_n hx hb dX2_share_11 rfl (lv_at hl 0 rfl) ?_
    refine lv_lload_n hx hb dX2_share_12 rfl (lv_at hl 1 rfl) ?_
    refine lv_lmul hx hb dX2_share_13 ?_
    refine lv_lload hx hb dX2_share_14 (lv_at hl 2 rfl) ?_
    refine lv_ldiv hx hb dX2_share_16 (c1) ?_
    refine lv_l2i hx hb dX2_share_17 rfl ?_
    exact W.iret (v := (((a * b) / d).toInt32)) hx hb hr (fun t9 ht9 hW9 => ⟨⟨_, (), rfl, (by unfold sh; rw [if_neg c1]), ht9⟩, hS.F ht9⟩) hS.2.2 dX2_share_18
  · have c1 := (lg_cmp_eq _ _).mp c1
    refine lv_iconst (v := 0) hx hb dX2_share_7 (by decide) ?_
    refine lv_goto (tgt := 18) hx hb dX2_share_8 (by decide) ?_
    exact W.iret (v := 0) hx hb hr (fun t9 ht9 hW9 => ⟨⟨_, (), rfl, (by unfold sh; rw [if_pos c1]), ht9⟩, hS.F ht9⟩) hS.2.2 dX2_share_18

set_option maxHeartbeats 4000000 in
set_option maxRecDepth 100000 in
theorem c_J9_floorDiv_7cf53 (l : Launch) (dC : Nat → ClassId) (dI : Nat → Nat → Nat) (cA : ClassId) (H : Heap) (x y : Int32) (hy : ¬ y = 0) : Met l yJ9_floorDiv_7cf53 wsJ9_floorDiv_7cf53 ({ frames := 0, cells := 0, slots := 0, locals := 0 }) (rd_P [.int x, .int y] H (dC, dI) vwCl [(cA, .int)]) (rd_Qi H (fun r => r = fdv x y)) 0 0 nF := by
  refine va_MetF (cc := cJ9_floorDiv_7cf53) (maxL := 3) (ret := (some .int)) (by decide +kernel) rfl ?_
  intro p e s m args below meth c s₁ B hml hv
  obtain ⟨rfl, hH, hK, hN⟩ := hv
  subst hH
  have hx := B.exec
  have hb := B.bytes
  have hr := B.returns
  have hts := atoms_spec (ws := wsJ9_floorDiv_7cf53) B.pre
  have hown : s.vm.findClass RJ9 = some m.cls := findClass_of_methodNamed B.named
  have hlocks := B.notSynchronized
  have hS : va_S nF s.heap s.heap [] := va_S.rf
  have hl := lv_entry ([.int x, .int y]) (n := 3) (Nat.le_of_ble_eq_true rfl)
  rw [lg_entry_eq]
  generalize (lg_sl ([.int x, .int y]) ++ List.replicate (3 - (lg_sl ([.int x, .int y])).length) Slot.unset).toArray = ls at hl ⊢
  have hl : lv_has ls 3 [(0, .int x), (1, .int y)] := hl
  refine lv_iload_n hx hb dJ9_floorDiv_7cf53_0 rfl (lv_at hl 0 rfl) ?_
  refine lv_iload_n hx hb dJ9_floorDiv_7cf53_1 rfl (lv_at hl 1 rfl) ?_
  refine lv_idiv hx hb dJ9_floorDiv_7cf53_2 (hy) ?_
  refine lv_istore_n (lv' := [(2, .int (x / y)), (0, .int x), (1, .int y)]) hx hb dJ9_floorDiv_7cf53_3 rfl hl (by decide) rfl (fun ls hl => ?_)
  refine lv_iload_n hx hb dJ9_floorDiv_7cf53_4 rfl (lv_at hl 1 rfl) ?_
  refine lv_iload_n hx hb dJ9_floorDiv_7cf53_5 rfl (lv_at hl 2 rfl) ?_
  refine lv_ixor hx hb dJ9_floorDiv_7cf53_6 ?_
  refine lv_if_ge (tgt := 21) hx hb dJ9_floorDiv_7cf53_7 (by decide) (fun c1 => ?_) (fun c1 => ?_)
  · refine lv_iload_n hx hb dJ9_floorDiv_7cf53_21 rfl (lv_at hl 0 rfl) ?_
    exact W.iret (v := (x / y)) hx hb hr (fun t9 ht9 hW9 => ⟨⟨_, (), rfl, (by unfold fdv; rw [if_neg (fun h9 => by have h8 := h9.1; rw [Int32.lt_iff_toInt_lt] at h8; rw [Int32.le_iff_toInt_le] at c1; omega)]), ht9⟩, hS.F ht9⟩) hS.2.2 dJ9_floorDiv_7cf53_22
  · refine lv_iload_n hx hb dJ9_floorDiv_7cf53_10 rfl (lv_at hl 0 rfl) ?_
    refine lv_iload_n hx hb dJ9_floorDiv_7cf53_11 rfl (lv_at hl 2 rfl) ?_
    refine lv_imul hx hb dJ9_floorDiv_7cf53_12 ?_
    refine lv_iload_n hx hb dJ9_floorDiv_7cf53_13 rfl (lv_at hl 1 rfl) ?_
    refine lv_icmp_eq (tgt := 21) hx hb dJ9_floorDiv_7cf53_14 (by decide) (fun c2 => ?_) (fun c2 => ?_)
    · refine lv_iload_n hx hb dJ9_floorDiv_7cf53_21 rfl (lv_at hl 0 rfl) ?_
      exact W.iret (v := (x / y)) hx hb hr (fun t9 ht9 hW9 => ⟨⟨_, (), rfl, (by unfold fdv; rw [if_neg (fun h9 => h9.2 c2)]), ht9⟩, hS.F ht9⟩) hS.2.2 dJ9_floorDiv_7cf53_22
    · refine lv_iload_n hx hb dJ9_floorDiv_7cf53_17 rfl (lv_at hl 0 rfl) ?_
      refine lv_iconst (v := 1) hx hb dJ9_floorDiv_7cf53_18 (by decide) ?_
      refine lv_isub hx hb dJ9_floorDiv_7cf53_19 ?_
      exact W.iret (v := ((x / y) - 1)) hx hb hr (fun t9 ht9 hW9 => ⟨⟨_, (), rfl, (by unfold fdv; rw [if_pos ⟨by rw [Int32.le_iff_toInt_le] at c1; rw [Int32.lt_iff_toInt_lt]; omega, c2⟩]), ht9⟩, hS.F ht9⟩) hS.2.2 dJ9_floorDiv_7cf53_20

set_option maxHeartbeats 4000000 in
set_option maxRecDepth 100000 in
theorem c_X2_isKind (l : Launch) (dC : Nat → ClassId) (dI : Nat → Nat → Nat) (cA : ClassId) (H : Heap) (v : Int32) : Met l yX2_isKind wsX2_isKind ({ frames := 1, cells := 0, slots := 0, locals := 22 }) (rd_P [.int v] H (dC, dI) vwCl [(cA, .int)]) (rd_Qi H (fun r => (rg v 0 3 ∧ r = 1) ∨ (¬ (rg v 0 3) ∧ r = 0))) 0 0 nF := by
  refine Met.ofW (cc := cX2_isKind) (maxL := 1) (ret := (some .boolean)) (by decide) rfl ?_
  intro p e s m args below meth c s₁ B hml hv
  obtain ⟨rfl, hH, hK, hN⟩ := hv
  subst hH
  have hx := B.exec
  have hb := B.bytes
  have hr := B.returns
  have hts := atoms_spec (ws := wsX2_isKind) B.pre
  have hown : s.vm.findClass RX2 = some m.cls := findClass_of_methodNamed B.named
  have hlocks := B.notSynchronized
  have hS : va_S nF s.heap s.heap [] := va_S.rf
  have hl := lv_entry ([.int v]) (n := 1) (Nat.le_of_ble_eq_true rfl)
  rw [lg_entry_eq]
  generalize (lg_sl ([.int v]) ++ List.replicate (1 - (lg_sl ([.int v])).length) Slot.unset).toArray = ls at hl ⊢
  have hl : lv_has ls 1 [(0, .int v)] := hl
  refine lv_iload_n hx hb dX2_isKind_0 rfl (lv_at hl 0 rfl) ?_
  refine lv_iconst (v := 0) hx hb dX2_isKind_1 (by decide) ?_
  refine lv_iconst (v := 3) hx hb dX2_isKind_2 (by decide) ?_
  refine rd_i (va_runS (As := [.int v, .int 0, .int 3]) (rest := []) ⟨hx, hb, hml, hown, hts⟩ (c_X2_within l dC dI cA s.heap v 0 3 0 3 (by decide) (by decide)) (va_cwS 3 hts gX2_isKind_X2_within rfl rfl rfl (by decide +kernel) ⟨Nat.le_of_ble_eq_true rfl, Nat.le_of_ble_eq_true rfl⟩) ⟨rd_bl, rd_pre hK hN⟩ rfl rfl hl.1 rfl (lv_room (Nat.le_of_ble_eq_true rfl)) dX2_isKind_3 ⟨Nat.zero_le _, Nat.zero_le _⟩) hS (fun r1 locs hq2 hS => ?_)
  rcases hq2 with ⟨hq2, rfl⟩ | ⟨hq2, rfl⟩
  · have hq9 : rg v 0 3 := hq2
    exact W.zret (ty := .boolean) (v := 1) hx hb hr (by decide) (fun t9 ht9 hW9 => ⟨⟨_, (), rfl, (Or.inl ⟨hq9, rfl⟩), ht9⟩, hS.F ht9⟩) hS.2.2 dX2_isKind_6
  · have hq9 : ¬ (rg v 0 3) := hq2
    exact W.zret (ty := .boolean) (v := 0) hx hb hr (by decide) (fun t9 ht9 hW9 => ⟨⟨_, (), rfl, (Or.inr ⟨hq9, rfl⟩), ht9⟩, hS.F ht9⟩) hS.2.2 dX2_isKind_6

set_option maxHeartbeats 4000000 in
set_option maxRecDepth 100000 in
theorem c_X2_isPlace (l : Launch) (dC : Nat → ClassId) (dI : Nat → Nat → Nat) (cA : ClassId) (H : Heap) (v : Int32) : Met l yX2_isPlace wsX2_isPlace ({ frames := 1, cells := 0, slots := 0, locals := 22 }) (rd_P [.int v] H (dC, dI) vwCl [(cA, .int)]) (rd_Qi H (fun r => (rg v (-2000) 2000 ∧ r = 1) ∨ (¬ (rg v (-2000) 2000) ∧ r = 0))) 0 0 nF := by
  refine Met.ofW (cc := cX2_isPlace) (maxL := 1) (ret := (some .boolean)) (by decide) rfl ?_
  intro p e s m args below meth c s₁ B hml hv
  obtain ⟨rfl, hH, hK, hN⟩ := hv
  subst hH
  have hx := B.exec
  have hb := B.bytes
  have hr := B.returns
  have hts := atoms_spec (ws := wsX2_isPlace) B.pre
  have hown : s.vm.findClass RX2 = some m.cls := findClass_of_methodNamed B.named
  have hlocks := B.notSynchronized
  have hS : va_S nF s.heap s.heap [] := va_S.rf
  have hl := lv_entry ([.int v]) (n := 1) (Nat.le_of_ble_eq_true rfl)
  rw [lg_entry_eq]
  generalize (lg_sl ([.int v]) ++ List.replicate (1 - (lg_sl ([.int v])).length) Slot.unset).toArray = ls at hl ⊢
  have hl : lv_has ls 1 [(0, .int v)] := hl
  refine lv_iload_n hx hb dX2_isPlace_0 rfl (lv_at hl 0 rfl) ?_
  refine lv_sipush (v := (-2000)) hx hb dX2_isPlace_1 (by decide) ?_
  refine lv_sipush (v := 2000) hx hb dX2_isPlace_4 (by decide) ?_
  refine rd_i (va_runS (As := [.int v, .int (-2000), .int 2000]) (rest := []) ⟨hx, hb, hml, hown, hts⟩ (c_X2_within l dC dI cA s.heap v (-2000) 2000 (-2000) 2000 (by decide) (by decide)) (va_cwS 3 hts gX2_isPlace_X2_within rfl rfl rfl (by decide +kernel) ⟨Nat.le_of_ble_eq_true rfl, Nat.le_of_ble_eq_true rfl⟩) ⟨rd_bl, rd_pre hK hN⟩ rfl rfl hl.1 rfl (lv_room (Nat.le_of_ble_eq_true rfl)) dX2_isPlace_7 ⟨Nat.zero_le _, Nat.zero_le _⟩) hS (fun r1 locs hq2 hS => ?_)
  rcases hq2 with ⟨hq2, rfl⟩ | ⟨hq2, rfl⟩
  · have hq9 : rg v (-2000) 2000 := hq2
    exact W.zret (ty := .boolean) (v := 1) hx hb hr (by decide) (fun t9 ht9 hW9 => ⟨⟨_, (), rfl, (Or.inl ⟨hq9, rfl⟩), ht9⟩, hS.F ht9⟩) hS.2.2 dX2_isPlace_10
  · have hq9 : ¬ (rg v (-2000) 2000) := hq2
    exact W.zret (ty := .boolean) (v := 0) hx hb hr (by decide) (fun t9 ht9 hW9 => ⟨⟨_, (), rfl, (Or.inr ⟨hq9, rfl⟩), ht9⟩, hS.F ht9⟩) hS.2.2 dX2_isPlace_10

set_option maxHeartbeats 4000000 in
set_option maxRecDepth 100000 in
theorem c_X2_isToldStrain (l : Launch) (dC : Nat → ClassId) (dI : Nat → Nat → Nat) (cA : ClassId) (H : Heap) (v : Int32) : Met l yX2_isToldStrain wsX2_isToldStrain ({ frames := 1, cells := 0, slots := 0, locals := 22 }) (rd_P [.int v] H (dC, dI) vwCl [(cA, .int)]) (rd_Qi H (fun r => (rg v (-30000) 30000 ∧ r = 1) ∨ (¬ (rg v (-30000) 30000) ∧ r = 0))) 0 0 nF := by
  refine Met.ofW (cc := cX2_isToldStrain) (maxL := 1) (ret := (some .boolean)) (by decide) rfl ?_
  intro p e s m args below meth c s₁ B hml hv
  obtain ⟨rfl, hH, hK, hN⟩ := hv
  subst hH
  have hx := B.exec
  have hb := B.bytes
  have hr := B.returns
  have hts := atoms_spec (ws := wsX2_isToldStrain) B.pre
  have hown : s.vm.findClass RX2 = some m.cls := findClass_of_methodNamed B.named
  have hlocks := B.notSynchronized
  have hS : va_S nF s.heap s.heap [] := va_S.rf
  have hl := lv_entry ([.int v]) (n := 1) (Nat.le_of_ble_eq_true rfl)
  rw [lg_entry_eq]
  generalize (lg_sl ([.int v]) ++ List.replicate (1 - (lg_sl ([.int v])).length) Slot.unset).toArray = ls at hl ⊢
  have hl : lv_has ls 1 [(0, .int v)] := hl
  refine lv_iload_n hx hb dX2_isToldStrain_0 rfl (lv_at hl 0 rfl) ?_
  refine lv_sipush (v := (-30000)) hx hb dX2_isToldStrain_1 (by decide) ?_
  refine lv_sipush (v := 30000) hx hb dX2_isToldStrain_4 (by decide) ?_
  refine rd_i (va_runS (As := [.int v, .int (-30000), .int 30000]) (rest := []) ⟨hx, hb, hml, hown, hts⟩ (c_X2_within l dC dI cA s.heap v (-30000) 30000 (-30000) 30000 (by decide) (by decide)) (va_cwS 3 hts gX2_isToldStrain_X2_within rfl rfl rfl (by decide +kernel) ⟨Nat.le_of_ble_eq_true rfl, Nat.le_of_ble_eq_true rfl⟩) ⟨rd_bl, rd_pre hK hN⟩ rfl rfl hl.1 rfl (lv_room (Nat.le_of_ble_eq_true rfl)) dX2_isToldStrain_7 ⟨Nat.zero_le _, Nat.zero_le _⟩) hS (fun r1 locs hq2 hS => ?_)
  rcases hq2 with ⟨hq2, rfl⟩ | ⟨hq2, rfl⟩
  · have hq9 : rg v (-30000) 30000 := hq2
    exact W.zret (ty := .boolean) (v := 1) hx hb hr (by decide) (fun t9 ht9 hW9 => ⟨⟨_, (), rfl, (Or.inl ⟨hq9, rfl⟩), ht9⟩, hS.F ht9⟩) hS.2.2 dX2_isToldStrain_10
  · have hq9 : ¬ (rg v (-30000) 30000) := hq2
    exact W.zret (ty := .boolean) (v := 0) hx hb hr (by decide) (fun t9 ht9 hW9 => ⟨⟨_, (), rfl, (Or.inr ⟨hq9, rfl⟩), ht9⟩, hS.F ht9⟩) hS.2.2 dX2_isToldStrain_10

set_option maxHeartbeats 4000000 in
set_option maxRecDepth 100000 in
theorem c_X2_isOfPlane (l : Launch) (dC : Nat → ClassId) (dI : Nat → Nat → Nat) (cA : ClassId) (H : Heap) (v : Int32) : Met l yX2_isOfPlane wsX2_isOfPlane ({ frames := 1, cells := 0, slots := 0, locals := 22 }) (rd_P [.int v] H (dC, dI) vwCl [(cA, .int)]) (rd_Qi H (fun r => (rg v (-20000) 20000 ∧ r = 1) ∨ (¬ (rg v (-20000) 20000) ∧ r = 0))) 0 0 nF := by
  refine Met.ofW (cc := cX2_isOfPlane) (maxL := 1) (ret := (some .boolean)) (by decide) rfl ?_
  intro p e s m args below meth c s₁ B hml hv
  obtain ⟨rfl, hH, hK, hN⟩ := hv
  subst hH
  have hx := B.exec
  have hb := B.bytes
  have hr := B.returns
  have hts := atoms_spec (ws := wsX2_isOfPlane) B.pre
  have hown : s.vm.findClass RX2 = some m.cls := findClass_of_methodNamed B.named
  have hlocks := B.notSynchronized
  have hS : va_S nF s.heap s.heap [] := va_S.rf
  have hl := lv_entry ([.int v]) (n := 1) (Nat.le_of_ble_eq_true rfl)
  rw [lg_entry_eq]
  generalize (lg_sl ([.int v]) ++ List.replicate (1 - (lg_sl ([.int v])).length) Slot.unset).toArray = ls at hl ⊢
  have hl : lv_has ls 1 [(0, .int v)] := hl
  refine lv_iload_n hx hb dX2_isOfPlane_0 rfl (lv_at hl 0 rfl) ?_
  refine lv_sipush (v := (-20000)) hx hb dX2_isOfPlane_1 (by decide) ?_
  refine lv_sipush (v := 20000) hx hb dX2_isOfPlane_4 (by decide) ?_
  refine rd_i (va_runS (As := [.int v, .int (-20000), .int 20000]) (rest := []) ⟨hx, hb, hml, hown, hts⟩ (c_X2_within l dC dI cA s.heap v (-20000) 20000 (-20000) 20000 (by decide) (by decide)) (va_cwS 3 hts gX2_isOfPlane_X2_within rfl rfl rfl (by decide +kernel) ⟨Nat.le_of_ble_eq_true rfl, Nat.le_of_ble_eq_true rfl⟩) ⟨rd_bl, rd_pre hK hN⟩ rfl rfl hl.1 rfl (lv_room (Nat.le_of_ble_eq_true rfl)) dX2_isOfPlane_7 ⟨Nat.zero_le _, Nat.zero_le _⟩) hS (fun r1 locs hq2 hS => ?_)
  rcases hq2 with ⟨hq2, rfl⟩ | ⟨hq2, rfl⟩
  · have hq9 : rg v (-20000) 20000 := hq2
    exact W.zret (ty := .boolean) (v := 1) hx hb hr (by decide) (fun t9 ht9 hW9 => ⟨⟨_, (), rfl, (Or.inl ⟨hq9, rfl⟩), ht9⟩, hS.F ht9⟩) hS.2.2 dX2_isOfPlane_10
  · have hq9 : ¬ (rg v (-20000) 20000) := hq2
    exact W.zret (ty := .boolean) (v := 0) hx hb hr (by decide) (fun t9 ht9 hW9 => ⟨⟨_, (), rfl, (Or.inr ⟨hq9, rfl⟩), ht9⟩, hS.F ht9⟩) hS.2.2 dX2_isOfPlane_10

set_option maxHeartbeats 4000000 in
set_option maxRecDepth 100000 in
theorem c_X2_isBendStep (l : Launch) (dC : Nat → ClassId) (dI : Nat → Nat → Nat) (cA : ClassId) (H : Heap) (v : Int32) : Met l yX2_isBendStep wsX2_isBendStep ({ frames := 1, cells := 0, slots := 0, locals := 22 }) (rd_P [.int v] H (dC, dI) vwCl [(cA, .int)]) (rd_Qi H (fun r => (rg v 1 1000 ∧ r = 1) ∨ (¬ (rg v 1 1000) ∧ r = 0))) 0 0 nF := by
  refine Met.ofW (cc := cX2_isBendStep) (maxL := 1) (ret := (some .boolean)) (by decide) rfl ?_
  intro p e s m args below meth c s₁ B hml hv
  obtain ⟨rfl, hH, hK, hN⟩ := hv
  subst hH
  have hx := B.exec
  have hb := B.bytes
  have hr := B.returns
  have hts := atoms_spec (ws := wsX2_isBendStep) B.pre
  have hown : s.vm.findClass RX2 = some m.cls := findClass_of_methodNamed B.named
  have hlocks := B.notSynchronized
  have hS : va_S nF s.heap s.heap [] := va_S.rf
  have hl := lv_entry ([.int v]) (n := 1) (Nat.le_of_ble_eq_true rfl)
  rw [lg_entry_eq]
  generalize (lg_sl ([.int v]) ++ List.replicate (1 - (lg_sl ([.int v])).length) Slot.unset).toArray = ls at hl ⊢
  have hl : lv_has ls 1 [(0, .int v)] := hl
  refine lv_iload_n hx hb dX2_isBendStep_0 rfl (lv_at hl 0 rfl) ?_
  refine lv_iconst (v := 1) hx hb dX2_isBendStep_1 (by decide) ?_
  refine lv_sipush (v := 1000) hx hb dX2_isBendStep_2 (by decide) ?_
  refine rd_i (va_runS (As := [.int v, .int 1, .int 1000]) (rest := []) ⟨hx, hb, hml, hown, hts⟩ (c_X2_within l dC dI cA s.heap v 1 1000 1 1000 (by decide) (by decide)) (va_cwS 3 hts gX2_isBendStep_X2_within rfl rfl rfl (by decide +kernel) ⟨Nat.le_of_ble_eq_true rfl, Nat.le_of_ble_eq_true rfl⟩) ⟨rd_bl, rd_pre hK hN⟩ rfl rfl hl.1 rfl (lv_room (Nat.le_of_ble_eq_true rfl)) dX2_isBendStep_5 ⟨Nat.zero_le _, Nat.zero_le _⟩) hS (fun r1 locs hq2 hS => ?_)
  rcases hq2 with ⟨hq2, rfl⟩ | ⟨hq2, rfl⟩
  · have hq9 : rg v 1 1000 := hq2
    exact W.zret (ty := .boolean) (v := 1) hx hb hr (by decide) (fun t9 ht9 hW9 => ⟨⟨_, (), rfl, (Or.inl ⟨hq9, rfl⟩), ht9⟩, hS.F ht9⟩) hS.2.2 dX2_isBendStep_8
  · have hq9 : ¬ (rg v 1 1000) := hq2
    exact W.zret (ty := .boolean) (v := 0) hx hb hr (by decide) (fun t9 ht9 hW9 => ⟨⟨_, (), rfl, (Or.inr ⟨hq9, rfl⟩), ht9⟩, hS.F ht9⟩) hS.2.2 dX2_isBendStep_8

set_option maxHeartbeats 4000000 in
set_option maxRecDepth 100000 in
theorem c_X2_isSum (l : Launch) (dC : Nat → ClassId) (dI : Nat → Nat → Nat) (cA : ClassId) (H : Heap) (v : Int32) : Met l yX2_isSum wsX2_isSum ({ frames := 0, cells := 0, slots := 0, locals := 0 }) (rd_P [.int v] H (dC, dI) vwCl [(cA, .int)]) (rd_Qi H (fun r => ((v = 0 ∨ v = 1) ∧ r = 1) ∨ (¬ (v = 0 ∨ v = 1) ∧ r = 0))) 0 0 nF := by
  refine Met.ofW (cc := cX2_isSum) (maxL := 1) (ret := (some .boolean)) (by decide) rfl ?_
  intro p e s m args below meth c s₁ B hml hv
  obtain ⟨rfl, hH, hK, hN⟩ := hv
  subst hH
  have hx := B.exec
  have hb := B.bytes
  have hr := B.returns
  have hts := atoms_spec (ws := wsX2_isSum) B.pre
  have hown : s.vm.findClass RX2 = some m.cls := findClass_of_methodNamed B.named
  have hlocks := B.notSynchronized
  have hS : va_S nF s.heap s.heap [] := va_S.rf
  have hl := lv_entry ([.int v]) (n := 1) (Nat.le_of_ble_eq_true rfl)
  rw [lg_entry_eq]
  generalize (lg_sl ([.int v]) ++ List.replicate (1 - (lg_sl ([.int v])).length) Slot.unset).toArray = ls at hl ⊢
  have hl : lv_has ls 1 [(0, .int v)] := hl
  refine lv_iload_n hx hb dX2_isSum_0 rfl (lv_at hl 0 rfl) ?_
  refine lv_if_eq (tgt := 9) hx hb dX2_isSum_1 (by decide) (fun c1 => ?_) (fun c1 => ?_)
  · refine lv_iconst (v := 1) hx hb dX2_isSum_9 (by decide) ?_
    refine lv_goto (tgt := 14) hx hb dX2_isSum_10 (by decide) ?_
    exact W.zret (ty := .boolean) (v := 1) hx hb hr (by decide) (fun t9 ht9 hW9 => ⟨⟨_, (), rfl, (Or.inl ⟨Or.inl c1, rfl⟩), ht9⟩, hS.F ht9⟩) hS.2.2 dX2_isSum_14
  · refine lv_iload_n hx hb dX2_isSum_4 rfl (lv_at hl 0 rfl) ?_
    refine lv_iconst (v := 1) hx hb dX2_isSum_5 (by decide) ?_
    refine lv_icmp_ne (tgt := 13) hx hb dX2_isSum_6 (by decide) (fun c2 => ?_) (fun c2 => ?_)
    · refine lv_iconst (v := 0) hx hb dX2_isSum_13 (by decide) ?_
      exact W.zret (ty := .boolean) (v := 0) hx hb hr (by decide) (fun t9 ht9 hW9 => ⟨⟨_, (), rfl, (Or.inr ⟨fun h9 => h9.elim c1 c2, rfl⟩), ht9⟩, hS.F ht9⟩) hS.2.2 dX2_isSum_14
    · refine lv_iconst (v := 1) hx hb dX2_isSum_9 (by decide) ?_
      refine lv_goto (tgt := 14) hx hb dX2_isSum_10 (by decide) ?_
      exact W.zret (ty := .boolean) (v := 1) hx hb hr (by decide) (fun t9 ht9 hW9 => ⟨⟨_, (), rfl, (Or.inl ⟨Or.inr c2, rfl⟩), ht9⟩, hS.F ht9⟩) hS.2.2 dX2_isSum_14
