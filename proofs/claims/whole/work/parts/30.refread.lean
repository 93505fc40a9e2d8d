/-- the reference's cells -/
abbrev wR (cA : ClassId) (Z : Nat → Nat) (g : Gg) (n : Nat) (th hs pe pk : Int32) (fo mo : Int64) (fE fK : Int32) : va_W :=
  [(Z 0, .inr (4, [.int th, .int (nI n), .ref (Z 1), .ref (Z 2), .ref (Z 3), .ref (Z 4), .ref (Z 5), .ref (Z 6), .ref (Z 7), .ref (Z 8), .ref (Z 9), .ref (Z 10), .int hs, .int pe, .int pk, .long fo, .long mo, .int fE, .int fK])),
   (Z 1, .inl (cA, 41, .inl (g 0))), (Z 2, .inl (cA, 41, .inl (g 1))), (Z 3, .inl (cA, 41, .inl (g 2))), (Z 4, .inl (cA, 41, .inl (g 3))), (Z 5, .inl (cA, 41, .inl (g 4))), (Z 6, .inl (cA, 4, .inl (g 7))), (Z 7, .inl (cA, 32, .inl (g 5))), (Z 8, .inl (cA, 32, .inl (g 6))), (Z 9, .inl (cA, 4, .inl (g 8))), (Z 10, .inl (cA, 4, .inl (g 9)))]

set_option maxHeartbeats 4000000 in
set_option maxRecDepth 100000 in
theorem c_X3_within (l : Launch) (dC : Nat → ClassId) (dI : Nat → Nat → Nat) (cA : ClassId) (H : Heap) (v lo hi : Int32) (a b : Int) (ha : lo.toInt = a) (hb9 : hi.toInt = b) : Met l yX3_within wsX3_within ({ frames := 0, cells := 0, slots := 0, locals := 0 }) (rd_P [.int v, .int lo, .int hi] H (dC, dI) vwCl [(cA, .int)]) (rd_Qi H (fun r => (rg v a b ∧ r = 1) ∨ (¬ (rg v a b) ∧ r = 0))) 0 0 nF := by
  refine Met.ofW (cc := cX3_within) (maxL := 3) (ret := (some .boolean)) (by decide) rfl ?_
  intro p e s m args below meth c s₁ B hml hv
  obtain ⟨rfl, hH, hK, hN⟩ := hv
  subst hH
  have hx := B.exec
  have hb := B.bytes
  have hr := B.returns
  have hts := atoms_spec (ws := wsX3_within) B.pre
  have hown : s.vm.findClass RX3 = some m.cls := findClass_of_methodNamed B.named
  have hlocks := B.notSynchronized
  have hS : va_S nF s.heap s.heap [] := va_S.rf
  have hl := lv_entry ([.int v, .int lo, .int hi]) (n := 3) (Nat.le_of_ble_eq_true rfl)
  rw [lg_entry_eq]
  generalize (lg_sl ([.int v, .int lo, .int hi]) ++ List.replicate (3 - (lg_sl ([.int v, .int lo, .int hi])).length) Slot.unset).toArray = ls at hl ⊢
  have hl : lv_has ls 3 [(0, .int v), (1, .int lo), (2, .int hi)] := hl
  refine lv_iload_n hx hb dX3_within_0 rfl (lv_at hl 0 rfl) ?_
  refine lv_iload_n hx hb dX3_within_1 rfl (lv_at hl 1 rfl) ?_
  refine lv_icmp_lt (tgt := 14) hx hb dX3_within_2 (by decide) (fun c1 => ?_) (fun c1 => ?_)
  · refine lv_iconst (v := 0) hx hb dX3_within_14 (by decide) ?_
    exact W.zret (ty := .boolean) (v := 0) hx hb hr (by decide) (fun t9 ht9 hW9 => ⟨⟨_, (), rfl, (Or.inr ⟨fun h9 => by rw [Int32.lt_iff_toInt_lt] at c1; have h8 := h9.1; have h7 := h9.2; omega, rfl⟩), ht9⟩, hS.F ht9⟩) hS.2.2 dX3_within_15
  · refine lv_iload_n hx hb dX3_within_5 rfl (lv_at hl 0 rfl) ?_
    refine lv_iload_n hx hb dX3_within_6 rfl (lv_at hl 2 rfl) ?_
    refine lv_icmp_gt (tgt := 14) hx hb dX3_within_7 (by decide) (fun c2 => ?_) (fun c2 => ?_)
    · refine lv_iconst (v := 0) hx hb dX3_within_14 (by decide) ?_
      exact W.zret (ty := .boolean) (v := 0) hx hb hr (by decide) (fun t9 ht9 hW9 => ⟨⟨_, (), rfl, (Or.inr ⟨fun h9 => by rw [Int32.lt_iff_toInt_lt] at c2; have h8 := h9.1; have h7 := h9.2; omega, rfl⟩), ht9⟩, hS.F ht9⟩) hS.2.2 dX3_within_15
    · refine lv_iconst (v := 1) hx hb dX3_within_10 (by decide) ?_
      refine lv_goto (tgt := 15) hx hb dX3_within_11 (by decide) ?_
      exact W.zret (ty := .boolean) (v := 1) hx hb hr (by decide) (fun t9 ht9 hW9 => ⟨⟨_, (), rfl, (Or.inl ⟨by rw [Int32.lt_iff_toInt_lt] at c1 c2; exact ⟨by omega, by omega⟩, rfl⟩), ht9⟩, hS.F ht9⟩) hS.2.2 dX3_within_15

set_option maxHeartbeats 4000000 in
set_option maxRecDepth 100000 in
theorem c_X3_isKind (l : Launch) (dC : Nat → ClassId) (dI : Nat → Nat → Nat) (cA : ClassId) (H : Heap) (v : Int32) : Met l yX3_isKind wsX3_isKind ({ frames := 0, cells := 0, slots := 0, locals := 0 }) (rd_P [.int v] H (dC, dI) vwCl [(cA, .int)]) (rd_Qi H (fun r => (rg v 0 3 ∧ r = 1) ∨ (¬ (rg v 0 3) ∧ r = 0))) 0 0 nF := by
  refine Met.ofW (cc := cX3_isKind) (maxL := 1) (ret := (some .boolean)) (by decide) rfl ?_
  intro p e s m args below meth c s₁ B hml hv
  obtain ⟨rfl, hH, hK, hN⟩ := hv
  subst hH
  have hx := B.exec
  have hb := B.bytes
  have hr := B.returns
  have hts := atoms_spec (ws := wsX3_isKind) B.pre
  have hown : s.vm.findClass RX3 = some m.cls := findClass_of_methodNamed B.named
  have hlocks := B.notSynchronized
  have hS : va_S nF s.heap s.heap [] := va_S.rf
  have hl := lv_entry ([.int v]) (n := 1) (Nat.le_of_ble_eq_true rfl)
  rw [lg_entry_eq]
  generalize (lg_sl ([.int v]) ++ List.replicate (1 - (lg_sl ([.int v])).length) Slot.unset).toArray = ls at hl ⊢
  have hl : lv_has ls 1 [(0, .int v)] := hl
  refine lv_iload_n hx hb dX3_isKind_0 rfl (lv_at hl 0 rfl) ?_
  refine lv_if_lt (tgt := 13) hx hb dX3_isKind_1 (by decide) (fun c1 => ?_) (fun c1 => ?_)
  · refine lv_iconst (v := 0) hx hb dX3_isKind_13 (by decide) ?_
    exact W.zret (ty := .boolean) (v := 0) hx hb hr (by decide) (fun t9 ht9 hW9 => ⟨⟨_, (), rfl, (Or.inr ⟨fun h9 => by have h5 := h9.1; have h6 := h9.2; have h7 : (0 : Int32).toInt = 0 := (by decide); have h8 : (4 : Int32).toInt = 4 := (by decide); rw [Int32.lt_iff_toInt_lt] at c1; omega, rfl⟩), ht9⟩, hS.F ht9⟩) hS.2.2 dX3_isKind_14
  · refine lv_iload_n hx hb dX3_isKind_4 rfl (lv_at hl 0 rfl) ?_
    refine lv_iconst (v := 4) hx hb dX3_isKind_5 (by decide) ?_
    refine lv_icmp_ge (tgt := 13) hx hb dX3_isKind_6 (by decide) (fun c2 => ?_) (fun c2 => ?_)
    · refine lv_iconst (v := 0) hx hb dX3_isKind_13 (by decide) ?_
      exact W.zret (ty := .boolean) (v := 0) hx hb hr (by decide) (fun t9 ht9 hW9 => ⟨⟨_, (), rfl, (Or.inr ⟨fun h9 => by have h5 := h9.1; have h6 := h9.2; have h7 : (0 : Int32).toInt = 0 := (by decide); have h8 : (4 : Int32).toInt = 4 := (by decide); rw [Int32.le_iff_toInt_le] at c2; omega, rfl⟩), ht9⟩, hS.F ht9⟩) hS.2.2 dX3_isKind_14
    · refine lv_iconst (v := 1) hx hb dX3_isKind_9 (by decide) ?_
      refine lv_goto (tgt := 14) hx hb dX3_isKind_10 (by decide) ?_
      exact W.zret (ty := .boolean) (v := 1) hx hb hr (by decide) (fun t9 ht9 hW9 => ⟨⟨_, (), rfl, (Or.inl ⟨by rw [Int32.lt_iff_toInt_lt] at c1; rw [Int32.le_iff_toInt_le] at c2; have h7 : (0 : Int32).toInt = 0 := (by decide); have h8 : (4 : Int32).toInt = 4 := (by decide); exact ⟨by omega, by omega⟩, rfl⟩), ht9⟩, hS.F ht9⟩) hS.2.2 dX3_isKind_14

set_option maxRecDepth 20000 in
theorem miX3_isFibre_X3 : ∀ w ∈ u_ws RX3 TX3 19, w ∈ wsX3_isFibre := by decide +kernel
set_option maxRecDepth 20000 in
theorem mbX3_isFibre_1 : (.fieldLink RX3 44 "SectionFibresModel" "fibres" "I" : Cond) ∈ wsX3_isFibre := by decide +kernel
set_option maxHeartbeats 4000000 in
set_option maxRecDepth 100000 in
theorem c_X3_isFibre (l : Launch) (dC : Nat → ClassId) (dI : Nat → Nat → Nat) (cA : ClassId) (H : Heap) (Z : Nat → Nat) (g : Gg) (n : Nat) (th hs pe pk : Int32) (fo mo : Int64) (fE fK : Int32) (hP : va_P (dC, dI) vwCl (wR cA Z g n th hs pe pk fo mo fE fK) H) (hn : n ≤ 41) (v : Int32) : Met l yX3_isFibre wsX3_isFibre ({ frames := 0, cells := 0, slots := 0, locals := 0 }) (rd_P [.ref (Z 0), .int v] H (dC, dI) vwCl [(cA, .int)]) (rd_Qi H (fun r => (rg v 0 ((n : Int) - 1) ∧ r = 1) ∨ (¬ (rg v 0 ((n : Int) - 1)) ∧ r = 0))) 0 0 nF := by
  refine Met.ofW (cc := cX3_isFibre) (maxL := 2) (ret := (some .boolean)) (by decide) rfl ?_
  intro p e s m args below meth c s₁ B hml hv
  obtain ⟨rfl, hH, hK, hN⟩ := hv
  subst hH
  have hx := B.exec
  have hb := B.bytes
  have hr := B.returns
  have hts := atoms_spec (ws := wsX3_isFibre) B.pre
  have hown : s.vm.findClass RX3 = some m.cls := findClass_of_methodNamed B.named
  have hlocks := B.notSynchronized
  have hS : va_S nF s.heap s.heap [] := va_S.rf
  have hl := lv_entry ([.ref (Z 0), .int v]) (n := 2) (Nat.le_of_ble_eq_true rfl)
  rw [lg_entry_eq]
  generalize (lg_sl ([.ref (Z 0), .int v]) ++ List.replicate (2 - (lg_sl ([.ref (Z 0), .int v])).length) Slot.unset).toArray = ls at hl ⊢
  have hl : lv_has ls 2 [(0, .ref (Z 0)), (1, .int v)] := hl
  have hnt : (nI n).toInt = (n : Int) := nI_toInt (by omega)
  have h0t : (0 : Int32).toInt = 0 := by decide
  refine lv_iload_n hx hb dX3_isFibre_0 rfl (lv_at hl 1 rfl) ?_
  refine lv_if_lt (tgt := 16) hx hb dX3_isFibre_1 (by decide) (fun c1 => ?_) (fun c1 => ?_)
  · refine lv_iconst (v := 0) hx hb dX3_isFibre_16 (by decide) ?_
    exact W.zret (ty := .boolean) (v := 0) hx hb hr (by decide) (fun t9 ht9 hW9 => ⟨⟨_, (), rfl, (Or.inr ⟨fun h9 => by have h5 := h9.1; have h6 := h9.2; rw [Int32.lt_iff_toInt_lt] at c1; omega, rfl⟩), ht9⟩, hS.F ht9⟩) hS.2.2 dX3_isFibre_17
  · refine lv_iload_n hx hb dX3_isFibre_4 rfl (lv_at hl 1 rfl) ?_
    refine lv_aload_n hx hb dX3_isFibre_5 rfl (lv_at hl 0 rfl) ?_
    refine va_get (D := (dC, dI)) (ci := 4) (v := .int (nI n)) (C := RX3) (T := TX3) (N := 19) hx hb hts miX3_isFibre_X3 hown hK hP 0 rfl rfl 1 (by decide) (hts (.fieldLink RX3 44 "SectionFibresModel" "fibres" "I") mbX3_isFibre_1) (fun _ h9 => h9) rfl dX3_isFibre_6 ?_
    refine lv_icmp_ge (tgt := 16) hx hb dX3_isFibre_9 (by decide) (fun c2 => ?_) (fun c2 => ?_)
    · refine lv_iconst (v := 0) hx hb dX3_isFibre_16 (by decide) ?_
      exact W.zret (ty := .boolean) (v := 0) hx hb hr (by decide) (fun t9 ht9 hW9 => ⟨⟨_, (), rfl, (Or.inr ⟨fun h9 => by have h5 := h9.1; have h6 := h9.2; rw [Int32.le_iff_toInt_le, hnt] at c2; omega, rfl⟩), ht9⟩, hS.F ht9⟩) hS.2.2 dX3_isFibre_17
    · refine lv_iconst (v := 1) hx hb dX3_isFibre_12 (by decide) ?_
      refine lv_goto (tgt := 17) hx hb dX3_isFibre_13 (by decide) ?_
      exact W.zret (ty := .boolean) (v := 1) hx hb hr (by decide) (fun t9 ht9 hW9 => ⟨⟨_, (), rfl, (Or.inl ⟨by rw [Int32.lt_iff_toInt_lt] at c1; rw [Int32.le_iff_toInt_le, hnt] at c2; exact ⟨by omega, by omega⟩, rfl⟩), ht9⟩, hS.F ht9⟩) hS.2.2 dX3_isFibre_17

set_option maxRecDepth 20000 in
theorem miX3_thrown_X3 : ∀ w ∈ u_ws RX3 TX3 19, w ∈ wsX3_thrown := by decide +kernel
set_option maxRecDepth 20000 in
theorem mbX3_thrown_1 : (.fieldLink RX3 40 "SectionFibresModel" "thrown" "I" : Cond) ∈ wsX3_thrown := by decide +kernel
set_option maxHeartbeats 4000000 in
set_option maxRecDepth 100000 in
theorem c_X3_thrown (l : Launch) (dC : Nat → ClassId) (dI : Nat → Nat → Nat) (cA : ClassId) (H : Heap) (Z : Nat → Nat) (g : Gg) (n : Nat) (th hs pe pk : Int32) (fo mo : Int64) (fE fK : Int32) (hP : va_P (dC, dI) vwCl (wR cA Z g n th hs pe pk fo mo fE fK) H) : Met l yX3_thrown wsX3_thrown ({ frames := 0, cells := 0, slots := 0, locals := 0 }) (rd_P [.ref (Z 0)] H (dC, dI) vwCl [(cA, .int)]) (rd_Qi H (fun r => r = th)) 0 0 nF := by
  refine Met.ofW (cc := cX3_thrown) (maxL := 1) (ret := (some .int)) (by decide) rfl ?_
  intro p e s m args below meth c s₁ B hml hv
  obtain ⟨rfl, hH, hK, hN⟩ := hv
  subst hH
  have hx := B.exec
  have hb := B.bytes
  have hr := B.returns
  have hts := atoms_spec (ws := wsX3_thrown) B.pre
  have hown : s.vm.findClass RX3 = some m.cls := findClass_of_methodNamed B.named
  have hlocks := B.notSynchronized
  have hS : va_S nF s.heap s.heap [] := va_S.rf
  have hl := lv_entry ([.ref (Z 0)]) (n := 1) (Nat.le_of_ble_eq_true rfl)
  rw [lg_entry_eq]
  generalize (lg_sl ([.ref (Z 0)]) ++ List.replicate (1 - (lg_sl ([.ref (Z 0)])).length) Slot.unset).toArray = ls at hl ⊢
  have hl : lv_has ls 1 [(0, .ref (Z 0))] := hl
  refine lv_aload_n hx hb dX3_thrown_0 rfl (lv_at hl 0 rfl) ?_
  refine va_get (D := (dC, dI)) (ci := 4) (v := .int th) (C := RX3) (T := TX3) (N := 19) hx hb hts miX3_thrown_X3 hown hK hP 0 rfl rfl 0 (by decide) (hts (.fieldLink RX3 40 "SectionFibresModel" "thrown" "I") mbX3_thrown_1) (fun _ h9 => h9) rfl dX3_thrown_1 ?_
  exact W.iret (v := th) hx hb hr (fun t9 ht9 hW9 => ⟨⟨_, (), rfl, rfl, ht9⟩, hS.F ht9⟩) hS.2.2 dX3_thrown_4

set_option maxRecDepth 20000 in
theorem miX3_stressAt_X3 : ∀ w ∈ u_ws RX3 TX3 19, w ∈ wsX3_stressAt := by decide +kernel
set_option maxRecDepth 20000 in
theorem mbX3_stressAt_1 : (.fieldLink RX3 25 "SectionFibresModel" "points" "[I" : Cond) ∈ wsX3_stressAt := by decide +kernel
set_option maxRecDepth 20000 in
theorem mbX3_stressAt_2 : (.fieldLink RX3 28 "SectionFibresModel" "strains" "[I" : Cond) ∈ wsX3_stressAt := by decide +kernel
set_option maxRecDepth 20000 in
theorem mbX3_stressAt_3 : (.fieldLink RX3 31 "SectionFibresModel" "stresses" "[I" : Cond) ∈ wsX3_stressAt := by decide +kernel
set_option maxHeartbeats 4000000 in
set_option maxRecDepth 100000 in
theorem c_X3_stressAt (l : Launch) (dC : Nat → ClassId) (dI : Nat → Nat → Nat) (cA : ClassId) (H : Heap) (Z : Nat → Nat) (g : Gg) (n : Nat) (th hs pe pk : Int32) (fo mo : Int64) (fE fK : Int32) (hP : va_P (dC, dI) vwCl (wR cA Z g n th hs pe pk fo mo fE fK) H) (hg : InvG g) (kd t : Int32) (hkd : vp_in kd 4) : Met l yX3_stressAt wsX3_stressAt ({ frames := 0, cells := 0, slots := 0, locals := 0 }) (rd_P [.ref (Z 0), .int kd, .int t] H (dC, dI) vwCl [(cA, .int)]) (rd_Qi H (fun r => r = rwF g kd t)) 0 0 nF := by
  obtain ⟨k, hk, rfl⟩ := vp_in_of hkd (by decide)
  obtain ⟨q, hq, hqe⟩ := vp_in_of (hg.2.2.2.2.2.1 k hk) (by decide)
  refine Met.ofW (cc := cX3_stressAt) (maxL := 8) (ret := (some .int)) (by decide) rfl ?_
  intro p e s m args below meth c s₁ B hml hv
  obtain ⟨rfl, hH, hK, hN⟩ := hv
  subst hH
  have hx := B.exec
  have hb := B.bytes
  have hr := B.returns
  have hts := atoms_spec (ws := wsX3_stressAt) B.pre
  have hown : s.vm.findClass RX3 = some m.cls := findClass_of_methodNamed B.named
  have hlocks := B.notSynchronized
  have hS : va_S nF s.heap s.heap [] := va_S.rf
  have hl := lv_entry ([.ref (Z 0), .int (nI k), .int t]) (n := 8) (Nat.le_of_ble_eq_true rfl)
  rw [lg_entry_eq]
  generalize (lg_sl ([.ref (Z 0), .int (nI k), .int t]) ++ List.replicate (8 - (lg_sl ([.ref (Z 0), .int (nI k), .int t])).length) Slot.unset).toArray = ls at hl ⊢
  have hl : lv_has ls 8 [(0, .ref (Z 0)), (1, .int (nI k)), (2, .int t)] := hl
  refine lv_bipush (v := 8) hx hb dX3_stressAt_0 (by decide) ?_
  refine lv_iload_n hx hb dX3_stressAt_2 rfl (lv_at hl 1 rfl) ?_
  refine lv_imul hx hb dX3_stressAt_3 ?_
  refine tp_i (v := nI (8 * k)) (pk_mul 8 k) ?_
  refine lv_istore_n (lv' := [(3, .int (nI (8 * k))), (0, .ref (Z 0)), (1, .int (nI k)), (2, .int t)]) hx hb dX3_stressAt_4 rfl hl (by decide) rfl (fun ls hl => ?_)
  refine lv_aload_n hx hb dX3_stressAt_5 rfl (lv_at hl 1 rfl) ?_
  refine va_get (D := (dC, dI)) (ci := 4) (v := .ref (Z 6)) (C := RX3) (T := TX3) (N := 19) hx hb hts miX3_stressAt_X3 hown hK hP 0 rfl rfl 7 (by decide) (hts (.fieldLink RX3 25 "SectionFibresModel" "points" "[I") mbX3_stressAt_1) (fun _ h9 => h9) rfl dX3_stressAt_6 ?_
  refine lv_iload_n hx hb dX3_stressAt_9 rfl (lv_at hl 2 rfl) ?_
  refine ialn hx hb hK hP 6 0 rfl rfl k (rfl) (by omega) (by decide) dX3_stressAt_10 ?_
  refine tp_i (v := nI q) (hqe) ?_
  refine lv_istore (lv' := [(4, .int (nI q)), (3, .int (nI (8 * k))), (0, .ref (Z 0)), (1, .int (nI k)), (2, .int t)]) hx hb dX3_stressAt_11 hl (by decide) rfl (fun ls hl => ?_)
  refine lv_iload hx hb dX3_stressAt_13 (lv_at hl 0 rfl) ?_
  refine lv_if_ne (tgt := 20) hx hb dX3_stressAt_15 (by decide) (fun c1 => ?_) (fun c1 => ?_)
  · have hq0 : 0 < q := Nat.pos_of_ne_zero (fun h9 => c1 (by rw [h9]; rfl))
    refine lv_iload_n hx hb dX3_stressAt_20 rfl (lv_at hl 4 rfl) ?_
    refine lv_aload_n hx hb dX3_stressAt_21 rfl (lv_at hl 2 rfl) ?_
    refine va_get (D := (dC, dI)) (ci := 4) (v := .ref (Z 7)) (C := RX3) (T := TX3) (N := 19) hx hb hts miX3_stressAt_X3 hown hK hP 0 rfl rfl 8 (by decide) (hts (.fieldLink RX3 28 "SectionFibresModel" "strains" "[I") mbX3_stressAt_2) (fun _ h9 => h9) rfl dX3_stressAt_22 ?_
    refine lv_iload_n hx hb dX3_stressAt_25 rfl (lv_at hl 1 rfl) ?_
    refine ialn hx hb hK hP 7 0 rfl rfl (8 * k) (rfl) (by omega) (by decide) dX3_stressAt_26 ?_
    refine lv_icmp_gt (tgt := 37) hx hb dX3_stressAt_27 (by decide) (fun c2 => ?_) (fun c2 => ?_)
    · refine lv_iload_n hx hb dX3_stressAt_37 rfl (lv_at hl 1 rfl) ?_
      refine lv_iconst (v := 1) hx hb dX3_stressAt_38 (by decide) ?_
      refine lv_iadd hx hb dX3_stressAt_39 ?_
      refine tp_i (v := nI (8 * k + 1)) (nI_1 _) ?_
      refine lv_istore (lv' := [(5, .int (nI (8 * k + 1))), (4, .int (nI q)), (3, .int (nI (8 * k))), (0, .ref (Z 0)), (1, .int (nI k)), (2, .int t)]) hx hb dX3_stressAt_40 hl (by decide) rfl (fun ls hl => ?_)
      have lp : ∀ (z : Nat) (j : Nat) (locs : List Loc) (ls : Array Slot), 8 * k ≤ j → j + 1 ≤ 8 * k + q → 8 * k + q ≤ j + z → rwF g (nI k) t = rvL (g 5) (g 6) t (8 * k + q - 1 - j) j → va_S nF s.heap s.heap locs → lv_has ls 8 [(0, .ref (Z 0)), (1, .int (nI k)), (2, .int t), (3, .int (nI (8 * k))), (4, .int (nI q)), (5, .int (nI (j + 1)))] → W p l e (headSpec wsX3_stressAt ({ frames := 0, cells := 0, slots := 0, locals := 0 })).room s m ([.ref (Z 0), .int (nI k), .int t]).toArray below meth c s.heap locs 0 0 (MQ below (rd_Qi s.heap (fun r => r = rwF g (nI k) t)) ([.ref (Z 0), .int (nI k), .int t]).toArray s 0 0 nF) (F0 m 42 ls []) := by
        intro z
        induction z with
        | zero =>
          intro j locs ls h1 h2 h3 hv hS hl
          exact absurd h3 (by omega)
        | succ z ih =>
          intro j locs ls h1 h2 h3 hv hS hl
          refine lv_iload hx hb dX3_stressAt_42 (lv_at hl 5 rfl) ?_
          refine lv_iload_n hx hb dX3_stressAt_44 rfl (lv_at hl 3 rfl) ?_
          refine lv_iload hx hb dX3_stressAt_45 (lv_at hl 4 rfl) ?_
          refine lv_iadd hx hb dX3_stressAt_47 ?_
          refine tp_i (v := nI (8 * k + q)) (nI_add _ _) ?_
          refine lv_icmp_ge (tgt := 68) hx hb dX3_stressAt_48 (by decide) (fun c3 => ?_) (fun c3 => ?_)
          · have hj : j + 1 = 8 * k + q := by have h9 := (nI_leI (by omega) (by omega)).mp c3; omega
            refine lv_iload hx hb dX3_stressAt_68 (lv_at hl 5 rfl) ?_
            refine lv_iload_n hx hb dX3_stressAt_70 rfl (lv_at hl 3 rfl) ?_
            refine lv_iload hx hb dX3_stressAt_71 (lv_at hl 4 rfl) ?_
            refine lv_iadd hx hb dX3_stressAt_73 ?_
            refine tp_i (v := nI (8 * k + q)) (nI_add _ _) ?_
            refine lv_icmp_ne (tgt := 87) hx hb dX3_stressAt_74 (by decide) (fun h9 => absurd h9 (fun h8 => h8 (by rw [hj]))) (fun _ => ?_)
            refine lv_aload_n hx hb dX3_stressAt_77 rfl (lv_at hl 0 rfl) ?_
            refine va_get (D := (dC, dI)) (ci := 4) (v := .ref (Z 8)) (C := RX3) (T := TX3) (N := 19) hx hb hts miX3_stressAt_X3 hown hK hP 0 rfl rfl 9 (by decide) (hts (.fieldLink RX3 31 "SectionFibresModel" "stresses" "[I") mbX3_stressAt_3) (fun _ h9 => h9) rfl dX3_stressAt_78 ?_
            refine lv_iload hx hb dX3_stressAt_81 (lv_at hl 5 rfl) ?_
            refine lv_iconst (v := 1) hx hb dX3_stressAt_83 (by decide) ?_
            refine lv_isub hx hb dX3_stressAt_84 ?_
            refine tp_i (v := nI j) (nI_pred j) ?_
            refine ialn hx hb hK hP 8 0 rfl rfl j (rfl) (by omega) (by decide) dX3_stressAt_85 ?_
            exact W.iret (v := (g 6 j)) hx hb hr (fun t9 ht9 hW9 => ⟨⟨_, (), rfl, (by rw [hv, show 8 * k + q - 1 - j = 0 by omega, rvL_0]), ht9⟩, hS.F ht9⟩) hS.2.2 dX3_stressAt_86
          · have hj : j + 1 < 8 * k + q := by rcases Nat.lt_or_ge (j + 1) (8 * k + q) with h9 | h9; exact h9; exact absurd (nI_le h9 (by omega)) c3
            refine lv_aload_n hx hb dX3_stressAt_51 rfl (lv_at hl 0 rfl) ?_
            refine va_get (D := (dC, dI)) (ci := 4) (v := .ref (Z 7)) (C := RX3) (T := TX3) (N := 19) hx hb hts miX3_stressAt_X3 hown hK hP 0 rfl rfl 8 (by decide) (hts (.fieldLink RX3 28 "SectionFibresModel" "strains" "[I") mbX3_stressAt_2) (fun _ h9 => h9) rfl dX3_stressAt_52 ?_
            refine lv_iload hx hb dX3_stressAt_55 (lv_at hl 5 rfl) ?_
            refine ialn hx hb hK hP 7 0 rfl rfl (j + 1) (rfl) (by omega) (by decide) dX3_stressAt_57 ?_
            refine lv_iload_n hx hb dX3_stressAt_58 rfl (lv_at hl 2 rfl) ?_
            refine lv_icmp_ge (tgt := 68) hx hb dX3_stressAt_59 (by decide) (fun c4 => ?_) (fun c4 => ?_)
            · refine lv_iload hx hb dX3_stressAt_68 (lv_at hl 5 rfl) ?_
              refine lv_iload_n hx hb dX3_stressAt_70 rfl (lv_at hl 3 rfl) ?_
              refine lv_iload hx hb dX3_stressAt_71 (lv_at hl 4 rfl) ?_
              refine lv_iadd hx hb dX3_stressAt_73 ?_
              refine tp_i (v := nI (8 * k + q)) (nI_add _ _) ?_
              refine lv_icmp_ne (tgt := 87) hx hb dX3_stressAt_74 (by decide) (fun _ => ?_) (fun h9 => absurd h9 (fun h8 => by have h9 := (nI_eq (by omega) (by omega)).mp h8; omega))
              refine lv_aload_n hx hb dX3_stressAt_87 rfl (lv_at hl 0 rfl) ?_
              refine va_get (D := (dC, dI)) (ci := 4) (v := .ref (Z 8)) (C := RX3) (T := TX3) (N := 19) hx hb hts miX3_stressAt_X3 hown hK hP 0 rfl rfl 9 (by decide) (hts (.fieldLink RX3 31 "SectionFibresModel" "stresses" "[I") mbX3_stressAt_3) (fun _ h9 => h9) rfl dX3_stressAt_88 ?_
              refine lv_iload hx hb dX3_stressAt_91 (lv_at hl 5 rfl) ?_
              refine ialn hx hb hK hP 8 0 rfl rfl (j + 1) (rfl) (by omega) (by decide) dX3_stressAt_93 ?_
              refine lv_aload_n hx hb dX3_stressAt_94 rfl (lv_at hl 0 rfl) ?_
              refine va_get (D := (dC, dI)) (ci := 4) (v := .ref (Z 8)) (C := RX3) (T := TX3) (N := 19) hx hb hts miX3_stressAt_X3 hown hK hP 0 rfl rfl 9 (by decide) (hts (.fieldLink RX3 31 "SectionFibresModel" "stresses" "[I") mbX3_stressAt_3) (fun _ h9 => h9) rfl dX3_stressAt_95 ?_
              refine lv_iload hx hb dX3_stressAt_98 (lv_at hl 5 rfl) ?_
              refine lv_iconst (v := 1) hx hb dX3_stressAt_100 (by decide) ?_
              refine lv_isub hx hb dX3_stressAt_101 ?_
              refine tp_i (v := nI j) (nI_pred j) ?_
              refine ialn hx hb hK hP 8 0 rfl rfl j (rfl) (by omega) (by decide) dX3_stressAt_102 ?_
              refine lv_isub hx hb dX3_stressAt_103 ?_
              refine lv_i2l hx hb dX3_stressAt_104 rfl ?_
              refine lv_iload_n hx hb dX3_stressAt_105 rfl (lv_at hl 2 rfl) ?_
              refine lv_aload_n hx hb dX3_stressAt_106 rfl (lv_at hl 0 rfl) ?_
              refine va_get (D := (dC, dI)) (ci := 4) (v := .ref (Z 7)) (C := RX3) (T := TX3) (N := 19) hx hb hts miX3_stressAt_X3 hown hK hP 0 rfl rfl 8 (by decide) (hts (.fieldLink RX3 28 "SectionFibresModel" "strains" "[I") mbX3_stressAt_2) (fun _ h9 => h9) rfl dX3_stressAt_107 ?_
              refine lv_iload hx hb dX3_stressAt_110 (lv_at hl 5 rfl) ?_
              refine lv_iconst (v := 1) hx hb dX3_stressAt_112 (by decide) ?_
              refine lv_isub hx hb dX3_stressAt_113 ?_
              refine tp_i (v := nI j) (nI_pred j) ?_
              refine ialn hx hb hK hP 7 0 rfl rfl j (rfl) (by omega) (by decide) dX3_stressAt_114 ?_
              refine lv_isub hx hb dX3_stressAt_115 ?_
              refine lv_i2l hx hb dX3_stressAt_116 rfl ?_
              refine lv_lmul hx hb dX3_stressAt_117 ?_
              refine lv_aload_n hx hb dX3_stressAt_118 rfl (lv_at hl 0 rfl) ?_
              refine va_get (D := (dC, dI)) (ci := 4) (v := .ref (Z 7)) (C := RX3) (T := TX3) (N := 19) hx hb hts miX3_stressAt_X3 hown hK hP 0 rfl rfl 8 (by decide) (hts (.fieldLink RX3 28 "SectionFibresModel" "strains" "[I") mbX3_stressAt_2) (fun _ h9 => h9) rfl dX3_stressAt_119 ?_
              refine lv_iload hx hb dX3_stressAt_122 (lv_at hl 5 rfl) ?_
              refine ialn hx hb hK hP 7 0 rfl rfl (j + 1) (rfl) (by omega) (by decide) dX3_stressAt_124 ?_
              refine lv_aload_n hx hb dX3_stressAt_125 rfl (lv_at hl 0 rfl) ?_
              refine va_get (D := (dC, dI)) (ci := 4) (v := .ref (Z 7)) (C := RX3) (T := TX3) (N := 19) hx hb hts miX3_stressAt_X3 hown hK hP 0 rfl rfl 8 (by decide) (hts (.fieldLink RX3 28 "SectionFibresModel" "strains" "[I") mbX3_stressAt_2) (fun _ h9 => h9) rfl dX3_stressAt_126 ?_
              refine lv_iload hx hb dX3_stressAt_129 (lv_at hl 5 rfl) ?_
              refine lv_iconst (v := 1) hx hb dX3_stressAt_131 (by decide) ?_
              refine lv_isub hx hb dX3_stressAt_132 ?_
              refine tp_i (v := nI j) (nI_pred j) ?_
              refine ialn hx hb hK hP 7 0 rfl rfl j (rfl) (by omega) (by decide) dX3_stressAt_133 ?_
              refine lv_isub hx hb dX3_stressAt_134 ?_
              refine lv_i2l hx hb dX3_stressAt_135 rfl ?_
              refine lv_ldiv hx hb dX3_stressAt_136 (ri_5 hg hk hq hqe h1 hj) ?_
              refine lv_lstore (lv' := [(6, .long (((((g 6 (j + 1)) - (g 6 j)).toInt64) * ((t - (g 5 j)).toInt64)) / (((g 5 (j + 1)) - (g 5 j)).toInt64))), (0, .ref (Z 0)), (1, .int (nI k)), (2, .int t), (3, .int (nI (8 * k))), (4, .int (nI q)), (5, .int (nI (j + 1)))]) hx hb dX3_stressAt_137 hl (by decide) rfl (fun ls hl => ?_)
              refine lv_aload_n hx hb dX3_stressAt_139 rfl (lv_at hl 1 rfl) ?_
              refine va_get (D := (dC, dI)) (ci := 4) (v := .ref (Z 8)) (C := RX3) (T := TX3) (N := 19) hx hb hts miX3_stressAt_X3 hown hK hP 0 rfl rfl 9 (by decide) (hts (.fieldLink RX3 31 "SectionFibresModel" "stresses" "[I") mbX3_stressAt_3) (fun _ h9 => h9) rfl dX3_stressAt_140 ?_
              refine lv_iload hx hb dX3_stressAt_143 (lv_at hl 6 rfl) ?_
              refine lv_iconst (v := 1) hx hb dX3_stressAt_145 (by decide) ?_
              refine lv_isub hx hb dX3_stressAt_146 ?_
              refine tp_i (v := nI j) (nI_pred j) ?_
              refine ialn hx hb hK hP 8 0 rfl rfl j (rfl) (by omega) (by decide) dX3_stressAt_147 ?_
              refine lv_lload hx hb dX3_stressAt_148 (lv_at hl 0 rfl) ?_
              refine lv_l2i hx hb dX3_stressAt_150 rfl ?_
              refine lv_iadd hx hb dX3_stressAt_151 ?_
              exact W.iret (v := ((g 6 j) + ((((((g 6 (j + 1)) - (g 6 j)).toInt64) * ((t - (g 5 j)).toInt64)) / (((g 5 (j + 1)) - (g 5 j)).toInt64)).toInt32))) hx hb hr (fun t9 ht9 hW9 => ⟨⟨_, (), rfl, (by rw [hv, show 8 * k + q - 1 - j = (8 * k + q - 1 - (j + 1)) + 1 by omega, rvL_s, if_neg (le_nlt c4)]), ht9⟩, hS.F ht9⟩) hS.2.2 dX3_stressAt_152
            · refine lv_iinc (v := nI (j + 1 + 1)) (lv' := [(5, .int (nI (j + 1 + 1))), (0, .ref (Z 0)), (1, .int (nI k)), (2, .int t), (3, .int (nI (8 * k))), (4, .int (nI q))]) hx hb dX3_stressAt_62 hl (k := 5) rfl (nI_1 (j + 1)) (by decide) rfl (fun ls hl => ?_)
              refine lv_goto (tgt := 42) hx hb dX3_stressAt_65 (by decide) ?_
              exact ih (j + 1) _ _ (by omega) (by omega) (by omega) (by rw [hv, show 8 * k + q - 1 - j = (8 * k + q - 1 - (j + 1)) + 1 by omega, rvL_s, if_pos (nle_lt c4)]) hS (lv_sub hl [1, 2, 3, 4, 5, 0] rfl)
      exact lp (q + 1) (8 * k) _ _ (by omega) (by omega) (by omega) (by rw [rwF_k hk, hqe, if_neg c1, if_neg (lt_nle c2), nI_clamp (n := q) (by omega), show 8 * k + q - 1 - 8 * k = q - 1 by omega]; exact rw_rv hg hk hq hqe hq0) hS (lv_sub hl [3, 4, 5, 2, 1, 0] rfl)
    · refine lv_aload_n hx hb dX3_stressAt_30 rfl (lv_at hl 2 rfl) ?_
      refine va_get (D := (dC, dI)) (ci := 4) (v := .ref (Z 8)) (C := RX3) (T := TX3) (N := 19) hx hb hts miX3_stressAt_X3 hown hK hP 0 rfl rfl 9 (by decide) (hts (.fieldLink RX3 31 "SectionFibresModel" "stresses" "[I") mbX3_stressAt_3) (fun _ h9 => h9) rfl dX3_stressAt_31 ?_
      refine lv_iload_n hx hb dX3_stressAt_34 rfl (lv_at hl 1 rfl) ?_
      refine ialn hx hb hK hP 8 0 rfl rfl (8 * k) (rfl) (by omega) (by decide) dX3_stressAt_35 ?_
      exact W.iret (v := (g 6 (8 * k))) hx hb hr (fun t9 ht9 hW9 => ⟨⟨_, (), rfl, (by rw [rwF_k hk, hqe, if_neg c1, if_pos (nlt_le c2)]), ht9⟩, hS.F ht9⟩) hS.2.2 dX3_stressAt_36
  · refine lv_iconst (v := 0) hx hb dX3_stressAt_18 (by decide) ?_
    exact W.iret (v := 0) hx hb hr (fun t9 ht9 hW9 => ⟨⟨_, (), rfl, (by rw [rwF_k hk, hqe, if_pos c1]), ht9⟩, hS.F ht9⟩) hS.2.2 dX3_stressAt_19

set_option maxRecDepth 20000 in
theorem miX3_works_X3 : ∀ w ∈ u_ws RX3 TX3 19, w ∈ wsX3_works := by decide +kernel
set_option maxRecDepth 20000 in
theorem mbX3_works_1 : (.fieldLink RX3 13 "SectionFibresModel" "places" "[I" : Cond) ∈ wsX3_works := by decide +kernel
set_option maxRecDepth 20000 in
theorem mbX3_works_2 : (.fieldLink RX3 19 "SectionFibresModel" "borns" "[I" : Cond) ∈ wsX3_works := by decide +kernel
set_option maxRecDepth 20000 in
theorem mbX3_works_3 : (.fieldLink RX3 37 "SectionFibresModel" "shrunk" "[I" : Cond) ∈ wsX3_works := by decide +kernel
set_option maxRecDepth 20000 in
theorem mbX3_works_4 : (.fieldLink RX3 16 "SectionFibresModel" "kinds" "[I" : Cond) ∈ wsX3_works := by decide +kernel
set_option maxRecDepth 20000 in
theorem mbX3_works_5 : (.fieldLink RX3 34 "SectionFibresModel" "creep" "[I" : Cond) ∈ wsX3_works := by decide +kernel
set_option maxHeartbeats 4000000 in
set_option maxRecDepth 100000 in
theorem c_X3_works (l : Launch) (dC : Nat → ClassId) (dI : Nat → Nat → Nat) (cA : ClassId) (H : Heap) (Z : Nat → Nat) (g : Gg) (n : Nat) (th hs pe pk : Int32) (fo mo : Int64) (fE fK : Int32) (hP : va_P (dC, dI) vwCl (wR cA Z g n th hs pe pk fo mo fE fK) H) (hg : InvG g) (f : Nat) (hf : f < 41) (ee kb : Int32) (hee : rg ee (-20000) 20000) (hkb : rg kb (-20000) 20000) : Met l yX3_works wsX3_works ({ frames := 0, cells := 0, slots := 0, locals := 0 }) (rd_P [.ref (Z 0), .int (nI f), .int ee, .int kb] H (dC, dI) vwCl [(cA, .int)]) (rd_Qi H (fun r => r = wkF g f ee kb)) 0 0 nF := by
  refine Met.ofW (cc := cX3_works) (maxL := 7) (ret := (some .int)) (by decide) rfl ?_
  intro p e s m args below meth c s₁ B hml hv
  obtain ⟨rfl, hH, hK, hN⟩ := hv
  subst hH
  have hx := B.exec
  have hb := B.bytes
  have hr := B.returns
  have hts := atoms_spec (ws := wsX3_works) B.pre
  have hown : s.vm.findClass RX3 = some m.cls := findClass_of_methodNamed B.named
  have hlocks := B.notSynchronized
  have hS : va_S nF s.heap s.heap [] := va_S.rf
  have hl := lv_entry ([.ref (Z 0), .int (nI f), .int ee, .int kb]) (n := 7) (Nat.le_of_ble_eq_true rfl)
  rw [lg_entry_eq]
  generalize (lg_sl ([.ref (Z 0), .int (nI f), .int ee, .int kb]) ++ List.replicate (7 - (lg_sl ([.ref (Z 0), .int (nI f), .int ee, .int kb])).length) Slot.unset).toArray = ls at hl ⊢
  have hl : lv_has ls 7 [(0, .ref (Z 0)), (1, .int (nI f)), (2, .int ee), (3, .int kb)] := hl
  obtain ⟨kd, hkd, hke⟩ := vp_in_of (hg.1 f hf) (by decide)
  have hkp := kp_b hkb.1 hkb.2 (hg.2.1 f hf).1 (hg.2.1 f hf).2
  refine lv_iload_n hx hb dX3_works_0 rfl (lv_at hl 3 rfl) ?_
  refine lv_aload_n hx hb dX3_works_1 rfl (lv_at hl 0 rfl) ?_
  refine va_get (D := (dC, dI)) (ci := 4) (v := .ref (Z 2)) (C := RX3) (T := TX3) (N := 19) hx hb hts miX3_works_X3 hown hK hP 0 rfl rfl 3 (by decide) (hts (.fieldLink RX3 13 "SectionFibresModel" "places" "[I") mbX3_works_1) (fun _ h9 => h9) rfl dX3_works_2 ?_
  refine lv_iload_n hx hb dX3_works_5 rfl (lv_at hl 1 rfl) ?_
  refine ialn hx hb hK hP 2 0 rfl rfl f (rfl) (by omega) (by decide) dX3_works_6 ?_
  refine lv_imul hx hb dX3_works_7 ?_
  refine lv_istore (lv' := [(4, .int (kb * (g 1 f))), (0, .ref (Z 0)), (1, .int (nI f)), (2, .int ee), (3, .int kb)]) hx hb dX3_works_8 hl (by decide) rfl (fun ls hl => ?_)
  refine lv_iload hx hb dX3_works_10 (lv_at hl 0 rfl) ?_
  refine lv_if_lt (tgt := 24) hx hb dX3_works_12 (by decide) (fun c1 => ?_) (fun c1 => ?_)
  · refine lv_sipush (v := 999) hx hb dX3_works_24 (by decide) ?_
    refine lv_iload hx hb dX3_works_27 (lv_at hl 0 rfl) ?_
    refine lv_isub hx hb dX3_works_29 ?_
    refine lv_sipush (v := 1000) hx hb dX3_works_30 (by decide) ?_
    refine lv_idiv hx hb dX3_works_33 (by decide) ?_
    refine lv_ineg hx hb dX3_works_34 ?_
    refine tp_i (v := iI ((kb * g 1 f).toInt / 1000)) (rdnN (by omega) (by omega) c1) ?_
    refine lv_istore (lv' := [(5, .int (iI ((kb * g 1 f).toInt / 1000))), (4, .int (kb * (g 1 f))), (0, .ref (Z 0)), (1, .int (nI f)), (2, .int ee), (3, .int kb)]) hx hb dX3_works_35 hl (by decide) rfl (fun ls hl => ?_)
    refine lv_iload_n hx hb dX3_works_37 rfl (lv_at hl 4 rfl) ?_
    refine lv_iload hx hb dX3_works_38 (lv_at hl 0 rfl) ?_
    refine lv_iadd hx hb dX3_works_40 ?_
    refine lv_aload_n hx hb dX3_works_41 rfl (lv_at hl 2 rfl) ?_
    refine va_get (D := (dC, dI)) (ci := 4) (v := .ref (Z 4)) (C := RX3) (T := TX3) (N := 19) hx hb hts miX3_works_X3 hown hK hP 0 rfl rfl 5 (by decide) (hts (.fieldLink RX3 19 "SectionFibresModel" "borns" "[I") mbX3_works_2) (fun _ h9 => h9) rfl dX3_works_42 ?_
    refine lv_iload_n hx hb dX3_works_45 rfl (lv_at hl 3 rfl) ?_
    refine ialn hx hb hK hP 4 0 rfl rfl f (rfl) (by omega) (by decide) dX3_works_46 ?_
    refine lv_isub hx hb dX3_works_47 ?_
    refine lv_aload_n hx hb dX3_works_48 rfl (lv_at hl 2 rfl) ?_
    refine va_get (D := (dC, dI)) (ci := 4) (v := .ref (Z 10)) (C := RX3) (T := TX3) (N := 19) hx hb hts miX3_works_X3 hown hK hP 0 rfl rfl 11 (by decide) (hts (.fieldLink RX3 37 "SectionFibresModel" "shrunk" "[I") mbX3_works_3) (fun _ h9 => h9) rfl dX3_works_49 ?_
    refine lv_aload_n hx hb dX3_works_52 rfl (lv_at hl 2 rfl) ?_
    refine va_get (D := (dC, dI)) (ci := 4) (v := .ref (Z 3)) (C := RX3) (T := TX3) (N := 19) hx hb hts miX3_works_X3 hown hK hP 0 rfl rfl 4 (by decide) (hts (.fieldLink RX3 16 "SectionFibresModel" "kinds" "[I") mbX3_works_4) (fun _ h9 => h9) rfl dX3_works_53 ?_
    refine lv_iload_n hx hb dX3_works_56 rfl (lv_at hl 3 rfl) ?_
    refine ialn hx hb hK hP 3 0 rfl rfl f (rfl) (by omega) (by decide) dX3_works_57 ?_
    refine tp_i (v := nI kd) (hke) ?_
    refine ialn hx hb hK hP 10 0 rfl rfl kd (rfl) (by omega) (by decide) dX3_works_58 ?_
    refine lv_isub hx hb dX3_works_59 ?_
    refine lv_istore (lv' := [(6, .int (((ee + (iI ((kb * g 1 f).toInt / 1000))) - (g 3 f)) - (g 9 kd))), (5, .int (iI ((kb * g 1 f).toInt / 1000))), (4, .int (kb * (g 1 f))), (0, .ref (Z 0)), (1, .int (nI f)), (2, .int ee), (3, .int kb)]) hx hb dX3_works_60 hl (by decide) rfl (fun ls hl => ?_)
    refine lv_iload hx hb dX3_works_62 (lv_at hl 0 rfl) ?_
    refine lv_bipush (v := 100) hx hb dX3_works_64 (by decide) ?_
    refine lv_imul hx hb dX3_works_66 ?_
    refine lv_bipush (v := 100) hx hb dX3_works_67 (by decide) ?_
    refine lv_aload_n hx hb dX3_works_69 rfl (lv_at hl 3 rfl) ?_
    refine va_get (D := (dC, dI)) (ci := 4) (v := .ref (Z 9)) (C := RX3) (T := TX3) (N := 19) hx hb hts miX3_works_X3 hown hK hP 0 rfl rfl 10 (by decide) (hts (.fieldLink RX3 34 "SectionFibresModel" "creep" "[I") mbX3_works_5) (fun _ h9 => h9) rfl dX3_works_70 ?_
    refine lv_aload_n hx hb dX3_works_73 rfl (lv_at hl 3 rfl) ?_
    refine va_get (D := (dC, dI)) (ci := 4) (v := .ref (Z 3)) (C := RX3) (T := TX3) (N := 19) hx hb hts miX3_works_X3 hown hK hP 0 rfl rfl 4 (by decide) (hts (.fieldLink RX3 16 "SectionFibresModel" "kinds" "[I") mbX3_works_4) (fun _ h9 => h9) rfl dX3_works_74 ?_
    refine lv_iload_n hx hb dX3_works_77 rfl (lv_at hl 4 rfl) ?_
    refine ialn hx hb hK hP 3 0 rfl rfl f (rfl) (by omega) (by decide) dX3_works_78 ?_
    refine tp_i (v := nI kd) (hke) ?_
    refine ialn hx hb hK hP 9 0 rfl rfl kd (rfl) (by omega) (by decide) dX3_works_79 ?_
    refine lv_iadd hx hb dX3_works_80 ?_
    refine lv_idiv hx hb dX3_works_81 (crne (hg.2.2.2.1 kd hkd).1 (hg.2.2.2.1 kd hkd).2) ?_
    exact W.iret (v := (((((ee + (iI ((kb * g 1 f).toInt / 1000))) - (g 3 f)) - (g 9 kd)) * 100) / (100 + (g 8 kd)))) hx hb hr (fun t9 ht9 hW9 => ⟨⟨_, (), rfl, (by have h9 := rwk_eq hg hf hee.1 hee.2 hkb.1 hkb.2 rfl; rw [hke, nI_clamp (n := kd) (by omega)] at h9; exact h9), ht9⟩, hS.F ht9⟩) hS.2.2 dX3_works_82
  · refine lv_iload hx hb dX3_works_15 (lv_at hl 0 rfl) ?_
    refine lv_sipush (v := 1000) hx hb dX3_works_17 (by decide) ?_
    refine lv_idiv hx hb dX3_works_20 (by decide) ?_
    refine tp_i (v := iI ((kb * g 1 f).toInt / 1000)) (rdnP (by omega) (by omega) c1) ?_
    refine lv_goto (tgt := 35) hx hb dX3_works_21 (by decide) ?_
    refine lv_istore (lv' := [(5, .int (iI ((kb * g 1 f).toInt / 1000))), (4, .int (kb * (g 1 f))), (0, .ref (Z 0)), (1, .int (nI f)), (2, .int ee), (3, .int kb)]) hx hb dX3_works_35 hl (by decide) rfl (fun ls hl => ?_)
    refine lv_iload_n hx hb dX3_works_37 rfl (lv_at hl 4 rfl) ?_
    refine lv_iload hx hb dX3_works_38 (lv_at hl 0 rfl) ?_
    refine lv_iadd hx hb dX3_works_40 ?_
    refine lv_aload_n hx hb dX3_works_41 rfl (lv_at hl 2 rfl) ?_
    refine va_get (D := (dC, dI)) (ci := 4) (v := .ref (Z 4)) (C := RX3) (T := TX3) (N := 19) hx hb hts miX3_works_X3 hown hK hP 0 rfl rfl 5 (by decide) (hts (.fieldLink RX3 19 "SectionFibresModel" "borns" "[I") mbX3_works_2) (fun _ h9 => h9) rfl dX3_works_42 ?_
    refine lv_iload_n hx hb dX3_works_45 rfl (lv_at hl 3 rfl) ?_
    refine ialn hx hb hK hP 4 0 rfl rfl f (rfl) (by omega) (by decide) dX3_works_46 ?_
    refine lv_isub hx hb dX3_works_47 ?_
    refine lv_aload_n hx hb dX3_works_48 rfl (lv_at hl 2 rfl) ?_
    refine va_get (D := (dC, dI)) (ci := 4) (v := .ref (Z 10)) (C := RX3) (T := TX3) (N := 19) hx hb hts miX3_works_X3 hown hK hP 0 rfl rfl 11 (by decide) (hts (.fieldLink RX3 37 "SectionFibresModel" "shrunk" "[I") mbX3_works_3) (fun _ h9 => h9) rfl dX3_works_49 ?_
    refine lv_aload_n hx hb dX3_works_52 rfl (lv_at hl 2 rfl) ?_
    refine va_get (D := (dC, dI)) (ci := 4) (v := .ref (Z 3)) (C := RX3) (T := TX3) (N := 19) hx hb hts miX3_works_X3 hown hK hP 0 rfl rfl 4 (by decide) (hts (.fieldLink RX3 16 "SectionFibresModel" "kinds" "[I") mbX3_works_4) (fun _ h9 => h9) rfl dX3_works_53 ?_
    refine lv_iload_n hx hb dX3_works_56 rfl (lv_at hl 3 rfl) ?_
    refine ialn hx hb hK hP 3 0 rfl rfl f (rfl) (by omega) (by decide) dX3_works_57 ?_
    refine tp_i (v := nI kd) (hke) ?_
    refine ialn hx hb hK hP 10 0 rfl rfl kd (rfl) (by omega) (by decide) dX3_works_58 ?_
    refine lv_isub hx hb dX3_works_59 ?_
    refine lv_istore (lv' := [(6, .int (((ee + (iI ((kb * g 1 f).toInt / 1000))) - (g 3 f)) - (g 9 kd))), (5, .int (iI ((kb * g 1 f).toInt / 1000))), (4, .int (kb * (g 1 f))), (0, .ref (Z 0)), (1, .int (nI f)), (2, .int ee), (3, .int kb)]) hx hb dX3_works_60 hl (by decide) rfl (fun ls hl => ?_)
    refine lv_iload hx hb dX3_works_62 (lv_at hl 0 rfl) ?_
    refine lv_bipush (v := 100) hx hb dX3_works_64 (by decide) ?_
    refine lv_imul hx hb dX3_works_66 ?_
    refine lv_bipush (v := 100) hx hb dX3_works_67 (by decide) ?_
    refine lv_aload_n hx hb dX3_works_69 rfl (lv_at hl 3 rfl) ?_
    refine va_get (D := (dC, dI)) (ci := 4) (v := .ref (Z 9)) (C := RX3) (T := TX3) (N := 19) hx hb hts miX3_works_X3 hown hK hP 0 rfl rfl 10 (by decide) (hts (.fieldLink RX3 34 "SectionFibresModel" "creep" "[I") mbX3_works_5) (fun _ h9 => h9) rfl dX3_works_70 ?_
    refine lv_aload_n hx hb dX3_works_73 rfl (lv_at hl 3 rfl) ?_
    refine va_get (D := (dC, dI)) (ci := 4) (v := .ref (Z 3)) (C := RX3) (T := TX3) (N := 19) hx hb hts miX3_works_X3 hown hK hP 0 rfl rfl 4 (by decide) (hts (.fieldLink RX3 16 "SectionFibresModel" "kinds" "[I") mbX3_works_4) (fun _ h9 => h9) rfl dX3_works_74 ?_
    refine lv_iload_n hx hb dX3_works_77 rfl (lv_at hl 4 rfl) ?_
    refine ialn hx hb hK hP 3 0 rfl rfl f (rfl) (by omega) (by decide) dX3_works_78 ?_
    refine tp_i (v := nI kd) (hke) ?_
    refine ialn hx hb hK hP 9 0 rfl rfl kd (rfl) (by omega) (by decide) dX3_works_79 ?_
    refine lv_iadd hx hb dX3_works_80 ?_
    refine lv_idiv hx hb dX3_works_81 (crne (hg.2.2.2.1 kd hkd).1 (hg.2.2.2.1 kd hkd).2) ?_
    exact W.iret (v := (((((ee + (iI ((kb * g 1 f).toInt / 1000))) - (g 3 f)) - (g 9 kd)) * 100) / (100 + (g 8 kd)))) hx hb hr (fun t9 ht9 hW9 => ⟨⟨_, (), rfl, (by have h9 := rwk_eq hg hf hee.1 hee.2 hkb.1 hkb.2 rfl; rw [hke, nI_clamp (n := kd) (by omega)] at h9; exact h9), ht9⟩, hS.F ht9⟩) hS.2.2 dX3_works_82

set_option maxRecDepth 20000 in
theorem miX3_stressOf_X3 : ∀ w ∈ u_ws RX3 TX3 19, w ∈ wsX3_stressOf := by decide +kernel
set_option maxRecDepth 20000 in
theorem mbX3_stressOf_1 : (.fieldLink RX3 16 "SectionFibresModel" "kinds" "[I" : Cond) ∈ wsX3_stressOf := by decide +kernel
set_option maxRecDepth 20000 in
theorem mbX3_stressOf_2 : (.fieldLink RX3 22 "SectionFibresModel" "kept" "[I" : Cond) ∈ wsX3_stressOf := by decide +kernel
set_option maxRecDepth 20000 in
theorem mbX3_stressOf_3 : (.constantLong RX3 77 (100) : Cond) ∈ wsX3_stressOf := by decide +kernel
set_option maxHeartbeats 4000000 in
set_option maxRecDepth 100000 in
theorem c_X3_stressOf (l : Launch) (dC : Nat → ClassId) (dI : Nat → Nat → Nat) (cA : ClassId) (H : Heap) (Z : Nat → Nat) (g : Gg) (n : Nat) (th hs pe pk : Int32) (fo mo : Int64) (fE fK : Int32) (hP : va_P (dC, dI) vwCl (wR cA Z g n th hs pe pk fo mo fE fK) H) (hg : InvG g) (f : Nat) (hf : f < 41) (ee kb : Int32) (hee : rg ee (-20000) 20000) (hkb : rg kb (-20000) 20000) : Met l yX3_stressOf wsX3_stressOf ({ frames := 1, cells := 0, slots := 0, locals := 27 }) (rd_P [.ref (Z 0), .int (nI f), .int ee, .int kb] H (dC, dI) vwCl [(cA, .int)]) (rd_Qi H (fun r => r = stF g f ee kb)) 0 0 nF := by
  refine Met.ofW (cc := cX3_stressOf) (maxL := 4) (ret := (some .int)) (by decide) rfl ?_
  intro p e s m args below meth c s₁ B hml hv
  obtain ⟨rfl, hH, hK, hN⟩ := hv
  subst hH
  have hx := B.exec
  have hb := B.bytes
  have hr := B.returns
  have hts := atoms_spec (ws := wsX3_stressOf) B.pre
  have hown : s.vm.findClass RX3 = some m.cls := findClass_of_methodNamed B.named
  have hlocks := B.notSynchronized
  have hS : va_S nF s.heap s.heap [] := va_S.rf
  have hl := lv_entry ([.ref (Z 0), .int (nI f), .int ee, .int kb]) (n := 4) (Nat.le_of_ble_eq_true rfl)
  rw [lg_entry_eq]
  generalize (lg_sl ([.ref (Z 0), .int (nI f), .int ee, .int kb]) ++ List.replicate (4 - (lg_sl ([.ref (Z 0), .int (nI f), .int ee, .int kb])).length) Slot.unset).toArray = ls at hl ⊢
  have hl : lv_has ls 4 [(0, .ref (Z 0)), (1, .int (nI f)), (2, .int ee), (3, .int kb)] := hl
  refine lv_aload_n hx hb dX3_stressOf_0 rfl (lv_at hl 0 rfl) ?_
  refine lv_aload_n hx hb dX3_stressOf_1 rfl (lv_at hl 0 rfl) ?_
  refine va_get (D := (dC, dI)) (ci := 4) (v := .ref (Z 3)) (C := RX3) (T := TX3) (N := 19) hx hb hts miX3_stressOf_X3 hown hK hP 0 rfl rfl 4 (by decide) (hts (.fieldLink RX3 16 "SectionFibresModel" "kinds" "[I") mbX3_stressOf_1) (fun _ h9 => h9) rfl dX3_stressOf_2 ?_
  refine lv_iload_n hx hb dX3_stressOf_5 rfl (lv_at hl 1 rfl) ?_
  refine ialn hx hb hK hP 3 0 rfl rfl f (rfl) (by omega) (by decide) dX3_stressOf_6 ?_
  refine lv_aload_n hx hb dX3_stressOf_7 rfl (lv_at hl 0 rfl) ?_
  refine lv_iload_n hx hb dX3_stressOf_8 rfl (lv_at hl 1 rfl) ?_
  refine lv_iload_n hx hb dX3_stressOf_9 rfl (lv_at hl 2 rfl) ?_
  refine lv_iload_n hx hb dX3_stressOf_10 rfl (lv_at hl 3 rfl) ?_
  refine rd_i (va_runV (As := [.int (nI f), .int ee, .int kb]) (rest := [.int (g 2 f), .ref (Z 0)]) ⟨hx, hb, hml, hown, hts⟩ (c_X3_works l dC dI cA s.heap Z g n th hs pe pk fo mo fE fK hP hg f (by omega) ee kb hee hkb) (cwV 3 hts gX3_stressOf_X3_works rfl rfl rfl (by decide +kernel) ⟨Nat.le_of_ble_eq_true rfl, Nat.le_of_ble_eq_true rfl⟩) ⟨rd_bl, va_recv hK hP (ci := 4) (q0 := 0) rfl rfl, rd_pre hK hN⟩ rfl rfl hl.1 rfl (lv_room (Nat.le_of_ble_eq_true rfl)) dX3_stressOf_11 ⟨Nat.zero_le _, Nat.zero_le _⟩) hS (fun r1 locs hq2 hS => ?_)
  have hq2 : r1 = wkF g f ee kb := hq2
  subst hq2
  refine rd_i (va_runV (As := [.int (g 2 f), .int (wkF g f ee kb)]) (rest := []) ⟨hx, hb, hml, hown, hts⟩ (c_X3_stressAt l dC dI cA s.heap Z g n th hs pe pk fo mo fE fK hP hg (g 2 f) (wkF g f ee kb) (hg.1 f hf)) (cwV 2 hts gX3_stressOf_X3_stressAt rfl rfl rfl (by decide +kernel) ⟨Nat.le_of_ble_eq_true rfl, Nat.le_of_ble_eq_true rfl⟩) ⟨rd_bl, va_recv hK hP (ci := 4) (q0 := 0) rfl rfl, rd_pre hK hN⟩ rfl rfl hl.1 rfl (lv_room (Nat.le_of_ble_eq_true rfl)) dX3_stressOf_14 ⟨Nat.zero_le _, Nat.zero_le _⟩) hS (fun r3 locs hq4 hS => ?_)
  have hq4 : r3 = rwF g (g 2 f) (wkF g f ee kb) := hq4
  subst hq4
  refine lv_i2l hx hb dX3_stressOf_17 rfl ?_
  refine lv_aload_n hx hb dX3_stressOf_18 rfl (lv_at hl 0 rfl) ?_
  refine va_get (D := (dC, dI)) (ci := 4) (v := .ref (Z 5)) (C := RX3) (T := TX3) (N := 19) hx hb hts miX3_stressOf_X3 hown hK hP 0 rfl rfl 6 (by decide) (hts (.fieldLink RX3 22 "SectionFibresModel" "kept" "[I") mbX3_stressOf_2) (fun _ h9 => h9) rfl dX3_stressOf_19 ?_
  refine lv_iload_n hx hb dX3_stressOf_22 rfl (lv_at hl 1 rfl) ?_
  refine ialn hx hb hK hP 5 0 rfl rfl f (rfl) (by omega) (by decide) dX3_stressOf_23 ?_
  refine lv_i2l hx hb dX3_stressOf_24 rfl ?_
  refine lv_lmul hx hb dX3_stressOf_25 ?_
  refine lv_ldc2 hx hb hown (hts (.constantLong RX3 77 (100)) mbX3_stressOf_3) dX3_stressOf_26 ?_
  refine lv_ldiv hx hb dX3_stressOf_29 (by decide) ?_
  refine lv_l2i hx hb dX3_stressOf_30 rfl ?_
  exact W.iret (v := (((((rwF g (g 2 f) (wkF g f ee kb)).toInt64) * ((g 4 f).toInt64)) / 100).toInt32)) hx hb hr (fun t9 ht9 hW9 => ⟨⟨_, (), rfl, (by unfold stF sh; rw [if_neg (by decide)]), ht9⟩, hS.F ht9⟩) hS.2.2 dX3_stressOf_31

set_option maxRecDepth 20000 in
theorem miX3_isBeyond_X3 : ∀ w ∈ u_ws RX3 TX3 19, w ∈ wsX3_isBeyond := by decide +kernel
set_option maxRecDepth 20000 in
theorem mbX3_isBeyond_1 : (.fieldLink RX3 16 "SectionFibresModel" "kinds" "[I" : Cond) ∈ wsX3_isBeyond := by decide +kernel
set_option maxRecDepth 20000 in
theorem mbX3_isBeyond_2 : (.fieldLink RX3 25 "SectionFibresModel" "points" "[I" : Cond) ∈ wsX3_isBeyond := by decide +kernel
set_option maxRecDepth 20000 in
theorem mbX3_isBeyond_3 : (.fieldLink RX3 28 "SectionFibresModel" "strains" "[I" : Cond) ∈ wsX3_isBeyond := by decide +kernel
set_option maxHeartbeats 4000000 in
set_option maxRecDepth 100000 in
theorem c_X3_isBeyond (l : Launch) (dC : Nat → ClassId) (dI : Nat → Nat → Nat) (cA : ClassId) (H : Heap) (Z : Nat → Nat) (g : Gg) (n : Nat) (th hs pe pk : Int32) (fo mo : Int64) (fE fK : Int32) (hP : va_P (dC, dI) vwCl (wR cA Z g n th hs pe pk fo mo fE fK) H) (hg : InvG g) (f : Nat) (hf : f < 41) (ee kb : Int32) (hee : rg ee (-20000) 20000) (hkb : rg kb (-20000) 20000) : Met l yX3_isBeyond wsX3_isBeyond ({ frames := 1, cells := 0, slots := 0, locals := 26 }) (rd_P [.ref (Z 0), .int (nI f), .int ee, .int kb] H (dC, dI) vwCl [(cA, .int)]) (rd_Qi H (fun r => (byF g (g 2 f) (wkF g f ee kb) ∧ r = 1) ∨ (¬ (byF g (g 2 f) (wkF g f ee kb)) ∧ r = 0))) 0 0 nF := by
  refine Met.ofW (cc := cX3_isBeyond) (maxL := 7) (ret := (some .boolean)) (by decide) rfl ?_
  intro p e s m args below meth c s₁ B hml hv
  obtain ⟨rfl, hH, hK, hN⟩ := hv
  subst hH
  have hx := B.exec
  have hb := B.bytes
  have hr := B.returns
  have hts := atoms_spec (ws := wsX3_isBeyond) B.pre
  have hown : s.vm.findClass RX3 = some m.cls := findClass_of_methodNamed B.named
  have hlocks := B.notSynchronized
  have hS : va_S nF s.heap s.heap [] := va_S.rf
  have hl := lv_entry ([.ref (Z 0), .int (nI f), .int ee, .int kb]) (n := 7) (Nat.le_of_ble_eq_true rfl)
  rw [lg_entry_eq]
  generalize (lg_sl ([.ref (Z 0), .int (nI f), .int ee, .int kb]) ++ List.replicate (7 - (lg_sl ([.ref (Z 0), .int (nI f), .int ee, .int kb])).length) Slot.unset).toArray = ls at hl ⊢
  have hl : lv_has ls 7 [(0, .ref (Z 0)), (1, .int (nI f)), (2, .int ee), (3, .int kb)] := hl
  obtain ⟨kd, hkd, hke⟩ := vp_in_of (hg.1 f hf) (by decide)
  obtain ⟨q, hq, hqe⟩ := vp_in_of (hg.2.2.2.2.2.1 kd hkd) (by decide)
  refine lv_aload_n hx hb dX3_isBeyond_0 rfl (lv_at hl 0 rfl) ?_
  refine lv_iload_n hx hb dX3_isBeyond_1 rfl (lv_at hl 1 rfl) ?_
  refine lv_iload_n hx hb dX3_isBeyond_2 rfl (lv_at hl 2 rfl) ?_
  refine lv_iload_n hx hb dX3_isBeyond_3 rfl (lv_at hl 3 rfl) ?_
  refine rd_i (va_runV (As := [.int (nI f), .int ee, .int kb]) (rest := []) ⟨hx, hb, hml, hown, hts⟩ (c_X3_works l dC dI cA s.heap Z g n th hs pe pk fo mo fE fK hP hg f (by omega) ee kb hee hkb) (cwV 3 hts gX3_isBeyond_X3_works rfl rfl rfl (by decide +kernel) ⟨Nat.le_of_ble_eq_true rfl, Nat.le_of_ble_eq_true rfl⟩) ⟨rd_bl, va_recv hK hP (ci := 4) (q0 := 0) rfl rfl, rd_pre hK hN⟩ rfl rfl hl.1 rfl (lv_room (Nat.le_of_ble_eq_true rfl)) dX3_isBeyond_4 ⟨Nat.zero_le _, Nat.zero_le _⟩) hS (fun r1 locs hq2 hS => ?_)
  have hq2 : r1 = wkF g f ee kb := hq2
  subst hq2
  refine lv_istore (lv' := [(4, .int (wkF g f ee kb)), (0, .ref (Z 0)), (1, .int (nI f)), (2, .int ee), (3, .int kb)]) hx hb dX3_isBeyond_7 hl (by decide) rfl (fun ls hl => ?_)
  refine lv_bipush (v := 8) hx hb dX3_isBeyond_9 (by decide) ?_
  refine lv_aload_n hx hb dX3_isBeyond_11 rfl (lv_at hl 1 rfl) ?_
  refine va_get (D := (dC, dI)) (ci := 4) (v := .ref (Z 3)) (C := RX3) (T := TX3) (N := 19) hx hb hts miX3_isBeyond_X3 hown hK hP 0 rfl rfl 4 (by decide) (hts (.fieldLink RX3 16 "SectionFibresModel" "kinds" "[I") mbX3_isBeyond_1) (fun _ h9 => h9) rfl dX3_isBeyond_12 ?_
  refine lv_iload_n hx hb dX3_isBeyond_15 rfl (lv_at hl 2 rfl) ?_
  refine ialn hx hb hK hP 3 0 rfl rfl f (rfl) (by omega) (by decide) dX3_isBeyond_16 ?_
  refine tp_i (v := nI kd) (hke) ?_
  refine lv_imul hx hb dX3_isBeyond_17 ?_
  refine tp_i (v := nI (8 * kd)) (pk_mul 8 kd) ?_
  refine lv_istore (lv' := [(5, .int (nI (8 * kd))), (4, .int (wkF g f ee kb)), (0, .ref (Z 0)), (1, .int (nI f)), (2, .int ee), (3, .int kb)]) hx hb dX3_isBeyond_18 hl (by decide) rfl (fun ls hl => ?_)
  refine lv_aload_n hx hb dX3_isBeyond_20 rfl (lv_at hl 2 rfl) ?_
  refine va_get (D := (dC, dI)) (ci := 4) (v := .ref (Z 6)) (C := RX3) (T := TX3) (N := 19) hx hb hts miX3_isBeyond_X3 hown hK hP 0 rfl rfl 7 (by decide) (hts (.fieldLink RX3 25 "SectionFibresModel" "points" "[I") mbX3_isBeyond_2) (fun _ h9 => h9) rfl dX3_isBeyond_21 ?_
  refine lv_aload_n hx hb dX3_isBeyond_24 rfl (lv_at hl 2 rfl) ?_
  refine va_get (D := (dC, dI)) (ci := 4) (v := .ref (Z 3)) (C := RX3) (T := TX3) (N := 19) hx hb hts miX3_isBeyond_X3 hown hK hP 0 rfl rfl 4 (by decide) (hts (.fieldLink RX3 16 "SectionFibresModel" "kinds" "[I") mbX3_isBeyond_1) (fun _ h9 => h9) rfl dX3_isBeyond_25 ?_
  refine lv_iload_n hx hb dX3_isBeyond_28 rfl (lv_at hl 3 rfl) ?_
  refine ialn hx hb hK hP 3 0 rfl rfl f (rfl) (by omega) (by decide) dX3_isBeyond_29 ?_
  refine tp_i (v := nI kd) (hke) ?_
  refine ialn hx hb hK hP 6 0 rfl rfl kd (rfl) (by omega) (by decide) dX3_isBeyond_30 ?_
  refine tp_i (v := nI q) (hqe) ?_
  refine lv_istore (lv' := [(6, .int (nI q)), (5, .int (nI (8 * kd))), (4, .int (wkF g f ee kb)), (0, .ref (Z 0)), (1, .int (nI f)), (2, .int ee), (3, .int kb)]) hx hb dX3_isBeyond_31 hl (by decide) rfl (fun ls hl => ?_)
  refine lv_iload hx hb dX3_isBeyond_33 (lv_at hl 0 rfl) ?_
  refine lv_if_le (tgt := 71) hx hb dX3_isBeyond_35 (by decide) (fun c1 => ?_) (fun c1 => ?_)
  · refine lv_iconst (v := 0) hx hb dX3_isBeyond_71 (by decide) ?_
    exact W.zret (ty := .boolean) (v := 0) hx hb hr (by decide) (fun t9 ht9 hW9 => ⟨⟨_, (), rfl, (Or.inr ⟨fun h9 => by rw [hke, byF_k hkd, hqe] at h9; exact h9.1 (by have h8 := (nI_leI (b := 0) (by omega) (by omega)).mp c1; rw [show q = 0 by omega]; rfl), rfl⟩), ht9⟩, hS.F ht9⟩) hS.2.2 dX3_isBeyond_72
  · have hq0 : 0 < q := Nat.pos_of_ne_zero (fun h9 => c1 (by rw [h9]; decide))
    refine lv_iload hx hb dX3_isBeyond_38 (lv_at hl 2 rfl) ?_
    refine lv_aload_n hx hb dX3_isBeyond_40 rfl (lv_at hl 3 rfl) ?_
    refine va_get (D := (dC, dI)) (ci := 4) (v := .ref (Z 7)) (C := RX3) (T := TX3) (N := 19) hx hb hts miX3_isBeyond_X3 hown hK hP 0 rfl rfl 8 (by decide) (hts (.fieldLink RX3 28 "SectionFibresModel" "strains" "[I") mbX3_isBeyond_3) (fun _ h9 => h9) rfl dX3_isBeyond_41 ?_
    refine lv_iload hx hb dX3_isBeyond_44 (lv_at hl 1 rfl) ?_
    refine ialn hx hb hK hP 7 0 rfl rfl (8 * kd) (rfl) (by omega) (by decide) dX3_isBeyond_46 ?_
    refine lv_icmp_lt (tgt := 67) hx hb dX3_isBeyond_47 (by decide) (fun c2 => ?_) (fun c2 => ?_)
    · refine lv_iconst (v := 1) hx hb dX3_isBeyond_67 (by decide) ?_
      refine lv_goto (tgt := 72) hx hb dX3_isBeyond_68 (by decide) ?_
      exact W.zret (ty := .boolean) (v := 1) hx hb hr (by decide) (fun t9 ht9 hW9 => ⟨⟨_, (), rfl, (Or.inl ⟨by rw [hke, byF_k hkd, hqe]; exact ⟨(fun h8 => by have h9 := (nI_eq (b := 0) (by omega) (by omega)).mp h8; omega), Or.inl c2⟩, rfl⟩), ht9⟩, hS.F ht9⟩) hS.2.2 dX3_isBeyond_72
    · refine lv_iload hx hb dX3_isBeyond_50 (lv_at hl 2 rfl) ?_
      refine lv_aload_n hx hb dX3_isBeyond_52 rfl (lv_at hl 3 rfl) ?_
      refine va_get (D := (dC, dI)) (ci := 4) (v := .ref (Z 7)) (C := RX3) (T := TX3) (N := 19) hx hb hts miX3_isBeyond_X3 hown hK hP 0 rfl rfl 8 (by decide) (hts (.fieldLink RX3 28 "SectionFibresModel" "strains" "[I") mbX3_isBeyond_3) (fun _ h9 => h9) rfl dX3_isBeyond_53 ?_
      refine lv_iload hx hb dX3_isBeyond_56 (lv_at hl 1 rfl) ?_
      refine lv_iload hx hb dX3_isBeyond_58 (lv_at hl 0 rfl) ?_
      refine lv_iadd hx hb dX3_isBeyond_60 ?_
      refine tp_i (v := nI (8 * kd + q)) (nI_add _ _) ?_
      refine lv_iconst (v := 1) hx hb dX3_isBeyond_61 (by decide) ?_
      refine lv_isub hx hb dX3_isBeyond_62 ?_
      refine tp_i (v := nI (8 * kd + q - 1)) (by have h9 := nI_pred (8 * kd + q - 1); rwa [show 8 * kd + q - 1 + 1 = 8 * kd + q by omega] at h9) ?_
      refine ialn hx hb hK hP 7 0 rfl rfl (8 * kd + q - 1) (rfl) (by omega) (by decide) dX3_isBeyond_63 ?_
      refine lv_icmp_le (tgt := 71) hx hb dX3_isBeyond_64 (by decide) (fun c3 => ?_) (fun c3 => ?_)
      · refine lv_iconst (v := 0) hx hb dX3_isBeyond_71 (by decide) ?_
        exact W.zret (ty := .boolean) (v := 0) hx hb hr (by decide) (fun t9 ht9 hW9 => ⟨⟨_, (), rfl, (Or.inr ⟨fun h9 => by rw [hke, byF_k hkd, hqe, nI_clamp (n := q) (by omega)] at h9; exact h9.2.elim c2 (le_nlt c3), rfl⟩), ht9⟩, hS.F ht9⟩) hS.2.2 dX3_isBeyond_72
      · refine lv_iconst (v := 1) hx hb dX3_isBeyond_67 (by decide) ?_
        refine lv_goto (tgt := 72) hx hb dX3_isBeyond_68 (by decide) ?_
        exact W.zret (ty := .boolean) (v := 1) hx hb hr (by decide) (fun t9 ht9 hW9 => ⟨⟨_, (), rfl, (Or.inl ⟨by rw [hke, byF_k hkd, hqe, nI_clamp (n := q) (by omega)]; exact ⟨(fun h8 => by have h9 := (nI_eq (b := 0) (by omega) (by omega)).mp h8; omega), Or.inr (nle_lt c3)⟩, rfl⟩), ht9⟩, hS.F ht9⟩) hS.2.2 dX3_isBeyond_72

set_option maxRecDepth 20000 in
theorem miX3_firstBeyond_X3 : ∀ w ∈ u_ws RX3 TX3 19, w ∈ wsX3_firstBeyond := by decide +kernel
set_option maxRecDepth 20000 in
theorem mbX3_firstBeyond_1 : (.fieldLink RX3 44 "SectionFibresModel" "fibres" "I" : Cond) ∈ wsX3_firstBeyond := by decide +kernel
set_option maxHeartbeats 4000000 in
set_option maxRecDepth 100000 in
theorem c_X3_firstBeyond (l : Launch) (dC : Nat → ClassId) (dI : Nat → Nat → Nat) (cA : ClassId) (H : Heap) (Z : Nat → Nat) (g : Gg) (n : Nat) (th hs pe pk : Int32) (fo mo : Int64) (fE fK : Int32) (hP : va_P (dC, dI) vwCl (wR cA Z g n th hs pe pk fo mo fE fK) H) (hg : InvG g) (hn : n ≤ 41) (ee kb : Int32) (hee : rg ee (-20000) 20000) (hkb : rg kb (-20000) 20000) : Met l yX3_firstBeyond wsX3_firstBeyond ({ frames := 2, cells := 0, slots := 0, locals := 52 }) (rd_P [.ref (Z 0), .int ee, .int kb] H (dC, dI) vwCl [(cA, .int)]) (rd_Qi H (fun r => r = fbF g ee kb n 0)) 0 0 nF := by
  refine Met.ofW (cc := cX3_firstBeyond) (maxL := 4) (ret := (some .int)) (by decide) rfl ?_
  intro p e s m args below meth c s₁ B hml hv
  obtain ⟨rfl, hH, hK, hN⟩ := hv
  subst hH
  have hx := B.exec
  have hb := B.bytes
  have hr := B.returns
  have hts := atoms_spec (ws := wsX3_firstBeyond) B.pre
  have hown : s.vm.findClass RX3 = some m.cls := findClass_of_methodNamed B.named
  have hlocks := B.notSynchronized
  have hS : va_S nF s.heap s.heap [] := va_S.rf
  have hl := lv_entry ([.ref (Z 0), .int ee, .int kb]) (n := 4) (Nat.le_of_ble_eq_true rfl)
  rw [lg_entry_eq]
  generalize (lg_sl ([.ref (Z 0), .int ee, .int kb]) ++ List.replicate (4 - (lg_sl ([.ref (Z 0), .int ee, .int kb])).length) Slot.unset).toArray = ls at hl ⊢
  have hl : lv_has ls 4 [(0, .ref (Z 0)), (1, .int ee), (2, .int kb)] := hl
  refine lv_iconst (v := 0) hx hb dX3_firstBeyond_0 (by decide) ?_
  refine tp_i (v := nI 0) (rfl) ?_
  refine lv_istore_n (lv' := [(3, .int (nI 0)), (0, .ref (Z 0)), (1, .int ee), (2, .int kb)]) hx hb dX3_firstBeyond_1 rfl hl (by decide) rfl (fun ls hl => ?_)
  have lp : ∀ (z : Nat) (i : Nat) (locs : List Loc) (ls : Array Slot), i ≤ n → n + 1 ≤ i + z → fbF g ee kb n 0 = fbF g ee kb (n - i) i → va_S nF s.heap s.heap locs → lv_has ls 4 [(0, .ref (Z 0)), (1, .int ee), (2, .int kb), (3, .int (nI i))] → W p l e (headSpec wsX3_firstBeyond ({ frames := 2, cells := 0, slots := 0, locals := 52 })).room s m ([.ref (Z 0), .int ee, .int kb]).toArray below meth c s.heap locs 0 0 (MQ below (rd_Qi s.heap (fun r => r = fbF g ee kb n 0)) ([.ref (Z 0), .int ee, .int kb]).toArray s 0 0 nF) (F0 m 2 ls []) := by
    intro z
    induction z with
    | zero =>
      intro i locs ls h1 h2 hv hS hl
      exact absurd h2 (by omega)
    | succ z ih =>
      intro i locs ls h1 h2 hv hS hl
      refine lv_iload_n hx hb dX3_firstBeyond_2 rfl (lv_at hl 3 rfl) ?_
      refine lv_aload_n hx hb dX3_firstBeyond_3 rfl (lv_at hl 0 rfl) ?_
      refine va_get (D := (dC, dI)) (ci := 4) (v := .int (nI n)) (C := RX3) (T := TX3) (N := 19) hx hb hts miX3_firstBeyond_X3 hown hK hP 0 rfl rfl 1 (by decide) (hts (.fieldLink RX3 44 "SectionFibresModel" "fibres" "I") mbX3_firstBeyond_1) (fun _ h9 => h9) rfl dX3_firstBeyond_4 ?_
      refine lv_icmp_ge (tgt := 28) hx hb dX3_firstBeyond_7 (by decide) (fun c1 => ?_) (fun c1 => ?_)
      · have hi : i = n := by have h9 := (nI_leI (by omega) (by omega)).mp c1; omega
        refine lv_iconst (v := (-1)) hx hb dX3_firstBeyond_28 (by decide) ?_
        exact W.iret (v := (-1)) hx hb hr (fun t9 ht9 hW9 => ⟨⟨_, (), rfl, (by rw [hv, hi, Nat.sub_self]; rfl), ht9⟩, hS.F ht9⟩) hS.2.2 dX3_firstBeyond_29
      · have hi : i < n := by rcases Nat.lt_or_ge i n with h9 | h9; exact h9; exact absurd (nI_le h9 (by omega)) c1
        refine lv_aload_n hx hb dX3_firstBeyond_10 rfl (lv_at hl 0 rfl) ?_
        refine lv_iload_n hx hb dX3_firstBeyond_11 rfl (lv_at hl 3 rfl) ?_
        refine lv_iload_n hx hb dX3_firstBeyond_12 rfl (lv_at hl 1 rfl) ?_
        refine lv_iload_n hx hb dX3_firstBeyond_13 rfl (lv_at hl 2 rfl) ?_
        refine rd_i (va_runV (As := [.int (nI i), .int ee, .int kb]) (rest := []) ⟨hx, hb, hml, hown, hts⟩ (c_X3_isBeyond l dC dI cA s.heap Z g n th hs pe pk fo mo fE fK hP hg i (by omega) ee kb hee hkb) (cwV 3 hts gX3_firstBeyond_X3_isBeyond rfl rfl rfl (by decide +kernel) ⟨Nat.le_of_ble_eq_true rfl, Nat.le_of_ble_eq_true rfl⟩) ⟨rd_bl, va_recv hK hP (ci := 4) (q0 := 0) rfl rfl, rd_pre hK hN⟩ rfl rfl hl.1 rfl (lv_room (Nat.le_of_ble_eq_true rfl)) dX3_firstBeyond_14 ⟨Nat.zero_le _, Nat.zero_le _⟩) hS (fun r1 locs hq2 hS => ?_)
        rcases hq2 with ⟨hq2, rfl⟩ | ⟨hq2, rfl⟩
        · have hq9 : byF g (g 2 i) (wkF g i ee kb) := hq2
          refine lv_if_eq (tgt := 22) hx hb dX3_firstBeyond_17 (by decide) (fun h9 => absurd h9 (by decide)) (fun _ => ?_)
          refine lv_iload_n hx hb dX3_firstBeyond_20 rfl (lv_at hl 3 rfl) ?_
          exact W.iret (v := (nI i)) hx hb hr (fun t9 ht9 hW9 => ⟨⟨_, (), rfl, (by rw [hv, show n - i = (n - (i + 1)) + 1 by omega, fbF_t hq9]), ht9⟩, hS.F ht9⟩) hS.2.2 dX3_firstBeyond_21
        · have hq9 : ¬ (byF g (g 2 i) (wkF g i ee kb)) := hq2
          refine lv_if_eq (tgt := 22) hx hb dX3_firstBeyond_17 (by decide) (fun _ => ?_) (fun h9 => absurd h9 (by decide))
          refine lv_iinc (v := nI (i + 1)) (lv' := [(3, .int (nI (i + 1))), (0, .ref (Z 0)), (1, .int ee), (2, .int kb)]) hx hb dX3_firstBeyond_22 hl (k := 3) rfl (nI_1 i) (by decide) rfl (fun ls hl => ?_)
          refine lv_goto (tgt := 2) hx hb dX3_firstBeyond_25 (by decide) ?_
          exact ih (i + 1) _ _ (by omega) (by omega) (by rw [hv, show n - i = (n - (i + 1)) + 1 by omega, fbF_f hq9]) hS (lv_sub hl [1, 2, 3, 0] rfl)
  exact lp (n + 1) 0 _ _ (Nat.zero_le _) (by omega) rfl hS (lv_sub hl [1, 2, 3, 0] rfl)

set_option maxRecDepth 20000 in
theorem miX3_sum_X3 : ∀ w ∈ u_ws RX3 TX3 19, w ∈ wsX3_sum := by decide +kernel
set_option maxRecDepth 20000 in
theorem mbX3_sum_1 : (.fieldLink RX3 44 "SectionFibresModel" "fibres" "I" : Cond) ∈ wsX3_sum := by decide +kernel
set_option maxRecDepth 20000 in
theorem mbX3_sum_2 : (.fieldLink RX3 7 "SectionFibresModel" "areas" "[I" : Cond) ∈ wsX3_sum := by decide +kernel
set_option maxRecDepth 20000 in
theorem mbX3_sum_3 : (.fieldLink RX3 13 "SectionFibresModel" "places" "[I" : Cond) ∈ wsX3_sum := by decide +kernel
set_option maxHeartbeats 4000000 in
set_option maxRecDepth 100000 in
theorem c_X3_sum (l : Launch) (dC : Nat → ClassId) (dI : Nat → Nat → Nat) (cA : ClassId) (H : Heap) (Z : Nat → Nat) (g : Gg) (n : Nat) (th hs pe pk : Int32) (fo mo : Int64) (fE fK : Int32) (hP : va_P (dC, dI) vwCl (wR cA Z g n th hs pe pk fo mo fE fK) H) (hg : InvG g) (hn : n ≤ 41) (ee kb : Int32) (hee : rg ee (-20000) 20000) (hkb : rg kb (-20000) 20000) (w : Bool) (wh : Int32) (hw : ¬ wh = 0 ↔ w = true) : Met l yX3_sum wsX3_sum ({ frames := 2, cells := 0, slots := 0, locals := 50 }) (rd_P [.ref (Z 0), .int ee, .int kb, .int wh] H (dC, dI) vwCl [(cA, .int)]) (rd_Ql H (fun r => r = smF g w ee kb n)) 0 0 nF := by
  refine Met.ofW (cc := cX3_sum) (maxL := 7) (ret := (some .long)) (by decide) rfl ?_
  intro p e s m args below meth c s₁ B hml hv
  obtain ⟨rfl, hH, hK, hN⟩ := hv
  subst hH
  have hx := B.exec
  have hb := B.bytes
  have hr := B.returns
  have hts := atoms_spec (ws := wsX3_sum) B.pre
  have hown : s.vm.findClass RX3 = some m.cls := findClass_of_methodNamed B.named
  have hlocks := B.notSynchronized
  have hS : va_S nF s.heap s.heap [] := va_S.rf
  have hl := lv_entry ([.ref (Z 0), .int ee, .int kb, .int wh]) (n := 7) (Nat.le_of_ble_eq_true rfl)
  rw [lg_entry_eq]
  generalize (lg_sl ([.ref (Z 0), .int ee, .int kb, .int wh]) ++ List.replicate (7 - (lg_sl ([.ref (Z 0), .int ee, .int kb, .int wh])).length) Slot.unset).toArray = ls at hl ⊢
  have hl : lv_has ls 7 [(0, .ref (Z 0)), (1, .int ee), (2, .int kb), (3, .int wh)] := hl
  refine lv_lconst (v := 0) hx hb dX3_sum_0 (by decide) ?_
  refine lv_lstore (lv' := [(4, .long 0), (0, .ref (Z 0)), (1, .int ee), (2, .int kb), (3, .int wh)]) hx hb dX3_sum_1 hl (by decide) rfl (fun ls hl => ?_)
  refine lv_iconst (v := 0) hx hb dX3_sum_3 (by decide) ?_
  refine tp_i (v := nI 0) (rfl) ?_
  refine lv_istore (lv' := [(6, .int (nI 0)), (4, .long 0), (0, .ref (Z 0)), (1, .int ee), (2, .int kb), (3, .int wh)]) hx hb dX3_sum_4 hl (by decide) rfl (fun ls hl => ?_)
  have lp : ∀ (z : Nat) (i : Nat) (locs : List Loc) (ls : Array Slot), i ≤ n → n + 1 ≤ i + z → va_S nF s.heap s.heap locs → lv_has ls 7 [(0, .ref (Z 0)), (1, .int ee), (2, .int kb), (3, .int wh), (4, .long (smF g w ee kb i)), (6, .int (nI i))] → W p l e (headSpec wsX3_sum ({ frames := 2, cells := 0, slots := 0, locals := 50 })).room s m ([.ref (Z 0), .int ee, .int kb, .int wh]).toArray below meth c s.heap locs 0 0 (MQ below (rd_Ql s.heap (fun r => r = smF g w ee kb n)) ([.ref (Z 0), .int ee, .int kb, .int wh]).toArray s 0 0 nF) (F0 m 6 ls []) := by
    intro z
    induction z with
    | zero =>
      intro i locs ls h1 h2 hS hl
      exact absurd h2 (by omega)
    | succ z ih =>
      intro i locs ls h1 h2 hS hl
      refine lv_iload hx hb dX3_sum_6 (lv_at hl 5 rfl) ?_
      refine lv_aload_n hx hb dX3_sum_8 rfl (lv_at hl 0 rfl) ?_
      refine va_get (D := (dC, dI)) (ci := 4) (v := .int (nI n)) (C := RX3) (T := TX3) (N := 19) hx hb hts miX3_sum_X3 hown hK hP 0 rfl rfl 1 (by decide) (hts (.fieldLink RX3 44 "SectionFibresModel" "fibres" "I") mbX3_sum_1) (fun _ h9 => h9) rfl dX3_sum_9 ?_
      refine lv_icmp_ge (tgt := 61) hx hb dX3_sum_12 (by decide) (fun c1 => ?_) (fun c1 => ?_)
      · have hi : i = n := by have h9 := (nI_leI (by omega) (by omega)).mp c1; omega
        refine lv_lload hx hb dX3_sum_61 (lv_at hl 4 rfl) ?_
        exact W.lret (v := (smF g w ee kb i)) hx hb hr (fun t9 ht9 hW9 => ⟨⟨_, (), rfl, (by rw [hi]), ht9⟩, hS.F ht9⟩) hS.2.2 dX3_sum_63
      · have hi : i < n := by rcases Nat.lt_or_ge i n with h9 | h9; exact h9; exact absurd (nI_le h9 (by omega)) c1
        refine lv_lload hx hb dX3_sum_15 (lv_at hl 4 rfl) ?_
        refine lv_aload_n hx hb dX3_sum_17 rfl (lv_at hl 0 rfl) ?_
        refine va_get (D := (dC, dI)) (ci := 4) (v := .ref (Z 1)) (C := RX3) (T := TX3) (N := 19) hx hb hts miX3_sum_X3 hown hK hP 0 rfl rfl 2 (by decide) (hts (.fieldLink RX3 7 "SectionFibresModel" "areas" "[I") mbX3_sum_2) (fun _ h9 => h9) rfl dX3_sum_18 ?_
        refine lv_iload hx hb dX3_sum_21 (lv_at hl 5 rfl) ?_
        refine ialn hx hb hK hP 1 0 rfl rfl i (rfl) (by omega) (by decide) dX3_sum_23 ?_
        refine lv_i2l hx hb dX3_sum_24 rfl ?_
        refine lv_aload_n hx hb dX3_sum_25 rfl (lv_at hl 0 rfl) ?_
        refine lv_iload hx hb dX3_sum_26 (lv_at hl 5 rfl) ?_
        refine lv_iload_n hx hb dX3_sum_28 rfl (lv_at hl 1 rfl) ?_
        refine lv_iload_n hx hb dX3_sum_29 rfl (lv_at hl 2 rfl) ?_
        refine rd_i (va_runV (As := [.int (nI i), .int ee, .int kb]) (rest := [.long ((g 0 i).toInt64), .long (smF g w ee kb i)]) ⟨hx, hb, hml, hown, hts⟩ (c_X3_stressOf l dC dI cA s.heap Z g n th hs pe pk fo mo fE fK hP hg i (by omega) ee kb hee hkb) (cwV 3 hts gX3_sum_X3_stressOf rfl rfl rfl (by decide +kernel) ⟨Nat.le_of_ble_eq_true rfl, Nat.le_of_ble_eq_true rfl⟩) ⟨rd_bl, va_recv hK hP (ci := 4) (q0 := 0) rfl rfl, rd_pre hK hN⟩ rfl rfl hl.1 rfl (lv_room (Nat.le_of_ble_eq_true rfl)) dX3_sum_30 ⟨Nat.zero_le _, Nat.zero_le _⟩) hS (fun r1 locs hq2 hS => ?_)
        have hq2 : r1 = stF g i ee kb := hq2
        subst hq2
        refine lv_i2l hx hb dX3_sum_33 rfl ?_
        refine lv_lmul hx hb dX3_sum_34 ?_
        refine lv_iload_n hx hb dX3_sum_35 rfl (lv_at hl 3 rfl) ?_
        refine lv_if_eq (tgt := 49) hx hb dX3_sum_36 (by decide) (fun c2 => ?_) (fun c2 => ?_)
        · refine lv_iconst (v := 1) hx hb dX3_sum_49 (by decide) ?_
          refine lv_i2l hx hb dX3_sum_50 rfl ?_
          refine tp_l (v := 1) (by decide) ?_
          refine lv_lmul hx hb dX3_sum_51 ?_
          refine lv_ladd hx hb dX3_sum_52 ?_
          refine tp_l (v := smF g w ee kb (i + 1)) (by rw [Int64.mul_one, Bool.eq_false_iff.mpr (fun h9 => hw.mpr h9 c2)]; rfl) ?_
          refine lv_lstore (lv' := [(4, .long (smF g w ee kb (i + 1))), (0, .ref (Z 0)), (1, .int ee), (2, .int kb), (3, .int wh), (6, .int (nI i))]) hx hb dX3_sum_53 hl (by decide) rfl (fun ls hl => ?_)
          refine lv_iinc (v := nI (i + 1)) (lv' := [(6, .int (nI (i + 1))), (4, .long (smF g w ee kb (i + 1))), (0, .ref (Z 0)), (1, .int ee), (2, .int kb), (3, .int wh)]) hx hb dX3_sum_55 hl (k := 5) rfl (nI_1 i) (by decide) rfl (fun ls hl => ?_)
          refine lv_goto (tgt := 6) hx hb dX3_sum_58 (by decide) ?_
          exact ih (i + 1) _ _ (by omega) (by omega) hS (lv_sub hl [2, 3, 4, 5, 1, 0] rfl)
        · refine lv_aload_n hx hb dX3_sum_39 rfl (lv_at hl 0 rfl) ?_
          refine va_get (D := (dC, dI)) (ci := 4) (v := .ref (Z 2)) (C := RX3) (T := TX3) (N := 19) hx hb hts miX3_sum_X3 hown hK hP 0 rfl rfl 3 (by decide) (hts (.fieldLink RX3 13 "SectionFibresModel" "places" "[I") mbX3_sum_3) (fun _ h9 => h9) rfl dX3_sum_40 ?_
          refine lv_iload hx hb dX3_sum_43 (lv_at hl 5 rfl) ?_
          refine ialn hx hb hK hP 2 0 rfl rfl i (rfl) (by omega) (by decide) dX3_sum_45 ?_
          refine lv_goto (tgt := 50) hx hb dX3_sum_46 (by decide) ?_
          refine lv_i2l hx hb dX3_sum_50 rfl ?_
          refine lv_lmul hx hb dX3_sum_51 ?_
          refine lv_ladd hx hb dX3_sum_52 ?_
          refine tp_l (v := smF g w ee kb (i + 1)) (by rw [hw.mp c2]; rfl) ?_
          refine lv_lstore (lv' := [(4, .long (smF g w ee kb (i + 1))), (0, .ref (Z 0)), (1, .int ee), (2, .int kb), (3, .int wh), (6, .int (nI i))]) hx hb dX3_sum_53 hl (by decide) rfl (fun ls hl => ?_)
          refine lv_iinc (v := nI (i + 1)) (lv' := [(6, .int (nI (i + 1))), (4, .long (smF g w ee kb (i + 1))), (0, .ref (Z 0)), (1, .int ee), (2, .int kb), (3, .int wh)]) hx hb dX3_sum_55 hl (k := 5) rfl (nI_1 i) (by decide) rfl (fun ls hl => ?_)
          refine lv_goto (tgt := 6) hx hb dX3_sum_58 (by decide) ?_
          exact ih (i + 1) _ _ (by omega) (by omega) hS (lv_sub hl [2, 3, 4, 5, 1, 0] rfl)
  exact lp (n + 1) 0 _ _ (Nat.zero_le _) (by omega) hS (lv_sub hl [2, 3, 4, 5, 1, 0] rfl)

set_option maxRecDepth 20000 in
theorem mbX3_balanceOf_0 : (.constant RX3 64 (-1000000) : Cond) ∈ wsX3_balanceOf := by decide +kernel
set_option maxHeartbeats 4000000 in
set_option maxRecDepth 100000 in
theorem c_X3_balanceOf (l : Launch) (dC : Nat → ClassId) (dI : Nat → Nat → Nat) (cA : ClassId) (H : Heap) (Z : Nat → Nat) (g : Gg) (n : Nat) (th hs pe pk : Int32) (fo mo : Int64) (fE fK : Int32) (hP : va_P (dC, dI) vwCl (wR cA Z g n th hs pe pk fo mo fE fK) H) (hg : InvG g) (hn : n ≤ 41) (fr : Int64) (kb : Int32) (hkb : rg kb (-20000) 20000) : Met l yX3_balanceOf wsX3_balanceOf ({ frames := 3, cells := 0, slots := 0, locals := 76 }) (rd_P [.ref (Z 0), .long fr, .int kb] H (dC, dI) vwCl [(cA, .int)]) (rd_Qi H (fun r => r = blF g n fr kb)) 0 0 nF := by
  refine Met.ofW (cc := cX3_balanceOf) (maxL := 7) (ret := (some .int)) (by decide) rfl ?_
  intro p e s m args below meth c s₁ B hml hv
  obtain ⟨rfl, hH, hK, hN⟩ := hv
  subst hH
  have hx := B.exec
  have hb := B.bytes
  have hr := B.returns
  have hts := atoms_spec (ws := wsX3_balanceOf) B.pre
  have hown : s.vm.findClass RX3 = some m.cls := findClass_of_methodNamed B.named
  have hlocks := B.notSynchronized
  have hS : va_S nF s.heap s.heap [] := va_S.rf
  have hl := lv_entry ([.ref (Z 0), .long fr, .int kb]) (n := 7) (Nat.le_of_ble_eq_true rfl)
  rw [lg_entry_eq]
  generalize (lg_sl ([.ref (Z 0), .long fr, .int kb]) ++ List.replicate (7 - (lg_sl ([.ref (Z 0), .long fr, .int kb])).length) Slot.unset).toArray = ls at hl ⊢
  have hl : lv_has ls 7 [(0, .ref (Z 0)), (1, .long fr), (3, .int kb)] := hl
  refine lv_aload_n hx hb dX3_balanceOf_0 rfl (lv_at hl 0 rfl) ?_
  refine lv_sipush (v := 20000) hx hb dX3_balanceOf_1 (by decide) ?_
  refine tp_i (v := iI 20000) (by decide) ?_
  refine lv_iload_n hx hb dX3_balanceOf_4 rfl (lv_at hl 2 rfl) ?_
  refine lv_iconst (v := 0) hx hb dX3_balanceOf_5 (by decide) ?_
  refine rd_l (va_runV (As := [.int (iI 20000), .int kb, .int 0]) (rest := []) ⟨hx, hb, hml, hown, hts⟩ (c_X3_sum l dC dI cA s.heap Z g n th hs pe pk fo mo fE fK hP hg hn (iI 20000) kb (rgI (by omega) (by omega)) hkb false 0 (by decide)) (cwV 3 hts gX3_balanceOf_X3_sum rfl rfl rfl (by decide +kernel) ⟨Nat.le_of_ble_eq_true rfl, Nat.le_of_ble_eq_true rfl⟩) ⟨rd_bl, va_recv hK hP (ci := 4) (q0 := 0) rfl rfl, rd_pre hK hN⟩ rfl rfl hl.1 rfl (lv_room (Nat.le_of_ble_eq_true rfl)) dX3_balanceOf_6 ⟨Nat.zero_le _, Nat.zero_le _⟩) hS (fun r1 locs hq2 hS => ?_)
  have hq2 : r1 = smF g false (iI 20000) kb n := hq2
  subst hq2
  refine lv_lload_n hx hb dX3_balanceOf_9 rfl (lv_at hl 1 rfl) ?_
  refine W.lcmp hx hb dX3_balanceOf_10 ?_
  refine lv_if_ge (tgt := 17) hx hb dX3_balanceOf_11 (by decide) (fun c1 => ?_) (fun c1 => ?_)
  · have c1 := (lg_cmp_ge _ _).mp c1
    refine lv_sipush (v := (-20000)) hx hb dX3_balanceOf_17 (by decide) ?_
    refine tp_i (v := iI (-20000)) (by decide) ?_
    refine lv_istore (lv' := [(4, .int (iI (-20000))), (0, .ref (Z 0)), (1, .long fr), (3, .int kb)]) hx hb dX3_balanceOf_20 hl (by decide) rfl (fun ls hl => ?_)
    refine lv_sipush (v := 20000) hx hb dX3_balanceOf_22 (by decide) ?_
    refine tp_i (v := iI 20000) (by decide) ?_
    refine lv_istore (lv' := [(5, .int (iI 20000)), (4, .int (iI (-20000))), (0, .ref (Z 0)), (1, .long fr), (3, .int kb)]) hx hb dX3_balanceOf_25 hl (by decide) rfl (fun ls hl => ?_)
    have lp : ∀ (z : Nat) (a : Int) (b : Int) (u : Nat) (locs : List Loc) (ls : Array Slot), -20000 ≤ a → a ≤ 20000 → -20000 ≤ b → b ≤ 20000 → a ≤ b → b - a < z → b - a < 2 ^ u → bsF (fun x => fr ≤ smF g false (iI x) kb n) 32 (-20000) 20000 = bsF (fun x => fr ≤ smF g false (iI x) kb n) u a b → va_S nF s.heap s.heap locs → lv_has ls 7 [(0, .ref (Z 0)), (1, .long fr), (3, .int kb), (4, .int (iI a)), (5, .int (iI b))] → W p l e (headSpec wsX3_balanceOf ({ frames := 3, cells := 0, slots := 0, locals := 76 })).room s m ([.ref (Z 0), .long fr, .int kb]).toArray below meth c s.heap locs 0 0 (MQ below (rd_Qi s.heap (fun r => r = blF g n fr kb)) ([.ref (Z 0), .long fr, .int kb]).toArray s 0 0 nF) (F0 m 27 ls []) := by
      intro z
      induction z with
      | zero =>
        intro a b u locs ls a1 a2 b1 b2 h1 h2 h3 hv hS hl
        exact absurd h2 (by omega)
      | succ z ih =>
        intro a b u locs ls a1 a2 b1 b2 h1 h2 h3 hv hS hl
        refine lv_iload hx hb dX3_balanceOf_27 (lv_at hl 3 rfl) ?_
        refine lv_iload hx hb dX3_balanceOf_29 (lv_at hl 4 rfl) ?_
        refine lv_icmp_ge (tgt := 75) hx hb dX3_balanceOf_31 (by decide) (fun c3 => ?_) (fun c3 => ?_)
        · have hab : ¬ a < b := by have h9 := (iI_le (by omega) (by omega) (by omega) (by omega)).mp c3; omega
          refine lv_iload hx hb dX3_balanceOf_75 (lv_at hl 3 rfl) ?_
          exact W.iret (v := (iI a)) hx hb hr (fun t9 ht9 hW9 => ⟨⟨_, (), rfl, (by unfold blF; rw [if_neg (le_nlt64 c1), hv, bs_end hab]), ht9⟩, hS.F ht9⟩) hS.2.2 dX3_balanceOf_77
        · have hab : a < b := by rcases Int.lt_or_le a b with h9 | h9; exact h9; exact absurd ((iI_le (by omega) (by omega) (by omega) (by omega)).mpr h9) c3
          have hu : 0 < u := by
            rcases Nat.eq_zero_or_pos u with h9 | h9
            · rw [h9] at h3; have h8 : (2 : Int) ^ 0 = 1 := rfl; omega
            · exact h9
          obtain ⟨v, rfl⟩ : ∃ v, u = v + 1 := ⟨u - 1, by omega⟩
          rw [Int.pow_succ] at h3
          refine lv_iload hx hb dX3_balanceOf_34 (lv_at hl 3 rfl) ?_
          refine lv_iload hx hb dX3_balanceOf_36 (lv_at hl 4 rfl) ?_
          refine lv_iload hx hb dX3_balanceOf_38 (lv_at hl 3 rfl) ?_
          refine lv_isub hx hb dX3_balanceOf_40 ?_
          refine lv_iconst (v := 2) hx hb dX3_balanceOf_41 (by decide) ?_
          refine lv_idiv hx hb dX3_balanceOf_42 (by decide) ?_
          refine lv_iadd hx hb dX3_balanceOf_43 ?_
          refine tp_i (v := iI ((a + b) / 2)) (midR a1 a2 b1 b2 hab) ?_
          refine lv_istore (lv' := [(6, .int (iI ((a + b) / 2))), (0, .ref (Z 0)), (1, .long fr), (3, .int kb), (4, .int (iI a)), (5, .int (iI b))]) hx hb dX3_balanceOf_44 hl (by decide) rfl (fun ls hl => ?_)
          refine lv_aload_n hx hb dX3_balanceOf_46 rfl (lv_at hl 1 rfl) ?_
          refine lv_iload hx hb dX3_balanceOf_47 (lv_at hl 0 rfl) ?_
          refine lv_iload_n hx hb dX3_balanceOf_49 rfl (lv_at hl 3 rfl) ?_
          refine lv_iconst (v := 0) hx hb dX3_balanceOf_50 (by decide) ?_
          refine rd_l (va_runV (As := [.int (iI ((a + b) / 2)), .int kb, .int 0]) (rest := []) ⟨hx, hb, hml, hown, hts⟩ (c_X3_sum l dC dI cA s.heap Z g n th hs pe pk fo mo fE fK hP hg hn (iI ((a + b) / 2)) kb (rgI (by omega) (by omega)) hkb false 0 (by decide)) (cwV 3 hts gX3_balanceOf_X3_sum rfl rfl rfl (by decide +kernel) ⟨Nat.le_of_ble_eq_true rfl, Nat.le_of_ble_eq_true rfl⟩) ⟨rd_bl, va_recv hK hP (ci := 4) (q0 := 0) rfl rfl, rd_pre hK hN⟩ rfl rfl hl.1 rfl (lv_room (Nat.le_of_ble_eq_true rfl)) dX3_balanceOf_51 ⟨Nat.zero_le _, Nat.zero_le _⟩) hS (fun r3 locs hq4 hS => ?_)
          have hq4 : r3 = smF g false (iI ((a + b) / 2)) kb n := hq4
          subst hq4
          refine lv_lload_n hx hb dX3_balanceOf_54 rfl (lv_at hl 2 rfl) ?_
          refine W.lcmp hx hb dX3_balanceOf_55 ?_
          refine lv_if_lt (tgt := 66) hx hb dX3_balanceOf_56 (by decide) (fun c4 => ?_) (fun c4 => ?_)
          · have c4 := (lg_cmp_lt _ _).mp c4
            refine lv_iload hx hb dX3_balanceOf_66 (lv_at hl 0 rfl) ?_
            refine lv_iconst (v := 1) hx hb dX3_balanceOf_68 (by decide) ?_
            refine lv_iadd hx hb dX3_balanceOf_69 ?_
            refine tp_i (v := iI ((a + b) / 2 + 1)) (by rw [← iI_ad]; rfl) ?_
            refine lv_istore (lv' := [(4, .int (iI ((a + b) / 2 + 1))), (6, .int (iI ((a + b) / 2))), (0, .ref (Z 0)), (1, .long fr), (3, .int kb), (5, .int (iI b))]) hx hb dX3_balanceOf_70 hl (by decide) rfl (fun ls hl => ?_)
            refine lv_goto (tgt := 27) hx hb dX3_balanceOf_72 (by decide) ?_
            exact ih ((a + b) / 2 + 1) b v _ _ (by omega) (by omega) b1 b2 (by omega) (by omega) (by omega) (by rw [hv, bs_f hab (lt_nle64 c4)]) hS (lv_sub hl [2, 3, 4, 0, 5] rfl)
          · have c4 := mt (lg_cmp_lt _ _).mpr c4
            refine lv_iload hx hb dX3_balanceOf_59 (lv_at hl 0 rfl) ?_
            refine lv_istore (lv' := [(5, .int (iI ((a + b) / 2))), (6, .int (iI ((a + b) / 2))), (0, .ref (Z 0)), (1, .long fr), (3, .int kb), (4, .int (iI a))]) hx hb dX3_balanceOf_61 hl (by decide) rfl (fun ls hl => ?_)
            refine lv_goto (tgt := 72) hx hb dX3_balanceOf_63 (by decide) ?_
            refine lv_goto (tgt := 27) hx hb dX3_balanceOf_72 (by decide) ?_
            exact ih a ((a + b) / 2) v _ _ a1 a2 (by omega) (by omega) (by omega) (by omega) (by omega) (by rw [hv, bs_t hab (nlt_le64 c4)]) hS (lv_sub hl [2, 3, 4, 5, 0] rfl)
    exact lp 40001 (-20000) 20000 32 _ _ (by omega) (by omega) (by omega) (by omega) (by omega) (by omega) (by decide) rfl hS (lv_sub hl [2, 3, 4, 1, 0] rfl)
  · have c1 := mt (lg_cmp_ge _ _).mpr c1
    refine lv_ldc hx hb hown (hts (.constant RX3 64 (-1000000)) mbX3_balanceOf_0) dX3_balanceOf_14 ?_
    exact W.iret (v := (-1000000)) hx hb hr (fun t9 ht9 hW9 => ⟨⟨_, (), rfl, (by unfold blF; rw [if_pos (nle_lt64 c1)]), ht9⟩, hS.F ht9⟩) hS.2.2 dX3_balanceOf_16
