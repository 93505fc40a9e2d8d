/-- the class's cells hold the state u -/
abbrev bC (dC : Nat → ClassId) (dI : Nat → Nat → Nat) (cA : ClassId) (A : Nat → Nat) (u : St) (H : Heap) : Prop := va_P (dC, dI) vwCl (wC cA A u.1 u.2.1 u.2.2.1 u.2.2.2.1 u.2.2.2.2.1 u.2.2.2.2.2.1 u.2.2.2.2.2.2) H

set_option maxRecDepth 20000 in
theorem miX1_add_X1 : ∀ w ∈ u_ws RX1 TX1 7, w ∈ wsX1_add := by decide +kernel
set_option maxRecDepth 20000 in
theorem mbX1_add_1 : (.fieldLink RX1 34 "SectionFibres$Section" "size" "I" : Cond) ∈ wsX1_add := by decide +kernel
set_option maxRecDepth 20000 in
theorem mbX1_add_2 : (.fieldLink RX1 18 "SectionFibres$Section" "areas" "[I" : Cond) ∈ wsX1_add := by decide +kernel
set_option maxRecDepth 20000 in
theorem mbX1_add_3 : (.fieldLink RX1 22 "SectionFibres$Section" "places" "[I" : Cond) ∈ wsX1_add := by decide +kernel
set_option maxRecDepth 20000 in
theorem mbX1_add_4 : (.fieldLink RX1 25 "SectionFibres$Section" "kindOf" "[I" : Cond) ∈ wsX1_add := by decide +kernel
set_option maxRecDepth 20000 in
theorem mbX1_add_5 : (.fieldLink RX1 28 "SectionFibres$Section" "births" "[I" : Cond) ∈ wsX1_add := by decide +kernel
set_option maxRecDepth 20000 in
theorem mbX1_add_6 : (.fieldLink RX1 31 "SectionFibres$Section" "kept" "[I" : Cond) ∈ wsX1_add := by decide +kernel
set_option maxHeartbeats 4000000 in
set_option maxRecDepth 100000 in
theorem c_X1_add (l : Launch) (dC : Nat → ClassId) (dI : Nat → Nat → Nat) (cA : ClassId) (H : Heap) (A : Nat → Nat) (g : Gg) (n : Nat) (hs pe pk : Int32) (fo mo : Int64) (hP : va_P (dC, dI) vwCl (wC cA A g n hs pe pk fo mo) H) (hD : va_D (fun _ => True) (wC cA A g n hs pe pk fo mo)) (hn : n ≤ 40) (ar at_ kd : Int32) : Met l yX1_add wsX1_add ({ frames := 0, cells := 0, slots := 0, locals := 0 }) (rd_P [.ref (A 1), .int ar, .int at_, .int kd] H (dC, dI) vwCl [(cA, .int)]) (va_Qv (fun (u : St) => u = (layG g n ar at_ kd, n + 1, hs, pe, pk, fo, mo)) (fun u t => bC dC dI cA A u t.heap) (va_A (wC cA A g n hs pe pk fo mo) H.size)) 0 0 (va_A (wC cA A g n hs pe pk fo mo) H.size) := by
  refine Met.ofW (cc := cX1_add) (maxL := 4) (ret := none) (by decide) rfl ?_
  intro p e s m args below meth c s₁ B hml hv
  obtain ⟨rfl, hH, hK, hN⟩ := hv
  subst hH
  have hx := B.exec
  have hb := B.bytes
  have hr := B.returns
  have hts := atoms_spec (ws := wsX1_add) B.pre
  have hown : s.vm.findClass RX1 = some m.cls := findClass_of_methodNamed B.named
  have hlocks := B.notSynchronized
  have hD := hD.self (sz := s.heap.size)
  generalize hAe : va_A (wC cA A g n hs pe pk fo mo) s.heap.size = Av at hD ⊢
  have hA : ∀ q : Nat, s.heap.size ≤ q → Av q := fun q h => by rw [← hAe]; exact Or.inr h
  have hS : va_S Av s.heap s.heap [] := va_S.rf
  have hl := lv_entry ([.ref (A 1), .int ar, .int at_, .int kd]) (n := 4) (Nat.le_of_ble_eq_true rfl)
  rw [lg_entry_eq]
  generalize (lg_sl ([.ref (A 1), .int ar, .int at_, .int kd]) ++ List.replicate (4 - (lg_sl ([.ref (A 1), .int ar, .int at_, .int kd])).length) Slot.unset).toArray = ls at hl ⊢
  have hl : lv_has ls 4 [(0, .ref (A 1)), (1, .int ar), (2, .int at_), (3, .int kd)] := hl
  refine lv_aload_n hx hb dX1_add_0 rfl (lv_at hl 0 rfl) ?_
  refine va_get (D := (dC, dI)) (ci := 2) (v := .int (nI n)) (C := RX1) (T := TX1) (N := 7) hx hb hts miX1_add_X1 hown hK hP 1 rfl rfl 6 (by decide) (hts (.fieldLink RX1 34 "SectionFibres$Section" "size" "I") mbX1_add_1) (fun _ h9 => h9) rfl dX1_add_1 ?_
  refine lv_bipush (v := 41) hx hb dX1_add_4 (by decide) ?_
  refine lv_icmp_lt (tgt := 10) hx hb dX1_add_6 (by decide) (fun _ => ?_) (fun h9 => absurd h9 (fun h8 => h8 (nI_lt (b := 41) (by omega) (by omega))))
  refine lv_aload_n hx hb dX1_add_10 rfl (lv_at hl 0 rfl) ?_
  refine va_get (D := (dC, dI)) (ci := 2) (v := .ref (A 3)) (C := RX1) (T := TX1) (N := 7) hx hb hts miX1_add_X1 hown hK hP 1 rfl rfl 1 (by decide) (hts (.fieldLink RX1 18 "SectionFibres$Section" "areas" "[I") mbX1_add_2) (fun _ h9 => h9) rfl dX1_add_11 ?_
  refine lv_aload_n hx hb dX1_add_14 rfl (lv_at hl 0 rfl) ?_
  refine va_get (D := (dC, dI)) (ci := 2) (v := .int (nI n)) (C := RX1) (T := TX1) (N := 7) hx hb hts miX1_add_X1 hown hK hP 1 rfl rfl 6 (by decide) (hts (.fieldLink RX1 34 "SectionFibres$Section" "size" "I") mbX1_add_1) (fun _ h9 => h9) rfl dX1_add_15 ?_
  refine lv_iload_n hx hb dX1_add_18 rfl (lv_at hl 1 rfl) ?_
  refine iasn hx hb hK hP hD hS 3 0 rfl rfl n (rfl) (by omega) (by decide) dX1_add_19 (fun H locs hP hD hS => ?_)
  have hP : va_P (dC, dI) vwCl (wC cA A (setG g 0 n ar) n hs pe pk fo mo) H := hP
  have hD : va_D Av (wC cA A (setG g 0 n ar) n hs pe pk fo mo) := hD
  refine lv_aload_n hx hb dX1_add_20 rfl (lv_at hl 0 rfl) ?_
  refine va_get (D := (dC, dI)) (ci := 2) (v := .ref (A 4)) (C := RX1) (T := TX1) (N := 7) hx hb hts miX1_add_X1 hown hK hP 1 rfl rfl 2 (by decide) (hts (.fieldLink RX1 22 "SectionFibres$Section" "places" "[I") mbX1_add_3) (fun _ h9 => h9) rfl dX1_add_21 ?_
  refine lv_aload_n hx hb dX1_add_24 rfl (lv_at hl 0 rfl) ?_
  refine va_get (D := (dC, dI)) (ci := 2) (v := .int (nI n)) (C := RX1) (T := TX1) (N := 7) hx hb hts miX1_add_X1 hown hK hP 1 rfl rfl 6 (by decide) (hts (.fieldLink RX1 34 "SectionFibres$Section" "size" "I") mbX1_add_1) (fun _ h9 => h9) rfl dX1_add_25 ?_
  refine lv_iload_n hx hb dX1_add_28 rfl (lv_at hl 2 rfl) ?_
  refine iasn hx hb hK hP hD hS 4 0 rfl rfl n (rfl) (by omega) (by decide) dX1_add_29 (fun H locs hP hD hS => ?_)
  have hP : va_P (dC, dI) vwCl (wC cA A (setG (setG g 0 n ar) 1 n at_) n hs pe pk fo mo) H := hP
  have hD : va_D Av (wC cA A (setG (setG g 0 n ar) 1 n at_) n hs pe pk fo mo) := hD
  refine lv_aload_n hx hb dX1_add_30 rfl (lv_at hl 0 rfl) ?_
  refine va_get (D := (dC, dI)) (ci := 2) (v := .ref (A 5)) (C := RX1) (T := TX1) (N := 7) hx hb hts miX1_add_X1 hown hK hP 1 rfl rfl 3 (by decide) (hts (.fieldLink RX1 25 "SectionFibres$Section" "kindOf" "[I") mbX1_add_4) (fun _ h9 => h9) rfl dX1_add_31 ?_
  refine lv_aload_n hx hb dX1_add_34 rfl (lv_at hl 0 rfl) ?_
  refine va_get (D := (dC, dI)) (ci := 2) (v := .int (nI n)) (C := RX1) (T := TX1) (N := 7) hx hb hts miX1_add_X1 hown hK hP 1 rfl rfl 6 (by decide) (hts (.fieldLink RX1 34 "SectionFibres$Section" "size" "I") mbX1_add_1) (fun _ h9 => h9) rfl dX1_add_35 ?_
  refine lv_iload_n hx hb dX1_add_38 rfl (lv_at hl 3 rfl) ?_
  refine iasn hx hb hK hP hD hS 5 0 rfl rfl n (rfl) (by omega) (by decide) dX1_add_39 (fun H locs hP hD hS => ?_)
  have hP : va_P (dC, dI) vwCl (wC cA A (setG (setG (setG g 0 n ar) 1 n at_) 2 n kd) n hs pe pk fo mo) H := hP
  have hD : va_D Av (wC cA A (setG (setG (setG g 0 n ar) 1 n at_) 2 n kd) n hs pe pk fo mo) := hD
  refine lv_aload_n hx hb dX1_add_40 rfl (lv_at hl 0 rfl) ?_
  refine va_get (D := (dC, dI)) (ci := 2) (v := .ref (A 6)) (C := RX1) (T := TX1) (N := 7) hx hb hts miX1_add_X1 hown hK hP 1 rfl rfl 4 (by decide) (hts (.fieldLink RX1 28 "SectionFibres$Section" "births" "[I") mbX1_add_5) (fun _ h9 => h9) rfl dX1_add_41 ?_
  refine lv_aload_n hx hb dX1_add_44 rfl (lv_at hl 0 rfl) ?_
  refine va_get (D := (dC, dI)) (ci := 2) (v := .int (nI n)) (C := RX1) (T := TX1) (N := 7) hx hb hts miX1_add_X1 hown hK hP 1 rfl rfl 6 (by decide) (hts (.fieldLink RX1 34 "SectionFibres$Section" "size" "I") mbX1_add_1) (fun _ h9 => h9) rfl dX1_add_45 ?_
  refine lv_iconst (v := 0) hx hb dX1_add_48 (by decide) ?_
  refine iasn hx hb hK hP hD hS 6 0 rfl rfl n (rfl) (by omega) (by decide) dX1_add_49 (fun H locs hP hD hS => ?_)
  have hP : va_P (dC, dI) vwCl (wC cA A (setG (setG (setG (setG g 0 n ar) 1 n at_) 2 n kd) 3 n 0) n hs pe pk fo mo) H := hP
  have hD : va_D Av (wC cA A (setG (setG (setG (setG g 0 n ar) 1 n at_) 2 n kd) 3 n 0) n hs pe pk fo mo) := hD
  refine lv_aload_n hx hb dX1_add_50 rfl (lv_at hl 0 rfl) ?_
  refine va_get (D := (dC, dI)) (ci := 2) (v := .ref (A 7)) (C := RX1) (T := TX1) (N := 7) hx hb hts miX1_add_X1 hown hK hP 1 rfl rfl 5 (by decide) (hts (.fieldLink RX1 31 "SectionFibres$Section" "kept" "[I") mbX1_add_6) (fun _ h9 => h9) rfl dX1_add_51 ?_
  refine lv_aload_n hx hb dX1_add_54 rfl (lv_at hl 0 rfl) ?_
  refine va_get (D := (dC, dI)) (ci := 2) (v := .int (nI n)) (C := RX1) (T := TX1) (N := 7) hx hb hts miX1_add_X1 hown hK hP 1 rfl rfl 6 (by decide) (hts (.fieldLink RX1 34 "SectionFibres$Section" "size" "I") mbX1_add_1) (fun _ h9 => h9) rfl dX1_add_55 ?_
  refine lv_bipush (v := 100) hx hb dX1_add_58 (by decide) ?_
  refine iasn hx hb hK hP hD hS 7 0 rfl rfl n (rfl) (by omega) (by decide) dX1_add_60 (fun H locs hP hD hS => ?_)
  have hP : va_P (dC, dI) vwCl (wC cA A (setG (setG (setG (setG (setG g 0 n ar) 1 n at_) 2 n kd) 3 n 0) 4 n 100) n hs pe pk fo mo) H := hP
  have hD : va_D Av (wC cA A (setG (setG (setG (setG (setG g 0 n ar) 1 n at_) 2 n kd) 3 n 0) 4 n 100) n hs pe pk fo mo) := hD
  refine lv_aload_n hx hb dX1_add_61 rfl (lv_at hl 0 rfl) ?_
  refine lv_dup hx hb dX1_add_62 rfl ?_
  refine va_get (D := (dC, dI)) (ci := 2) (v := .int (nI n)) (C := RX1) (T := TX1) (N := 7) hx hb hts miX1_add_X1 hown hK hP 1 rfl rfl 6 (by decide) (hts (.fieldLink RX1 34 "SectionFibres$Section" "size" "I") mbX1_add_1) (fun _ h9 => h9) rfl dX1_add_63 ?_
  refine lv_iconst (v := 1) hx hb dX1_add_66 (by decide) ?_
  refine lv_iadd hx hb dX1_add_67 ?_
  refine tp_i (v := nI (n + 1)) (nI_1 n) ?_
  refine va_put (D := (dC, dI)) (ci := 2) (v := .int (nI (n + 1))) (ty := .int) (C := RX1) (T := TX1) (N := 7) hx hb hts miX1_add_X1 tyX1 tyX1_ok nmX1 hown hK hP hD hS 1 rfl rfl 6 (by decide) (hts (.fieldLink RX1 34 "SectionFibres$Section" "size" "I") mbX1_add_1) (fun _ h9 => h9) rfl (by decide +kernel) rfl rfl (Nat.le_of_ble_eq_true rfl) dX1_add_68 (fun H locs hP hD hS => ?_)
  have hP : va_P (dC, dI) vwCl (wC cA A (setG (setG (setG (setG (setG g 0 n ar) 1 n at_) 2 n kd) 3 n 0) 4 n 100) (n + 1) hs pe pk fo mo) H := hP
  have hD : va_D Av (wC cA A (setG (setG (setG (setG (setG g 0 n ar) 1 n at_) 2 n kd) 3 n 0) 4 n 100) (n + 1) hs pe pk fo mo) := hD
  exact W.vret hx hb hr (fun t9 ht9 hW9 => ⟨⟨((setG (setG (setG (setG (setG g 0 n ar) 1 n at_) 2 n kd) 3 n 0) 4 n 100), n + 1, hs, pe, pk, fo, mo), rfl, rfl, by dsimp only; rw [ht9]; exact hP⟩, hS.F ht9⟩) hS.2.2 dX1_add_71

set_option maxRecDepth 20000 in
theorem miX1_setLastArea_X1 : ∀ w ∈ u_ws RX1 TX1 7, w ∈ wsX1_setLastArea := by decide +kernel
set_option maxRecDepth 20000 in
theorem mbX1_setLastArea_1 : (.fieldLink RX1 34 "SectionFibres$Section" "size" "I" : Cond) ∈ wsX1_setLastArea := by decide +kernel
set_option maxRecDepth 20000 in
theorem mbX1_setLastArea_2 : (.fieldLink RX1 18 "SectionFibres$Section" "areas" "[I" : Cond) ∈ wsX1_setLastArea := by decide +kernel
set_option maxHeartbeats 4000000 in
set_option maxRecDepth 100000 in
theorem c_X1_setLastArea (l : Launch) (dC : Nat → ClassId) (dI : Nat → Nat → Nat) (cA : ClassId) (H : Heap) (A : Nat → Nat) (g : Gg) (n : Nat) (hs pe pk : Int32) (fo mo : Int64) (hP : va_P (dC, dI) vwCl (wC cA A g n hs pe pk fo mo) H) (hD : va_D (fun _ => True) (wC cA A g n hs pe pk fo mo)) (hn : n ≤ 41) (hn1 : 1 ≤ n) (ar : Int32) : Met l yX1_setLastArea wsX1_setLastArea ({ frames := 0, cells := 0, slots := 0, locals := 0 }) (rd_P [.ref (A 1), .int ar] H (dC, dI) vwCl [(cA, .int)]) (va_Qv (fun (u : St) => u = (setG g 0 (n - 1) ar, n, hs, pe, pk, fo, mo)) (fun u t => bC dC dI cA A u t.heap) (va_A (wC cA A g n hs pe pk fo mo) H.size)) 0 0 (va_A (wC cA A g n hs pe pk fo mo) H.size) := by
  refine Met.ofW (cc := cX1_setLastArea) (maxL := 2) (ret := none) (by decide) rfl ?_
  intro p e s m args below meth c s₁ B hml hv
  obtain ⟨rfl, hH, hK, hN⟩ := hv
  subst hH
  have hx := B.exec
  have hb := B.bytes
  have hr := B.returns
  have hts := atoms_spec (ws := wsX1_setLastArea) B.pre
  have hown : s.vm.findClass RX1 = some m.cls := findClass_of_methodNamed B.named
  have hlocks := B.notSynchronized
  have hD := hD.self (sz := s.heap.size)
  generalize hAe : va_A (wC cA A g n hs pe pk fo mo) s.heap.size = Av at hD ⊢
  have hA : ∀ q : Nat, s.heap.size ≤ q → Av q := fun q h => by rw [← hAe]; exact Or.inr h
  have hS : va_S Av s.heap s.heap [] := va_S.rf
  have hl := lv_entry ([.ref (A 1), .int ar]) (n := 2) (Nat.le_of_ble_eq_true rfl)
  rw [lg_entry_eq]
  generalize (lg_sl ([.ref (A 1), .int ar]) ++ List.replicate (2 - (lg_sl ([.ref (A 1), .int ar])).length) Slot.unset).toArray = ls at hl ⊢
  have hl : lv_has ls 2 [(0, .ref (A 1)), (1, .int ar)] := hl
  refine lv_aload_n hx hb dX1_setLastArea_0 rfl (lv_at hl 0 rfl) ?_
  refine va_get (D := (dC, dI)) (ci := 2) (v := .int (nI n)) (C := RX1) (T := TX1) (N := 7) hx hb hts miX1_setLastArea_X1 hown hK hP 1 rfl rfl 6 (by decide) (hts (.fieldLink RX1 34 "SectionFibres$Section" "size" "I") mbX1_setLastArea_1) (fun _ h9 => h9) rfl dX1_setLastArea_1 ?_
  refine lv_if_le (tgt := 19) hx hb dX1_setLastArea_4 (by decide) (fun h9 => absurd h9 (nI_nle (by omega) (by omega))) (fun _ => ?_)
  refine lv_aload_n hx hb dX1_setLastArea_7 rfl (lv_at hl 0 rfl) ?_
  refine va_get (D := (dC, dI)) (ci := 2) (v := .ref (A 3)) (C := RX1) (T := TX1) (N := 7) hx hb hts miX1_setLastArea_X1 hown hK hP 1 rfl rfl 1 (by decide) (hts (.fieldLink RX1 18 "SectionFibres$Section" "areas" "[I") mbX1_setLastArea_2) (fun _ h9 => h9) rfl dX1_setLastArea_8 ?_
  refine lv_aload_n hx hb dX1_setLastArea_11 rfl (lv_at hl 0 rfl) ?_
  refine va_get (D := (dC, dI)) (ci := 2) (v := .int (nI n)) (C := RX1) (T := TX1) (N := 7) hx hb hts miX1_setLastArea_X1 hown hK hP 1 rfl rfl 6 (by decide) (hts (.fieldLink RX1 34 "SectionFibres$Section" "size" "I") mbX1_setLastArea_1) (fun _ h9 => h9) rfl dX1_setLastArea_12 ?_
  refine lv_iconst (v := 1) hx hb dX1_setLastArea_15 (by decide) ?_
  refine lv_isub hx hb dX1_setLastArea_16 ?_
  refine tp_i (v := nI (n - 1)) (by have h9 := nI_pred (n - 1); rwa [show n - 1 + 1 = n by omega] at h9) ?_
  refine lv_iload_n hx hb dX1_setLastArea_17 rfl (lv_at hl 1 rfl) ?_
  refine iasn hx hb hK hP hD hS 3 0 rfl rfl (n - 1) (rfl) (by omega) (by decide) dX1_setLastArea_18 (fun H locs hP hD hS => ?_)
  have hP : va_P (dC, dI) vwCl (wC cA A (setG g 0 (n - 1) ar) n hs pe pk fo mo) H := hP
  have hD : va_D Av (wC cA A (setG g 0 (n - 1) ar) n hs pe pk fo mo) := hD
  exact W.vret hx hb hr (fun t9 ht9 hW9 => ⟨⟨((setG g 0 (n - 1) ar), n, hs, pe, pk, fo, mo), rfl, rfl, by dsimp only; rw [ht9]; exact hP⟩, hS.F ht9⟩) hS.2.2 dX1_setLastArea_19

set_option maxRecDepth 20000 in
theorem miX1_dropLast_X1 : ∀ w ∈ u_ws RX1 TX1 7, w ∈ wsX1_dropLast := by decide +kernel
set_option maxRecDepth 20000 in
theorem mbX1_dropLast_1 : (.fieldLink RX1 34 "SectionFibres$Section" "size" "I" : Cond) ∈ wsX1_dropLast := by decide +kernel
set_option maxHeartbeats 4000000 in
set_option maxRecDepth 100000 in
theorem c_X1_dropLast (l : Launch) (dC : Nat → ClassId) (dI : Nat → Nat → Nat) (cA : ClassId) (H : Heap) (A : Nat → Nat) (g : Gg) (n : Nat) (hs pe pk : Int32) (fo mo : Int64) (hP : va_P (dC, dI) vwCl (wC cA A g n hs pe pk fo mo) H) (hD : va_D (fun _ => True) (wC cA A g n hs pe pk fo mo)) (hn : n ≤ 41) (hn1 : 1 ≤ n) : Met l yX1_dropLast wsX1_dropLast ({ frames := 0, cells := 0, slots := 0, locals := 0 }) (rd_P [.ref (A 1)] H (dC, dI) vwCl [(cA, .int)]) (va_Qv (fun (u : St) => u = (g, n - 1, hs, pe, pk, fo, mo)) (fun u t => bC dC dI cA A u t.heap) (va_A (wC cA A g n hs pe pk fo mo) H.size)) 0 0 (va_A (wC cA A g n hs pe pk fo mo) H.size) := by
  refine Met.ofW (cc := cX1_dropLast) (maxL := 1) (ret := none) (by decide) rfl ?_
  intro p e s m args below meth c s₁ B hml hv
  obtain ⟨rfl, hH, hK, hN⟩ := hv
  subst hH
  have hx := B.exec
  have hb := B.bytes
  have hr := B.returns
  have hts := atoms_spec (ws := wsX1_dropLast) B.pre
  have hown : s.vm.findClass RX1 = some m.cls := findClass_of_methodNamed B.named
  have hlocks := B.notSynchronized
  have hD := hD.self (sz := s.heap.size)
  generalize hAe : va_A (wC cA A g n hs pe pk fo mo) s.heap.size = Av at hD ⊢
  have hA : ∀ q : Nat, s.heap.size ≤ q → Av q := fun q h => by rw [← hAe]; exact Or.inr h
  have hS : va_S Av s.heap s.heap [] := va_S.rf
  have hl := lv_entry ([.ref (A 1)]) (n := 1) (Nat.le_of_ble_eq_true rfl)
  rw [lg_entry_eq]
  generalize (lg_sl ([.ref (A 1)]) ++ List.replicate (1 - (lg_sl ([.ref (A 1)])).length) Slot.unset).toArray = ls at hl ⊢
  have hl : lv_has ls 1 [(0, .ref (A 1))] := hl
  refine lv_aload_n hx hb dX1_dropLast_0 rfl (lv_at hl 0 rfl) ?_
  refine va_get (D := (dC, dI)) (ci := 2) (v := .int (nI n)) (C := RX1) (T := TX1) (N := 7) hx hb hts miX1_dropLast_X1 hown hK hP 1 rfl rfl 6 (by decide) (hts (.fieldLink RX1 34 "SectionFibres$Section" "size" "I") mbX1_dropLast_1) (fun _ h9 => h9) rfl dX1_dropLast_1 ?_
  refine lv_if_le (tgt := 17) hx hb dX1_dropLast_4 (by decide) (fun h9 => absurd h9 (nI_nle (by omega) (by omega))) (fun _ => ?_)
  refine lv_aload_n hx hb dX1_dropLast_7 rfl (lv_at hl 0 rfl) ?_
  refine lv_dup hx hb dX1_dropLast_8 rfl ?_
  refine va_get (D := (dC, dI)) (ci := 2) (v := .int (nI n)) (C := RX1) (T := TX1) (N := 7) hx hb hts miX1_dropLast_X1 hown hK hP 1 rfl rfl 6 (by decide) (hts (.fieldLink RX1 34 "SectionFibres$Section" "size" "I") mbX1_dropLast_1) (fun _ h9 => h9) rfl dX1_dropLast_9 ?_
  refine lv_iconst (v := 1) hx hb dX1_dropLast_12 (by decide) ?_
  refine lv_isub hx hb dX1_dropLast_13 ?_
  refine tp_i (v := nI (n - 1)) (by have h9 := nI_pred (n - 1); rwa [show n - 1 + 1 = n by omega] at h9) ?_
  refine va_put (D := (dC, dI)) (ci := 2) (v := .int (nI (n - 1))) (ty := .int) (C := RX1) (T := TX1) (N := 7) hx hb hts miX1_dropLast_X1 tyX1 tyX1_ok nmX1 hown hK hP hD hS 1 rfl rfl 6 (by decide) (hts (.fieldLink RX1 34 "SectionFibres$Section" "size" "I") mbX1_dropLast_1) (fun _ h9 => h9) rfl (by decide +kernel) rfl rfl (Nat.le_of_ble_eq_true rfl) dX1_dropLast_14 (fun H locs hP hD hS => ?_)
  have hP : va_P (dC, dI) vwCl (wC cA A g (n - 1) hs pe pk fo mo) H := hP
  have hD : va_D Av (wC cA A g (n - 1) hs pe pk fo mo) := hD
  exact W.vret hx hb hr (fun t9 ht9 hW9 => ⟨⟨(g, n - 1, hs, pe, pk, fo, mo), rfl, rfl, by dsimp only; rw [ht9]; exact hP⟩, hS.F ht9⟩) hS.2.2 dX1_dropLast_17

set_option maxRecDepth 20000 in
theorem miX0_addPoint_X0 : ∀ w ∈ u_ws RX0 TX0 5, w ∈ wsX0_addPoint := by decide +kernel
set_option maxRecDepth 20000 in
theorem mbX0_addPoint_1 : (.fieldLink RX0 18 "SectionFibres$Kinds" "points" "[I" : Cond) ∈ wsX0_addPoint := by decide +kernel
set_option maxRecDepth 20000 in
theorem mbX0_addPoint_2 : (.fieldLink RX0 9 "SectionFibres$Kinds" "strains" "[I" : Cond) ∈ wsX0_addPoint := by decide +kernel
set_option maxRecDepth 20000 in
theorem mbX0_addPoint_3 : (.fieldLink RX0 15 "SectionFibres$Kinds" "stresses" "[I" : Cond) ∈ wsX0_addPoint := by decide +kernel
set_option maxHeartbeats 4000000 in
set_option maxRecDepth 100000 in
theorem c_X0_addPoint (l : Launch) (dC : Nat → ClassId) (dI : Nat → Nat → Nat) (cA : ClassId) (H : Heap) (A : Nat → Nat) (g : Gg) (n : Nat) (hs pe pk : Int32) (fo mo : Int64) (hP : va_P (dC, dI) vwCl (wC cA A g n hs pe pk fo mo) H) (hD : va_D (fun _ => True) (wC cA A g n hs pe pk fo mo)) (hg : InvG g) (kd x y : Int32) (hkd : vp_in kd 4) : Met l yX0_addPoint wsX0_addPoint ({ frames := 0, cells := 0, slots := 0, locals := 0 }) (rd_P [.ref (A 2), .int kd, .int x, .int y] H (dC, dI) vwCl [(cA, .int)]) (va_Qi (fun (r : Int32) (u : St) => (apC g kd x y ∧ r = 1 ∧ u = (ptG g kd.toNatClampNeg (g 7 kd.toNatClampNeg).toNatClampNeg x y, n, hs, pe, pk, fo, mo)) ∨ (¬ apC g kd x y ∧ r = 0 ∧ u = (g, n, hs, pe, pk, fo, mo))) (fun u t => bC dC dI cA A u t.heap) (va_A (wC cA A g n hs pe pk fo mo) H.size)) 0 0 (va_A (wC cA A g n hs pe pk fo mo) H.size) := by
  obtain ⟨k, hk, rfl⟩ := vp_in_of hkd (by decide)
  obtain ⟨q, hq, hqe⟩ := vp_in_of (hg.2.2.2.2.2.1 k hk) (by decide)
  refine Met.ofW (cc := cX0_addPoint) (maxL := 6) (ret := (some .boolean)) (by decide) rfl ?_
  intro p e s m args below meth c s₁ B hml hv
  obtain ⟨rfl, hH, hK, hN⟩ := hv
  subst hH
  have hx := B.exec
  have hb := B.bytes
  have hr := B.returns
  have hts := atoms_spec (ws := wsX0_addPoint) B.pre
  have hown : s.vm.findClass RX0 = some m.cls := findClass_of_methodNamed B.named
  have hlocks := B.notSynchronized
  have hD := hD.self (sz := s.heap.size)
  generalize hAe : va_A (wC cA A g n hs pe pk fo mo) s.heap.size = Av at hD ⊢
  have hA : ∀ q : Nat, s.heap.size ≤ q → Av q := fun q h => by rw [← hAe]; exact Or.inr h
  have hS : va_S Av s.heap s.heap [] := va_S.rf
  have hl := lv_entry ([.ref (A 2), .int (nI k), .int x, .int y]) (n := 6) (Nat.le_of_ble_eq_true rfl)
  rw [lg_entry_eq]
  generalize (lg_sl ([.ref (A 2), .int (nI k), .int x, .int y]) ++ List.replicate (6 - (lg_sl ([.ref (A 2), .int (nI k), .int x, .int y])).length) Slot.unset).toArray = ls at hl ⊢
  have hl : lv_has ls 6 [(0, .ref (A 2)), (1, .int (nI k)), (2, .int x), (3, .int y)] := hl
  refine lv_aload_n hx hb dX0_addPoint_0 rfl (lv_at hl 0 rfl) ?_
  refine va_get (D := (dC, dI)) (ci := 1) (v := .ref (A 10)) (C := RX0) (T := TX0) (N := 5) hx hb hts miX0_addPoint_X0 hown hK hP 2 rfl rfl 2 (by decide) (hts (.fieldLink RX0 18 "SectionFibres$Kinds" "points" "[I") mbX0_addPoint_1) (fun _ h9 => h9) rfl dX0_addPoint_1 ?_
  refine lv_iload_n hx hb dX0_addPoint_4 rfl (lv_at hl 1 rfl) ?_
  refine ialn hx hb hK hP 10 0 rfl rfl k (rfl) (by omega) (by decide) dX0_addPoint_5 ?_
  refine tp_i (v := nI q) (hqe) ?_
  refine lv_istore (lv' := [(4, .int (nI q)), (0, .ref (A 2)), (1, .int (nI k)), (2, .int x), (3, .int y)]) hx hb dX0_addPoint_6 hl (by decide) rfl (fun ls hl => ?_)
  refine lv_iload hx hb dX0_addPoint_8 (lv_at hl 0 rfl) ?_
  refine lv_bipush (v := 8) hx hb dX0_addPoint_10 (by decide) ?_
  refine lv_icmp_lt (tgt := 17) hx hb dX0_addPoint_12 (by decide) (fun c1 => ?_) (fun c1 => ?_)
  · have hq8 : q < 8 := (nI_ltI (b := 8) (by omega) (by omega)).mp c1
    refine lv_iload_n hx hb dX0_addPoint_17 rfl (lv_at hl 2 rfl) ?_
    refine lv_bipush (v := 8) hx hb dX0_addPoint_18 (by decide) ?_
    refine lv_imul hx hb dX0_addPoint_20 ?_
    refine tp_i (v := nI (8 * k)) ((pk_mul k 8).trans (by rw [Nat.mul_comm k 8])) ?_
    refine lv_iload hx hb dX0_addPoint_21 (lv_at hl 0 rfl) ?_
    refine lv_iadd hx hb dX0_addPoint_23 ?_
    refine tp_i (v := nI (8 * k + q)) (nI_add _ _) ?_
    refine lv_istore (lv' := [(5, .int (nI (8 * k + q))), (4, .int (nI q)), (0, .ref (A 2)), (1, .int (nI k)), (2, .int x), (3, .int y)]) hx hb dX0_addPoint_24 hl (by decide) rfl (fun ls hl => ?_)
    refine lv_iload hx hb dX0_addPoint_26 (lv_at hl 1 rfl) ?_
    refine lv_if_le (tgt := 59) hx hb dX0_addPoint_28 (by decide) (fun c2 => ?_) (fun c2 => ?_)
    · refine lv_aload_n hx hb dX0_addPoint_59 rfl (lv_at hl 2 rfl) ?_
      refine va_get (D := (dC, dI)) (ci := 1) (v := .ref (A 8)) (C := RX0) (T := TX0) (N := 5) hx hb hts miX0_addPoint_X0 hown hK hP 2 rfl rfl 0 (by decide) (hts (.fieldLink RX0 9 "SectionFibres$Kinds" "strains" "[I") mbX0_addPoint_2) (fun _ h9 => h9) rfl dX0_addPoint_60 ?_
      refine lv_iload hx hb dX0_addPoint_63 (lv_at hl 0 rfl) ?_
      refine lv_iload_n hx hb dX0_addPoint_65 rfl (lv_at hl 4 rfl) ?_
      refine iasn hx hb hK hP hD hS 8 0 rfl rfl (8 * k + q) (rfl) (by omega) (by decide) dX0_addPoint_66 (fun H locs hP hD hS => ?_)
      have hP : va_P (dC, dI) vwCl (wC cA A (setG g 5 (8 * k + q) x) n hs pe pk fo mo) H := hP
      have hD : va_D Av (wC cA A (setG g 5 (8 * k + q) x) n hs pe pk fo mo) := hD
      refine lv_aload_n hx hb dX0_addPoint_67 rfl (lv_at hl 2 rfl) ?_
      refine va_get (D := (dC, dI)) (ci := 1) (v := .ref (A 9)) (C := RX0) (T := TX0) (N := 5) hx hb hts miX0_addPoint_X0 hown hK hP 2 rfl rfl 1 (by decide) (hts (.fieldLink RX0 15 "SectionFibres$Kinds" "stresses" "[I") mbX0_addPoint_3) (fun _ h9 => h9) rfl dX0_addPoint_68 ?_
      refine lv_iload hx hb dX0_addPoint_71 (lv_at hl 0 rfl) ?_
      refine lv_iload_n hx hb dX0_addPoint_73 rfl (lv_at hl 5 rfl) ?_
      refine iasn hx hb hK hP hD hS 9 0 rfl rfl (8 * k + q) (rfl) (by omega) (by decide) dX0_addPoint_74 (fun H locs hP hD hS => ?_)
      have hP : va_P (dC, dI) vwCl (wC cA A (setG (setG g 5 (8 * k + q) x) 6 (8 * k + q) y) n hs pe pk fo mo) H := hP
      have hD : va_D Av (wC cA A (setG (setG g 5 (8 * k + q) x) 6 (8 * k + q) y) n hs pe pk fo mo) := hD
      refine lv_aload_n hx hb dX0_addPoint_75 rfl (lv_at hl 2 rfl) ?_
      refine va_get (D := (dC, dI)) (ci := 1) (v := .ref (A 10)) (C := RX0) (T := TX0) (N := 5) hx hb hts miX0_addPoint_X0 hown hK hP 2 rfl rfl 2 (by decide) (hts (.fieldLink RX0 18 "SectionFibres$Kinds" "points" "[I") mbX0_addPoint_1) (fun _ h9 => h9) rfl dX0_addPoint_76 ?_
      refine lv_iload_n hx hb dX0_addPoint_79 rfl (lv_at hl 3 rfl) ?_
      refine lv_iload hx hb dX0_addPoint_80 (lv_at hl 1 rfl) ?_
      refine lv_iconst (v := 1) hx hb dX0_addPoint_82 (by decide) ?_
      refine lv_iadd hx hb dX0_addPoint_83 ?_
      refine tp_i (v := nI (q + 1)) (nI_1 q) ?_
      refine iasn hx hb hK hP hD hS 10 0 rfl rfl k (rfl) (by omega) (by decide) dX0_addPoint_84 (fun H locs hP hD hS => ?_)
      have hP : va_P (dC, dI) vwCl (wC cA A (setG (setG (setG g 5 (8 * k + q) x) 6 (8 * k + q) y) 7 k (nI (q + 1))) n hs pe pk fo mo) H := hP
      have hD : va_D Av (wC cA A (setG (setG (setG g 5 (8 * k + q) x) 6 (8 * k + q) y) 7 k (nI (q + 1))) n hs pe pk fo mo) := hD
      refine lv_iconst (v := 1) hx hb dX0_addPoint_85 (by decide) ?_
      exact W.zret (ty := .boolean) (v := 1) hx hb hr (by decide) (fun t9 ht9 hW9 => ⟨⟨_, ((setG (setG (setG g 5 (8 * k + q) x) 6 (8 * k + q) y) 7 k (nI (q + 1))), n, hs, pe, pk, fo, mo), rfl, (Or.inl ⟨(apC_k hk hq hqe).mpr ⟨hq8, fun h9 => absurd h9.1 (by have h8 := (nI_leI (b := 0) (by omega) (by omega)).mp c2; omega)⟩, rfl, by rw [nI_clamp (n := k) (by omega), hqe, nI_clamp (n := q) (by omega)]; rfl⟩), by dsimp only; rw [ht9]; exact hP⟩, hS.F ht9⟩) hS.2.2 dX0_addPoint_86
    · have hq0 : 0 < q := Nat.pos_of_ne_zero (fun h9 => c2 (by rw [h9]; decide))
      refine lv_iload_n hx hb dX0_addPoint_31 rfl (lv_at hl 4 rfl) ?_
      refine lv_aload_n hx hb dX0_addPoint_32 rfl (lv_at hl 2 rfl) ?_
      refine va_get (D := (dC, dI)) (ci := 1) (v := .ref (A 8)) (C := RX0) (T := TX0) (N := 5) hx hb hts miX0_addPoint_X0 hown hK hP 2 rfl rfl 0 (by decide) (hts (.fieldLink RX0 9 "SectionFibres$Kinds" "strains" "[I") mbX0_addPoint_2) (fun _ h9 => h9) rfl dX0_addPoint_33 ?_
      refine lv_iload hx hb dX0_addPoint_36 (lv_at hl 0 rfl) ?_
      refine lv_iconst (v := 1) hx hb dX0_addPoint_38 (by decide) ?_
      refine lv_isub hx hb dX0_addPoint_39 ?_
      refine tp_i (v := nI (8 * k + q - 1)) (by have h9 := nI_pred (8 * k + q - 1); rwa [show 8 * k + q - 1 + 1 = 8 * k + q by omega] at h9) ?_
      refine ialn hx hb hK hP 8 0 rfl rfl (8 * k + q - 1) (rfl) (by omega) (by decide) dX0_addPoint_40 ?_
      refine lv_icmp_le (tgt := 57) hx hb dX0_addPoint_41 (by decide) (fun c3 => ?_) (fun c3 => ?_)
      · refine lv_iconst (v := 0) hx hb dX0_addPoint_57 (by decide) ?_
        exact W.zret (ty := .boolean) (v := 0) hx hb hr (by decide) (fun t9 ht9 hW9 => ⟨⟨_, (g, n, hs, pe, pk, fo, mo), rfl, (Or.inr ⟨fun h9 => ((apC_k hk hq hqe).mp h9).2 ⟨hq0, Or.inl c3⟩, rfl, rfl⟩), by dsimp only; rw [ht9]; exact hP⟩, hS.F ht9⟩) hS.2.2 dX0_addPoint_58
      · refine lv_iload_n hx hb dX0_addPoint_44 rfl (lv_at hl 5 rfl) ?_
        refine lv_aload_n hx hb dX0_addPoint_45 rfl (lv_at hl 2 rfl) ?_
        refine va_get (D := (dC, dI)) (ci := 1) (v := .ref (A 9)) (C := RX0) (T := TX0) (N := 5) hx hb hts miX0_addPoint_X0 hown hK hP 2 rfl rfl 1 (by decide) (hts (.fieldLink RX0 15 "SectionFibres$Kinds" "stresses" "[I") mbX0_addPoint_3) (fun _ h9 => h9) rfl dX0_addPoint_46 ?_
        refine lv_iload hx hb dX0_addPoint_49 (lv_at hl 0 rfl) ?_
        refine lv_iconst (v := 1) hx hb dX0_addPoint_51 (by decide) ?_
        refine lv_isub hx hb dX0_addPoint_52 ?_
        refine tp_i (v := nI (8 * k + q - 1)) (by have h9 := nI_pred (8 * k + q - 1); rwa [show 8 * k + q - 1 + 1 = 8 * k + q by omega] at h9) ?_
        refine ialn hx hb hK hP 9 0 rfl rfl (8 * k + q - 1) (rfl) (by omega) (by decide) dX0_addPoint_53 ?_
        refine lv_icmp_ge (tgt := 59) hx hb dX0_addPoint_54 (by decide) (fun c4 => ?_) (fun c4 => ?_)
        · refine lv_aload_n hx hb dX0_addPoint_59 rfl (lv_at hl 2 rfl) ?_
          refine va_get (D := (dC, dI)) (ci := 1) (v := .ref (A 8)) (C := RX0) (T := TX0) (N := 5) hx hb hts miX0_addPoint_X0 hown hK hP 2 rfl rfl 0 (by decide) (hts (.fieldLink RX0 9 "SectionFibres$Kinds" "strains" "[I") mbX0_addPoint_2) (fun _ h9 => h9) rfl dX0_addPoint_60 ?_
          refine lv_iload hx hb dX0_addPoint_63 (lv_at hl 0 rfl) ?_
          refine lv_iload_n hx hb dX0_addPoint_65 rfl (lv_at hl 4 rfl) ?_
          refine iasn hx hb hK hP hD hS 8 0 rfl rfl (8 * k + q) (rfl) (by omega) (by decide) dX0_addPoint_66 (fun H locs hP hD hS => ?_)
          have hP : va_P (dC, dI) vwCl (wC cA A (setG g 5 (8 * k + q) x) n hs pe pk fo mo) H := hP
          have hD : va_D Av (wC cA A (setG g 5 (8 * k + q) x) n hs pe pk fo mo) := hD
          refine lv_aload_n hx hb dX0_addPoint_67 rfl (lv_at hl 2 rfl) ?_
          refine va_get (D := (dC, dI)) (ci := 1) (v := .ref (A 9)) (C := RX0) (T := TX0) (N := 5) hx hb hts miX0_addPoint_X0 hown hK hP 2 rfl rfl 1 (by decide) (hts (.fieldLink RX0 15 "SectionFibres$Kinds" "stresses" "[I") mbX0_addPoint_3) (fun _ h9 => h9) rfl dX0_addPoint_68 ?_
          refine lv_iload hx hb dX0_addPoint_71 (lv_at hl 0 rfl) ?_
          refine lv_iload_n hx hb dX0_addPoint_73 rfl (lv_at hl 5 rfl) ?_
          refine iasn hx hb hK hP hD hS 9 0 rfl rfl (8 * k + q) (rfl) (by omega) (by decide) dX0_addPoint_74 (fun H locs hP hD hS => ?_)
          have hP : va_P (dC, dI) vwCl (wC cA A (setG (setG g 5 (8 * k + q) x) 6 (8 * k + q) y) n hs pe pk fo mo) H := hP
          have hD : va_D Av (wC cA A (setG (setG g 5 (8 * k + q) x) 6 (8 * k + q) y) n hs pe pk fo mo) := hD
          refine lv_aload_n hx hb dX0_addPoint_75 rfl (lv_at hl 2 rfl) ?_
          refine va_get (D := (dC, dI)) (ci := 1) (v := .ref (A 10)) (C := RX0) (T := TX0) (N := 5) hx hb hts miX0_addPoint_X0 hown hK hP 2 rfl rfl 2 (by decide) (hts (.fieldLink RX0 18 "SectionFibres$Kinds" "points" "[I") mbX0_addPoint_1) (fun _ h9 => h9) rfl dX0_addPoint_76 ?_
          refine lv_iload_n hx hb dX0_addPoint_79 rfl (lv_at hl 3 rfl) ?_
          refine lv_iload hx hb dX0_addPoint_80 (lv_at hl 1 rfl) ?_
          refine lv_iconst (v := 1) hx hb dX0_addPoint_82 (by decide) ?_
          refine lv_iadd hx hb dX0_addPoint_83 ?_
          refine tp_i (v := nI (q + 1)) (nI_1 q) ?_
          refine iasn hx hb hK hP hD hS 10 0 rfl rfl k (rfl) (by omega) (by decide) dX0_addPoint_84 (fun H locs hP hD hS => ?_)
          have hP : va_P (dC, dI) vwCl (wC cA A (setG (setG (setG g 5 (8 * k + q) x) 6 (8 * k + q) y) 7 k (nI (q + 1))) n hs pe pk fo mo) H := hP
          have hD : va_D Av (wC cA A (setG (setG (setG g 5 (8 * k + q) x) 6 (8 * k + q) y) 7 k (nI (q + 1))) n hs pe pk fo mo) := hD
          refine lv_iconst (v := 1) hx hb dX0_addPoint_85 (by decide) ?_
          exact W.zret (ty := .boolean) (v := 1) hx hb hr (by decide) (fun t9 ht9 hW9 => ⟨⟨_, ((setG (setG (setG g 5 (8 * k + q) x) 6 (8 * k + q) y) 7 k (nI (q + 1))), n, hs, pe, pk, fo, mo), rfl, (Or.inl ⟨(apC_k hk hq hqe).mpr ⟨hq8, fun h9 => h9.2.elim c3 (le_nlt c4)⟩, rfl, by rw [nI_clamp (n := k) (by omega), hqe, nI_clamp (n := q) (by omega)]; rfl⟩), by dsimp only; rw [ht9]; exact hP⟩, hS.F ht9⟩) hS.2.2 dX0_addPoint_86
        · refine lv_iconst (v := 0) hx hb dX0_addPoint_57 (by decide) ?_
          exact W.zret (ty := .boolean) (v := 0) hx hb hr (by decide) (fun t9 ht9 hW9 => ⟨⟨_, (g, n, hs, pe, pk, fo, mo), rfl, (Or.inr ⟨fun h9 => ((apC_k hk hq hqe).mp h9).2 ⟨hq0, Or.inr (nle_lt c4)⟩, rfl, rfl⟩), by dsimp only; rw [ht9]; exact hP⟩, hS.F ht9⟩) hS.2.2 dX0_addPoint_58
  · refine lv_iconst (v := 0) hx hb dX0_addPoint_15 (by decide) ?_
    exact W.zret (ty := .boolean) (v := 0) hx hb hr (by decide) (fun t9 ht9 hW9 => ⟨⟨_, (g, n, hs, pe, pk, fo, mo), rfl, (Or.inr ⟨fun h9 => by have h8 := ((apC_k hk hq hqe).mp h9).1; exact c1 (nI_lt (b := 8) h8 (by omega)), rfl, rfl⟩), by dsimp only; rw [ht9]; exact hP⟩, hS.F ht9⟩) hS.2.2 dX0_addPoint_16

set_option maxRecDepth 20000 in
theorem mbX2_fibre_0 : (.constant RX2 16 (100000) : Cond) ∈ wsX2_fibre := by decide +kernel
set_option maxRecDepth 20000 in
theorem miX2_fibre_X2 : ∀ w ∈ u_ws RX2 TX2 6, w ∈ wsX2_fibre := by decide +kernel
set_option maxRecDepth 20000 in
theorem mbX2_fibre_2 : (.fieldLink RX2 10 "SectionFibres" "section" "LSectionFibres$Section;" : Cond) ∈ wsX2_fibre := by decide +kernel
set_option maxRecDepth 20000 in
theorem miX2_fibre_X1 : ∀ w ∈ u_ws RX1 TX1 7, w ∈ wsX2_fibre := by decide +kernel
set_option maxRecDepth 20000 in
theorem mbX2_fibre_4 : (.initialized RX1 : Cond) ∈ wsX2_fibre := by decide +kernel
set_option maxRecDepth 20000 in
theorem mbX2_fibre_5 : (.instanceMethod yX1_add : Cond) ∈ wsX2_fibre := by decide +kernel
set_option maxRecDepth 20000 in
theorem mbX2_fibre_6 : (.selects RX1 yX1_add yX1_add : Cond) ∈ wsX2_fibre := by decide +kernel
set_option maxRecDepth 20000 in
theorem mbX2_fibre_7 : (.fieldLink RX2 36 "SectionFibres" "planeAtHand" "Z" : Cond) ∈ wsX2_fibre := by decide +kernel
set_option maxHeartbeats 4000000 in
set_option maxRecDepth 100000 in
theorem c_X2_fibre (l : Launch) (dC : Nat → ClassId) (dI : Nat → Nat → Nat) (cA : ClassId) (H : Heap) (A : Nat → Nat) (g : Gg) (n : Nat) (hs pe pk : Int32) (fo mo : Int64) (hP : va_P (dC, dI) vwCl (wC cA A g n hs pe pk fo mo) H) (hD : va_D (fun _ => True) (wC cA A g n hs pe pk fo mo)) (hn : n ≤ 40) (a b d : Int32) : Met l yX2_fibre wsX2_fibre ({ frames := 2, cells := 0, slots := 0, locals := 42 }) (rd_P [.ref (A 0), .int a, .int b, .int d] H (dC, dI) vwCl [(cA, .int)]) (va_Qi (fun (r : Int32) (u : St) => (r, u) = fibF (g, n, hs, pe, pk, fo, mo) a b d) (fun u t => bC dC dI cA A u t.heap) (va_A (wC cA A g n hs pe pk fo mo) H.size)) 0 0 (va_A (wC cA A g n hs pe pk fo mo) H.size) := by
  refine Met.ofW (cc := cX2_fibre) (maxL := 4) (ret := (some .int)) (by decide) rfl ?_
  intro p e s m args below meth c s₁ B hml hv
  obtain ⟨rfl, hH, hK, hN⟩ := hv
  subst hH
  have hx := B.exec
  have hb := B.bytes
  have hr := B.returns
  have hts := atoms_spec (ws := wsX2_fibre) B.pre
  have hown : s.vm.findClass RX2 = some m.cls := findClass_of_methodNamed B.named
  have hlocks := B.notSynchronized
  have hD := hD.self (sz := s.heap.size)
  generalize hAe : va_A (wC cA A g n hs pe pk fo mo) s.heap.size = Av at hD ⊢
  have hA : ∀ q : Nat, s.heap.size ≤ q → Av q := fun q h => by rw [← hAe]; exact Or.inr h
  have hS : va_S Av s.heap s.heap [] := va_S.rf
  have hl := lv_entry ([.ref (A 0), .int a, .int b, .int d]) (n := 4) (Nat.le_of_ble_eq_true rfl)
  rw [lg_entry_eq]
  generalize (lg_sl ([.ref (A 0), .int a, .int b, .int d]) ++ List.replicate (4 - (lg_sl ([.ref (A 0), .int a, .int b, .int d])).length) Slot.unset).toArray = ls at hl ⊢
  have hl : lv_has ls 4 [(0, .ref (A 0)), (1, .int a), (2, .int b), (3, .int d)] := hl
  refine lv_iload_n hx hb dX2_fibre_0 rfl (lv_at hl 1 rfl) ?_
  refine lv_iconst (v := 0) hx hb dX2_fibre_1 (by decide) ?_
  refine lv_ldc hx hb hown (hts (.constant RX2 16 (100000)) mbX2_fibre_0) dX2_fibre_2 ?_
  refine rd_i (va_runS (As := [.int a, .int 0, .int 100000]) (rest := []) ⟨hx, hb, hml, hown, hts⟩ (c_X2_within l dC dI cA s.heap a 0 100000 0 100000 (by decide) (by decide)) (va_cwS 3 hts gX2_fibre_X2_within rfl rfl rfl (by decide +kernel) ⟨Nat.le_of_ble_eq_true rfl, Nat.le_of_ble_eq_true rfl⟩) ⟨rd_bl, rd_pre hK hN⟩ rfl rfl hl.1 rfl (lv_room (Nat.le_of_ble_eq_true rfl)) dX2_fibre_4 ⟨Nat.zero_le _, Nat.zero_le _⟩) hS (fun r1 locs hq2 hS => ?_)
  rcases hq2 with ⟨hq2, rfl⟩ | ⟨hq2, rfl⟩
  · have q1 : rg a 0 100000 := hq2
    refine lv_if_eq (tgt := 24) hx hb dX2_fibre_7 (by decide) (fun h9 => absurd h9 (by decide)) (fun _ => ?_)
    refine lv_iload_n hx hb dX2_fibre_10 rfl (lv_at hl 2 rfl) ?_
    refine rd_i (va_runS (As := [.int b]) (rest := []) ⟨hx, hb, hml, hown, hts⟩ (c_X2_isPlace l dC dI cA s.heap b) (va_cwS 1 hts gX2_fibre_X2_isPlace rfl rfl rfl (by decide +kernel) ⟨Nat.le_of_ble_eq_true rfl, Nat.le_of_ble_eq_true rfl⟩) ⟨rd_bl, rd_pre hK hN⟩ rfl rfl hl.1 rfl (lv_room (Nat.le_of_ble_eq_true rfl)) dX2_fibre_11 ⟨Nat.zero_le _, Nat.zero_le _⟩) hS (fun r3 locs hq4 hS => ?_)
    rcases hq4 with ⟨hq4, rfl⟩ | ⟨hq4, rfl⟩
    · have q2 : rg b (-2000) 2000 := hq4
      refine lv_if_eq (tgt := 24) hx hb dX2_fibre_14 (by decide) (fun h9 => absurd h9 (by decide)) (fun _ => ?_)
      refine lv_iload_n hx hb dX2_fibre_17 rfl (lv_at hl 3 rfl) ?_
      refine rd_i (va_runS (As := [.int d]) (rest := []) ⟨hx, hb, hml, hown, hts⟩ (c_X2_isKind l dC dI cA s.heap d) (va_cwS 1 hts gX2_fibre_X2_isKind rfl rfl rfl (by decide +kernel) ⟨Nat.le_of_ble_eq_true rfl, Nat.le_of_ble_eq_true rfl⟩) ⟨rd_bl, rd_pre hK hN⟩ rfl rfl hl.1 rfl (lv_room (Nat.le_of_ble_eq_true rfl)) dX2_fibre_18 ⟨Nat.zero_le _, Nat.zero_le _⟩) hS (fun r5 locs hq6 hS => ?_)
      rcases hq6 with ⟨hq6, rfl⟩ | ⟨hq6, rfl⟩
      · have q3 : rg d 0 3 := hq6
        refine lv_if_ne (tgt := 26) hx hb dX2_fibre_21 (by decide) (fun _ => ?_) (fun h9 => absurd h9 (by decide))
        refine lv_aload_n hx hb dX2_fibre_26 rfl (lv_at hl 0 rfl) ?_
        refine va_get (D := (dC, dI)) (ci := 3) (v := .ref (A 1)) (C := RX2) (T := TX2) (N := 6) hx hb hts miX2_fibre_X2 hown hK hP 0 rfl rfl 0 (by decide) (hts (.fieldLink RX2 10 "SectionFibres" "section" "LSectionFibres$Section;") mbX2_fibre_2) (fun _ h9 => h9) rfl dX2_fibre_27 ?_
        refine va_getN (D := (dC, dI)) (ci := 2) (v := .int (nI n)) (C := RX1) (T := TX1) (N := 7) hx hb hts miX2_fibre_X1 hown hK hP 1 rfl rfl 6 (by decide) (va_Nw.use rfl (hN (.fieldLinkNest RX2 28 "SectionFibres$Section" "size" "I" "SectionFibres") (List.mem_of_getElem? (i := 28) rfl))) (fun _ h9 => h9) rfl dX2_fibre_30 ?_
        refine lv_bipush (v := 40) hx hb dX2_fibre_33 (by decide) ?_
        refine lv_icmp_lt (tgt := 40) hx hb dX2_fibre_35 (by decide) (fun c1 => ?_) (fun c1 => ?_)
        · have hlt : n < 40 := (nI_ltI (b := 40) (by omega) (by omega)).mp c1
          refine lv_aload_n hx hb dX2_fibre_40 rfl (lv_at hl 0 rfl) ?_
          refine va_get (D := (dC, dI)) (ci := 3) (v := .ref (A 1)) (C := RX2) (T := TX2) (N := 6) hx hb hts miX2_fibre_X2 hown hK hP 0 rfl rfl 0 (by decide) (hts (.fieldLink RX2 10 "SectionFibres" "section" "LSectionFibres$Section;") mbX2_fibre_2) (fun _ h9 => h9) rfl dX2_fibre_41 ?_
          refine lv_iload_n hx hb dX2_fibre_44 rfl (lv_at hl 1 rfl) ?_
          refine lv_iload_n hx hb dX2_fibre_45 rfl (lv_at hl 2 rfl) ?_
          refine lv_iload_n hx hb dX2_fibre_46 rfl (lv_at hl 3 rfl) ?_
          have hFc := va_free (wc := (wC cA A g n hs pe pk fo mo)) hD hS hA [0, 1, 2, 3, 4, 5, 6, 7, 8, 9, 10, 11, 12] rfl
          refine mu_v (va_runVN (As := [.int a, .int b, .int d]) (rest := []) ⟨hx, hb, hml, hown, hts⟩ (c_X1_add l dC dI cA s.heap A g n hs pe pk fo mo hP (hD.weaken (fun _ _ _ _ => trivial)) (by omega) a b d) ⟨(va_cnB 3 hts gX2_fibre_X1_add_n32 rfl rfl rfl (hN (.methodLinkNest RX2 32 yX1_add "SectionFibres") (List.mem_of_getElem? (i := 2) rfl)) (hts (.initialized RX1) mbX2_fibre_4) (by decide +kernel) ⟨Nat.le_of_ble_eq_true rfl, Nat.le_of_ble_eq_true rfl⟩), hts (.instanceMethod yX1_add) mbX2_fibre_5, hts (.selects RX1 yX1_add yX1_add) mbX2_fibre_6⟩ ⟨rd_bl, va_recv hK hP (ci := 2) (q0 := 1) rfl rfl, rd_pre hK hN⟩ rfl rfl hl.1 rfl (lv_room (Nat.le_of_ble_eq_true rfl)) dX2_fibre_47 ⟨Nat.zero_le _, Nat.zero_le _⟩) hS hFc (fun u H locs hq hB hk hz hS => ?_)
          subst hq
          have hP : va_P (dC, dI) vwCl (wC cA A (layG g n a b d) (n + 1) hs pe pk fo mo) H := hB
          have hD : va_D Av (wC cA A (layG g n a b d) (n + 1) hs pe pk fo mo) := va_Dsame (by rfl) hD
          refine lv_aload_n hx hb dX2_fibre_50 rfl (lv_at hl 0 rfl) ?_
          refine lv_iconst (v := 0) hx hb dX2_fibre_51 (by decide) ?_
          refine va_put (D := (dC, dI)) (ci := 3) (v := .int 0) (ty := .boolean) (C := RX2) (T := TX2) (N := 6) hx hb hts miX2_fibre_X2 tyX2 tyX2_ok nmX2 hown hK hP hD hS 0 rfl rfl 1 (by decide) (hts (.fieldLink RX2 36 "SectionFibres" "planeAtHand" "Z") mbX2_fibre_7) (fun _ h9 => h9) rfl (by decide +kernel) rfl rfl (Nat.le_of_ble_eq_true rfl) dX2_fibre_52 (fun H locs hP hD hS => ?_)
          have hP : va_P (dC, dI) vwCl (wC cA A (layG g n a b d) (n + 1) 0 pe pk fo mo) H := hP
          have hD : va_D Av (wC cA A (layG g n a b d) (n + 1) 0 pe pk fo mo) := hD
          refine lv_aload_n hx hb dX2_fibre_55 rfl (lv_at hl 0 rfl) ?_
          refine va_get (D := (dC, dI)) (ci := 3) (v := .ref (A 1)) (C := RX2) (T := TX2) (N := 6) hx hb hts miX2_fibre_X2 hown hK hP 0 rfl rfl 0 (by decide) (hts (.fieldLink RX2 10 "SectionFibres" "section" "LSectionFibres$Section;") mbX2_fibre_2) (fun _ h9 => h9) rfl dX2_fibre_56 ?_
          refine va_getN (D := (dC, dI)) (ci := 2) (v := .int (nI (n + 1))) (C := RX1) (T := TX1) (N := 7) hx hb hts miX2_fibre_X1 hown hK hP 1 rfl rfl 6 (by decide) (va_Nw.use rfl (hN (.fieldLinkNest RX2 28 "SectionFibres$Section" "size" "I" "SectionFibres") (List.mem_of_getElem? (i := 28) rfl))) (fun _ h9 => h9) rfl dX2_fibre_59 ?_
          refine lv_iconst (v := 1) hx hb dX2_fibre_62 (by decide) ?_
          refine lv_isub hx hb dX2_fibre_63 ?_
          refine tp_i (v := nI n) (nI_pred n) ?_
          exact W.iret (v := (nI n)) hx hb hr (fun t9 ht9 hW9 => ⟨⟨_, ((layG g n a b d), n + 1, 0, pe, pk, fo, mo), rfl, ((fib_t ⟨q1, q2, q3, hlt⟩).symm), by dsimp only; rw [ht9]; exact hP⟩, hS.F ht9⟩) hS.2.2 dX2_fibre_64
        · refine lv_iconst (v := (-1)) hx hb dX2_fibre_38 (by decide) ?_
          exact W.iret (v := (-1)) hx hb hr (fun t9 ht9 hW9 => ⟨⟨_, (g, n, hs, pe, pk, fo, mo), rfl, ((fib_f (fun h9 => c1 (nI_lt (b := 40) h9.2.2.2 (by omega)))).symm), by dsimp only; rw [ht9]; exact hP⟩, hS.F ht9⟩) hS.2.2 dX2_fibre_39
      · have q3 : ¬ (rg d 0 3) := hq6
        refine lv_if_ne (tgt := 26) hx hb dX2_fibre_21 (by decide) (fun h9 => absurd h9 (by decide)) (fun _ => ?_)
        refine lv_iconst (v := (-1)) hx hb dX2_fibre_24 (by decide) ?_
        exact W.iret (v := (-1)) hx hb hr (fun t9 ht9 hW9 => ⟨⟨_, (g, n, hs, pe, pk, fo, mo), rfl, ((fib_f (fun h9 => q3 h9.2.2.1)).symm), by dsimp only; rw [ht9]; exact hP⟩, hS.F ht9⟩) hS.2.2 dX2_fibre_25
    · have q2 : ¬ (rg b (-2000) 2000) := hq4
      refine lv_if_eq (tgt := 24) hx hb dX2_fibre_14 (by decide) (fun _ => ?_) (fun h9 => absurd h9 (by decide))
      refine lv_iconst (v := (-1)) hx hb dX2_fibre_24 (by decide) ?_
      exact W.iret (v := (-1)) hx hb hr (fun t9 ht9 hW9 => ⟨⟨_, (g, n, hs, pe, pk, fo, mo), rfl, ((fib_f (fun h9 => q2 h9.2.1)).symm), by dsimp only; rw [ht9]; exact hP⟩, hS.F ht9⟩) hS.2.2 dX2_fibre_25
  · have q1 : ¬ (rg a 0 100000) := hq2
    refine lv_if_eq (tgt := 24) hx hb dX2_fibre_7 (by decide) (fun _ => ?_) (fun h9 => absurd h9 (by decide))
    refine lv_iconst (v := (-1)) hx hb dX2_fibre_24 (by decide) ?_
    exact W.iret (v := (-1)) hx hb hr (fun t9 ht9 hW9 => ⟨⟨_, (g, n, hs, pe, pk, fo, mo), rfl, ((fib_f (fun h9 => q1 h9.1)).symm), by dsimp only; rw [ht9]; exact hP⟩, hS.F ht9⟩) hS.2.2 dX2_fibre_25

set_option maxRecDepth 20000 in
theorem mbX2_point_0 : (.constant RX2 43 (-1000000) : Cond) ∈ wsX2_point := by decide +kernel
set_option maxRecDepth 20000 in
theorem mbX2_point_1 : (.constant RX2 44 (1000000) : Cond) ∈ wsX2_point := by decide +kernel
set_option maxRecDepth 20000 in
theorem miX2_point_X2 : ∀ w ∈ u_ws RX2 TX2 6, w ∈ wsX2_point := by decide +kernel
set_option maxRecDepth 20000 in
theorem mbX2_point_3 : (.fieldLink RX2 10 "SectionFibres" "section" "LSectionFibres$Section;" : Cond) ∈ wsX2_point := by decide +kernel
set_option maxRecDepth 20000 in
theorem miX2_point_X1 : ∀ w ∈ u_ws RX1 TX1 7, w ∈ wsX2_point := by decide +kernel
set_option maxRecDepth 20000 in
theorem mbX2_point_5 : (.initialized RX0 : Cond) ∈ wsX2_point := by decide +kernel
set_option maxRecDepth 20000 in
theorem mbX2_point_6 : (.instanceMethod yX0_addPoint : Cond) ∈ wsX2_point := by decide +kernel
set_option maxRecDepth 20000 in
theorem mbX2_point_7 : (.selects RX0 yX0_addPoint yX0_addPoint : Cond) ∈ wsX2_point := by decide +kernel
set_option maxRecDepth 20000 in
theorem mbX2_point_8 : (.fieldLink RX2 36 "SectionFibres" "planeAtHand" "Z" : Cond) ∈ wsX2_point := by decide +kernel
set_option maxHeartbeats 4000000 in
set_option maxRecDepth 100000 in
theorem c_X2_point (l : Launch) (dC : Nat → ClassId) (dI : Nat → Nat → Nat) (cA : ClassId) (H : Heap) (A : Nat → Nat) (g : Gg) (n : Nat) (hs pe pk : Int32) (fo mo : Int64) (hP : va_P (dC, dI) vwCl (wC cA A g n hs pe pk fo mo) H) (hD : va_D (fun _ => True) (wC cA A g n hs pe pk fo mo)) (hg : InvG g) (a b d : Int32) : Met l yX2_point wsX2_point ({ frames := 2, cells := 0, slots := 0, locals := 42 }) (rd_P [.ref (A 0), .int a, .int b, .int d] H (dC, dI) vwCl [(cA, .int)]) (va_Qi (fun (r : Int32) (u : St) => (r, u) = poiF (g, n, hs, pe, pk, fo, mo) a b d) (fun u t => bC dC dI cA A u t.heap) (va_A (wC cA A g n hs pe pk fo mo) H.size)) 0 0 (va_A (wC cA A g n hs pe pk fo mo) H.size) := by
  refine Met.ofW (cc := cX2_point) (maxL := 4) (ret := (some .boolean)) (by decide) rfl ?_
  intro p e s m args below meth c s₁ B hml hv
  obtain ⟨rfl, hH, hK, hN⟩ := hv
  subst hH
  have hx := B.exec
  have hb := B.bytes
  have hr := B.returns
  have hts := atoms_spec (ws := wsX2_point) B.pre
  have hown : s.vm.findClass RX2 = some m.cls := findClass_of_methodNamed B.named
  have hlocks := B.notSynchronized
  have hD := hD.self (sz := s.heap.size)
  generalize hAe : va_A (wC cA A g n hs pe pk fo mo) s.heap.size = Av at hD ⊢
  have hA : ∀ q : Nat, s.heap.size ≤ q → Av q := fun q h => by rw [← hAe]; exact Or.inr h
  have hS : va_S Av s.heap s.heap [] := va_S.rf
  have hl := lv_entry ([.ref (A 0), .int a, .int b, .int d]) (n := 4) (Nat.le_of_ble_eq_true rfl)
  rw [lg_entry_eq]
  generalize (lg_sl ([.ref (A 0), .int a, .int b, .int d]) ++ List.replicate (4 - (lg_sl ([.ref (A 0), .int a, .int b, .int d])).length) Slot.unset).toArray = ls at hl ⊢
  have hl : lv_has ls 4 [(0, .ref (A 0)), (1, .int a), (2, .int b), (3, .int d)] := hl
  refine lv_iload_n hx hb dX2_point_0 rfl (lv_at hl 1 rfl) ?_
  refine rd_i (va_runS (As := [.int a]) (rest := []) ⟨hx, hb, hml, hown, hts⟩ (c_X2_isKind l dC dI cA s.heap a) (va_cwS 1 hts gX2_point_X2_isKind rfl rfl rfl (by decide +kernel) ⟨Nat.le_of_ble_eq_true rfl, Nat.le_of_ble_eq_true rfl⟩) ⟨rd_bl, rd_pre hK hN⟩ rfl rfl hl.1 rfl (lv_room (Nat.le_of_ble_eq_true rfl)) dX2_point_1 ⟨Nat.zero_le _, Nat.zero_le _⟩) hS (fun r1 locs hq2 hS => ?_)
  rcases hq2 with ⟨hq2, rfl⟩ | ⟨hq2, rfl⟩
  · have q1 : rg a 0 3 := hq2
    refine lv_if_eq (tgt := 25) hx hb dX2_point_4 (by decide) (fun h9 => absurd h9 (by decide)) (fun _ => ?_)
    refine lv_iload_n hx hb dX2_point_7 rfl (lv_at hl 2 rfl) ?_
    refine rd_i (va_runS (As := [.int b]) (rest := []) ⟨hx, hb, hml, hown, hts⟩ (c_X2_isToldStrain l dC dI cA s.heap b) (va_cwS 1 hts gX2_point_X2_isToldStrain rfl rfl rfl (by decide +kernel) ⟨Nat.le_of_ble_eq_true rfl, Nat.le_of_ble_eq_true rfl⟩) ⟨rd_bl, rd_pre hK hN⟩ rfl rfl hl.1 rfl (lv_room (Nat.le_of_ble_eq_true rfl)) dX2_point_8 ⟨Nat.zero_le _, Nat.zero_le _⟩) hS (fun r3 locs hq4 hS => ?_)
    rcases hq4 with ⟨hq4, rfl⟩ | ⟨hq4, rfl⟩
    · have q2 : rg b (-30000) 30000 := hq4
      refine lv_if_eq (tgt := 25) hx hb dX2_point_11 (by decide) (fun h9 => absurd h9 (by decide)) (fun _ => ?_)
      refine lv_iload_n hx hb dX2_point_14 rfl (lv_at hl 3 rfl) ?_
      refine lv_ldc hx hb hown (hts (.constant RX2 43 (-1000000)) mbX2_point_0) dX2_point_15 ?_
      refine lv_ldc hx hb hown (hts (.constant RX2 44 (1000000)) mbX2_point_1) dX2_point_17 ?_
      refine rd_i (va_runS (As := [.int d, .int (-1000000), .int 1000000]) (rest := []) ⟨hx, hb, hml, hown, hts⟩ (c_X2_within l dC dI cA s.heap d (-1000000) 1000000 (-1000000) 1000000 (by decide) (by decide)) (va_cwS 3 hts gX2_point_X2_within rfl rfl rfl (by decide +kernel) ⟨Nat.le_of_ble_eq_true rfl, Nat.le_of_ble_eq_true rfl⟩) ⟨rd_bl, rd_pre hK hN⟩ rfl rfl hl.1 rfl (lv_room (Nat.le_of_ble_eq_true rfl)) dX2_point_19 ⟨Nat.zero_le _, Nat.zero_le _⟩) hS (fun r5 locs hq6 hS => ?_)
      rcases hq6 with ⟨hq6, rfl⟩ | ⟨hq6, rfl⟩
      · have q3 : rg d (-1000000) 1000000 := hq6
        refine lv_if_ne (tgt := 27) hx hb dX2_point_22 (by decide) (fun _ => ?_) (fun h9 => absurd h9 (by decide))
        refine lv_aload_n hx hb dX2_point_27 rfl (lv_at hl 0 rfl) ?_
        refine va_get (D := (dC, dI)) (ci := 3) (v := .ref (A 1)) (C := RX2) (T := TX2) (N := 6) hx hb hts miX2_point_X2 hown hK hP 0 rfl rfl 0 (by decide) (hts (.fieldLink RX2 10 "SectionFibres" "section" "LSectionFibres$Section;") mbX2_point_3) (fun _ h9 => h9) rfl dX2_point_28 ?_
        refine va_getN (D := (dC, dI)) (ci := 2) (v := .ref (A 2)) (C := RX1) (T := TX1) (N := 7) hx hb hts miX2_point_X1 hown hK hP 1 rfl rfl 0 (by decide) (va_Nw.use rfl (hN (.fieldLinkNest RX2 45 "SectionFibres$Section" "kinds" "LSectionFibres$Kinds;" "SectionFibres") (List.mem_of_getElem? (i := 25) rfl))) (fun _ h9 => h9) rfl dX2_point_31 ?_
        refine lv_iload_n hx hb dX2_point_34 rfl (lv_at hl 1 rfl) ?_
        refine lv_iload_n hx hb dX2_point_35 rfl (lv_at hl 2 rfl) ?_
        refine lv_iload_n hx hb dX2_point_36 rfl (lv_at hl 3 rfl) ?_
        have hFc := va_free (wc := (wC cA A g n hs pe pk fo mo)) hD hS hA [0, 1, 2, 3, 4, 5, 6, 7, 8, 9, 10, 11, 12] rfl
        refine mu_i (va_runVN (As := [.int a, .int b, .int d]) (rest := []) ⟨hx, hb, hml, hown, hts⟩ (c_X0_addPoint l dC dI cA s.heap A g n hs pe pk fo mo hP (hD.weaken (fun _ _ _ _ => trivial)) hg a b d (rg_in q1)) ⟨(va_cnB 3 hts gX2_point_X0_addPoint_n49 rfl rfl rfl (hN (.methodLinkNest RX2 49 yX0_addPoint "SectionFibres") (List.mem_of_getElem? (i := 3) rfl)) (hts (.initialized RX0) mbX2_point_5) (by decide +kernel) ⟨Nat.le_of_ble_eq_true rfl, Nat.le_of_ble_eq_true rfl⟩), hts (.instanceMethod yX0_addPoint) mbX2_point_6, hts (.selects RX0 yX0_addPoint yX0_addPoint) mbX2_point_7⟩ ⟨rd_bl, va_recv hK hP (ci := 1) (q0 := 2) rfl rfl, rd_pre hK hN⟩ rfl rfl hl.1 rfl (lv_room (Nat.le_of_ble_eq_true rfl)) dX2_point_37 ⟨Nat.zero_le _, Nat.zero_le _⟩) hS hFc (fun r7 u H locs hq hB hk hz hS => ?_)
        rcases hq with ⟨hq9, rfl, rfl⟩ | ⟨hq9, rfl, rfl⟩
        · have hP : va_P (dC, dI) vwCl (wC cA A (ptG g a.toNatClampNeg (g 7 a.toNatClampNeg).toNatClampNeg b d) n hs pe pk fo mo) H := hB
          have hD : va_D Av (wC cA A (ptG g a.toNatClampNeg (g 7 a.toNatClampNeg).toNatClampNeg b d) n hs pe pk fo mo) := va_Dsame (by rfl) hD
          refine lv_if_ne (tgt := 45) hx hb dX2_point_40 (by decide) (fun _ => ?_) (fun h9 => absurd h9 (by decide))
          refine lv_aload_n hx hb dX2_point_45 rfl (lv_at hl 0 rfl) ?_
          refine lv_iconst (v := 0) hx hb dX2_point_46 (by decide) ?_
          refine va_put (D := (dC, dI)) (ci := 3) (v := .int 0) (ty := .boolean) (C := RX2) (T := TX2) (N := 6) hx hb hts miX2_point_X2 tyX2 tyX2_ok nmX2 hown hK hP hD hS 0 rfl rfl 1 (by decide) (hts (.fieldLink RX2 36 "SectionFibres" "planeAtHand" "Z") mbX2_point_8) (fun _ h9 => h9) rfl (by decide +kernel) rfl rfl (Nat.le_of_ble_eq_true rfl) dX2_point_47 (fun H locs hP hD hS => ?_)
          have hP : va_P (dC, dI) vwCl (wC cA A (ptG g a.toNatClampNeg (g 7 a.toNatClampNeg).toNatClampNeg b d) n 0 pe pk fo mo) H := hP
          have hD : va_D Av (wC cA A (ptG g a.toNatClampNeg (g 7 a.toNatClampNeg).toNatClampNeg b d) n 0 pe pk fo mo) := hD
          refine lv_iconst (v := 1) hx hb dX2_point_50 (by decide) ?_
          exact W.zret (ty := .boolean) (v := 1) hx hb hr (by decide) (fun t9 ht9 hW9 => ⟨⟨_, ((ptG g a.toNatClampNeg (g 7 a.toNatClampNeg).toNatClampNeg b d), n, 0, pe, pk, fo, mo), rfl, ((poi_t ⟨q1, q2, q3, hq9.1, hq9.2⟩).symm), by dsimp only; rw [ht9]; exact hP⟩, hS.F ht9⟩) hS.2.2 dX2_point_51
        · have hP : va_P (dC, dI) vwCl (wC cA A g n hs pe pk fo mo) H := hB
          have hD : va_D Av (wC cA A g n hs pe pk fo mo) := va_Dsame (by rfl) hD
          refine lv_if_ne (tgt := 45) hx hb dX2_point_40 (by decide) (fun h9 => absurd h9 (by decide)) (fun _ => ?_)
          refine lv_iconst (v := 0) hx hb dX2_point_43 (by decide) ?_
          exact W.zret (ty := .boolean) (v := 0) hx hb hr (by decide) (fun t9 ht9 hW9 => ⟨⟨_, (g, n, hs, pe, pk, fo, mo), rfl, ((poi_f (fun h9 => hq9 ⟨h9.2.2.2.1, h9.2.2.2.2⟩)).symm), by dsimp only; rw [ht9]; exact hP⟩, hS.F ht9⟩) hS.2.2 dX2_point_44
      · have q3 : ¬ (rg d (-1000000) 1000000) := hq6
        refine lv_if_ne (tgt := 27) hx hb dX2_point_22 (by decide) (fun h9 => absurd h9 (by decide)) (fun _ => ?_)
        refine lv_iconst (v := 0) hx hb dX2_point_25 (by decide) ?_
        exact W.zret (ty := .boolean) (v := 0) hx hb hr (by decide) (fun t9 ht9 hW9 => ⟨⟨_, (g, n, hs, pe, pk, fo, mo), rfl, ((poi_f (fun h9 => q3 h9.2.2.1)).symm), by dsimp only; rw [ht9]; exact hP⟩, hS.F ht9⟩) hS.2.2 dX2_point_26
    · have q2 : ¬ (rg b (-30000) 30000) := hq4
      refine lv_if_eq (tgt := 25) hx hb dX2_point_11 (by decide) (fun _ => ?_) (fun h9 => absurd h9 (by decide))
      refine lv_iconst (v := 0) hx hb dX2_point_25 (by decide) ?_
      exact W.zret (ty := .boolean) (v := 0) hx hb hr (by decide) (fun t9 ht9 hW9 => ⟨⟨_, (g, n, hs, pe, pk, fo, mo), rfl, ((poi_f (fun h9 => q2 h9.2.1)).symm), by dsimp only; rw [ht9]; exact hP⟩, hS.F ht9⟩) hS.2.2 dX2_point_26
  · have q1 : ¬ (rg a 0 3) := hq2
    refine lv_if_eq (tgt := 25) hx hb dX2_point_4 (by decide) (fun _ => ?_) (fun h9 => absurd h9 (by decide))
    refine lv_iconst (v := 0) hx hb dX2_point_25 (by decide) ?_
    exact W.zret (ty := .boolean) (v := 0) hx hb hr (by decide) (fun t9 ht9 hW9 => ⟨⟨_, (g, n, hs, pe, pk, fo, mo), rfl, ((poi_f (fun h9 => q1 h9.1)).symm), by dsimp only; rw [ht9]; exact hP⟩, hS.F ht9⟩) hS.2.2 dX2_point_26

set_option maxRecDepth 20000 in
theorem miX2_born_X2 : ∀ w ∈ u_ws RX2 TX2 6, w ∈ wsX2_born := by decide +kernel
set_option maxRecDepth 20000 in
theorem mbX2_born_1 : (.fieldLink RX2 10 "SectionFibres" "section" "LSectionFibres$Section;" : Cond) ∈ wsX2_born := by decide +kernel
set_option maxRecDepth 20000 in
theorem mbX2_born_2 : (.initialized RX1 : Cond) ∈ wsX2_born := by decide +kernel
set_option maxRecDepth 20000 in
theorem mbX2_born_3 : (.instanceMethod yX1_has : Cond) ∈ wsX2_born := by decide +kernel
set_option maxRecDepth 20000 in
theorem mbX2_born_4 : (.selects RX1 yX1_has yX1_has : Cond) ∈ wsX2_born := by decide +kernel
set_option maxRecDepth 20000 in
theorem miX2_born_X1 : ∀ w ∈ u_ws RX1 TX1 7, w ∈ wsX2_born := by decide +kernel
set_option maxRecDepth 20000 in
theorem mbX2_born_6 : (.fieldLink RX2 36 "SectionFibres" "planeAtHand" "Z" : Cond) ∈ wsX2_born := by decide +kernel
set_option maxHeartbeats 4000000 in
set_option maxRecDepth 100000 in
theorem c_X2_born (l : Launch) (dC : Nat → ClassId) (dI : Nat → Nat → Nat) (cA : ClassId) (H : Heap) (A : Nat → Nat) (g : Gg) (n : Nat) (hs pe pk : Int32) (fo mo : Int64) (hP : va_P (dC, dI) vwCl (wC cA A g n hs pe pk fo mo) H) (hD : va_D (fun _ => True) (wC cA A g n hs pe pk fo mo)) (hn : n ≤ 40) (a b : Int32) : Met l yX2_born wsX2_born ({ frames := 2, cells := 0, slots := 0, locals := 43 }) (rd_P [.ref (A 0), .int a, .int b] H (dC, dI) vwCl [(cA, .int)]) (va_Qi (fun (r : Int32) (u : St) => (r, u) = borF (g, n, hs, pe, pk, fo, mo) a b) (fun u t => bC dC dI cA A u t.heap) (va_A (wC cA A g n hs pe pk fo mo) H.size)) 0 0 (va_A (wC cA A g n hs pe pk fo mo) H.size) := by
  refine Met.ofW (cc := cX2_born) (maxL := 3) (ret := (some .boolean)) (by decide) rfl ?_
  intro p e s m args below meth c s₁ B hml hv
  obtain ⟨rfl, hH, hK, hN⟩ := hv
  subst hH
  have hx := B.exec
  have hb := B.bytes
  have hr := B.returns
  have hts := atoms_spec (ws := wsX2_born) B.pre
  have hown : s.vm.findClass RX2 = some m.cls := findClass_of_methodNamed B.named
  have hlocks := B.notSynchronized
  have hD := hD.self (sz := s.heap.size)
  generalize hAe : va_A (wC cA A g n hs pe pk fo mo) s.heap.size = Av at hD ⊢
  have hA : ∀ q : Nat, s.heap.size ≤ q → Av q := fun q h => by rw [← hAe]; exact Or.inr h
  have hS : va_S Av s.heap s.heap [] := va_S.rf
  have hl := lv_entry ([.ref (A 0), .int a, .int b]) (n := 3) (Nat.le_of_ble_eq_true rfl)
  rw [lg_entry_eq]
  generalize (lg_sl ([.ref (A 0), .int a, .int b]) ++ List.replicate (3 - (lg_sl ([.ref (A 0), .int a, .int b])).length) Slot.unset).toArray = ls at hl ⊢
  have hl : lv_has ls 3 [(0, .ref (A 0)), (1, .int a), (2, .int b)] := hl
  refine lv_aload_n hx hb dX2_born_0 rfl (lv_at hl 0 rfl) ?_
  refine va_get (D := (dC, dI)) (ci := 3) (v := .ref (A 1)) (C := RX2) (T := TX2) (N := 6) hx hb hts miX2_born_X2 hown hK hP 0 rfl rfl 0 (by decide) (hts (.fieldLink RX2 10 "SectionFibres" "section" "LSectionFibres$Section;") mbX2_born_1) (fun _ h9 => h9) rfl dX2_born_1 ?_
  refine lv_iload_n hx hb dX2_born_4 rfl (lv_at hl 1 rfl) ?_
  refine rd_i (va_runVN (As := [.int a]) (rest := []) ⟨hx, hb, hml, hown, hts⟩ (c_X1_has l dC dI cA s.heap A g n hs pe pk fo mo hP (by omega) a) ⟨(va_cnB 1 hts gX2_born_X1_has_n54 rfl rfl rfl (hN (.methodLinkNest RX2 54 yX1_has "SectionFibres") (List.mem_of_getElem? (i := 4) rfl)) (hts (.initialized RX1) mbX2_born_2) (by decide +kernel) ⟨Nat.le_of_ble_eq_true rfl, Nat.le_of_ble_eq_true rfl⟩), hts (.instanceMethod yX1_has) mbX2_born_3, hts (.selects RX1 yX1_has yX1_has) mbX2_born_4⟩ ⟨rd_bl, va_recv hK hP (ci := 2) (q0 := 1) rfl rfl, rd_pre hK hN⟩ rfl rfl hl.1 rfl (lv_room (Nat.le_of_ble_eq_true rfl)) dX2_born_5 ⟨Nat.zero_le _, Nat.zero_le _⟩) hS (fun r1 locs hq2 hS => ?_)
  rcases hq2 with ⟨hq2, rfl⟩ | ⟨hq2, rfl⟩
  · have q1 : rg a 0 ((n : Int) - 1) := hq2
    refine lv_if_eq (tgt := 18) hx hb dX2_born_8 (by decide) (fun h9 => absurd h9 (by decide)) (fun _ => ?_)
    refine lv_iload_n hx hb dX2_born_11 rfl (lv_at hl 2 rfl) ?_
    refine rd_i (va_runS (As := [.int b]) (rest := []) ⟨hx, hb, hml, hown, hts⟩ (c_X2_isToldStrain l dC dI cA s.heap b) (va_cwS 1 hts gX2_born_X2_isToldStrain rfl rfl rfl (by decide +kernel) ⟨Nat.le_of_ble_eq_true rfl, Nat.le_of_ble_eq_true rfl⟩) ⟨rd_bl, rd_pre hK hN⟩ rfl rfl hl.1 rfl (lv_room (Nat.le_of_ble_eq_true rfl)) dX2_born_12 ⟨Nat.zero_le _, Nat.zero_le _⟩) hS (fun r3 locs hq4 hS => ?_)
    rcases hq4 with ⟨hq4, rfl⟩ | ⟨hq4, rfl⟩
    · have q2 : rg b (-30000) 30000 := hq4
      refine lv_if_ne (tgt := 20) hx hb dX2_born_15 (by decide) (fun _ => ?_) (fun h9 => absurd h9 (by decide))
      refine lv_aload_n hx hb dX2_born_20 rfl (lv_at hl 0 rfl) ?_
      refine va_get (D := (dC, dI)) (ci := 3) (v := .ref (A 1)) (C := RX2) (T := TX2) (N := 6) hx hb hts miX2_born_X2 hown hK hP 0 rfl rfl 0 (by decide) (hts (.fieldLink RX2 10 "SectionFibres" "section" "LSectionFibres$Section;") mbX2_born_1) (fun _ h9 => h9) rfl dX2_born_21 ?_
      refine va_getN (D := (dC, dI)) (ci := 2) (v := .ref (A 6)) (C := RX1) (T := TX1) (N := 7) hx hb hts miX2_born_X1 hown hK hP 1 rfl rfl 4 (by decide) (va_Nw.use rfl (hN (.fieldLinkNest RX2 57 "SectionFibres$Section" "births" "[I" "SectionFibres") (List.mem_of_getElem? (i := 26) rfl))) (fun _ h9 => h9) rfl dX2_born_24 ?_
      refine lv_iload_n hx hb dX2_born_27 rfl (lv_at hl 1 rfl) ?_
      refine lv_iload_n hx hb dX2_born_28 rfl (lv_at hl 2 rfl) ?_
      refine iasn hx hb hK hP hD hS 6 0 rfl rfl a.toNatClampNeg (rg_nI q1) (by have h9 := rg_lt q1; omega) (by decide) dX2_born_29 (fun H locs hP hD hS => ?_)
      have hP : va_P (dC, dI) vwCl (wC cA A (setG g 3 a.toNatClampNeg b) n hs pe pk fo mo) H := hP
      have hD : va_D Av (wC cA A (setG g 3 a.toNatClampNeg b) n hs pe pk fo mo) := hD
      refine lv_aload_n hx hb dX2_born_30 rfl (lv_at hl 0 rfl) ?_
      refine lv_iconst (v := 0) hx hb dX2_born_31 (by decide) ?_
      refine va_put (D := (dC, dI)) (ci := 3) (v := .int 0) (ty := .boolean) (C := RX2) (T := TX2) (N := 6) hx hb hts miX2_born_X2 tyX2 tyX2_ok nmX2 hown hK hP hD hS 0 rfl rfl 1 (by decide) (hts (.fieldLink RX2 36 "SectionFibres" "planeAtHand" "Z") mbX2_born_6) (fun _ h9 => h9) rfl (by decide +kernel) rfl rfl (Nat.le_of_ble_eq_true rfl) dX2_born_32 (fun H locs hP hD hS => ?_)
      have hP : va_P (dC, dI) vwCl (wC cA A (setG g 3 a.toNatClampNeg b) n 0 pe pk fo mo) H := hP
      have hD : va_D Av (wC cA A (setG g 3 a.toNatClampNeg b) n 0 pe pk fo mo) := hD
      refine lv_iconst (v := 1) hx hb dX2_born_35 (by decide) ?_
      exact W.zret (ty := .boolean) (v := 1) hx hb hr (by decide) (fun t9 ht9 hW9 => ⟨⟨_, ((setG g 3 a.toNatClampNeg b), n, 0, pe, pk, fo, mo), rfl, ((bor_t ⟨q1, q2⟩).symm), by dsimp only; rw [ht9]; exact hP⟩, hS.F ht9⟩) hS.2.2 dX2_born_36
    · have q2 : ¬ (rg b (-30000) 30000) := hq4
      refine lv_if_ne (tgt := 20) hx hb dX2_born_15 (by decide) (fun h9 => absurd h9 (by decide)) (fun _ => ?_)
      refine lv_iconst (v := 0) hx hb dX2_born_18 (by decide) ?_
      exact W.zret (ty := .boolean) (v := 0) hx hb hr (by decide) (fun t9 ht9 hW9 => ⟨⟨_, (g, n, hs, pe, pk, fo, mo), rfl, ((bor_f (fun h9 => q2 h9.2)).symm), by dsimp only; rw [ht9]; exact hP⟩, hS.F ht9⟩) hS.2.2 dX2_born_19
  · have q1 : ¬ (rg a 0 ((n : Int) - 1)) := hq2
    refine lv_if_eq (tgt := 18) hx hb dX2_born_8 (by decide) (fun _ => ?_) (fun h9 => absurd h9 (by decide))
    refine lv_iconst (v := 0) hx hb dX2_born_18 (by decide) ?_
    exact W.zret (ty := .boolean) (v := 0) hx hb hr (by decide) (fun t9 ht9 hW9 => ⟨⟨_, (g, n, hs, pe, pk, fo, mo), rfl, ((bor_f (fun h9 => q1 h9.1)).symm), by dsimp only; rw [ht9]; exact hP⟩, hS.F ht9⟩) hS.2.2 dX2_born_19

set_option maxRecDepth 20000 in
theorem miX2_keeps_X2 : ∀ w ∈ u_ws RX2 TX2 6, w ∈ wsX2_keeps := by decide +kernel
set_option maxRecDepth 20000 in
theorem mbX2_keeps_1 : (.fieldLink RX2 10 "SectionFibres" "section" "LSectionFibres$Section;" : Cond) ∈ wsX2_keeps := by decide +kernel
set_option maxRecDepth 20000 in
theorem mbX2_keeps_2 : (.initialized RX1 : Cond) ∈ wsX2_keeps := by decide +kernel
set_option maxRecDepth 20000 in
theorem mbX2_keeps_3 : (.instanceMethod yX1_has : Cond) ∈ wsX2_keeps := by decide +kernel
set_option maxRecDepth 20000 in
theorem mbX2_keeps_4 : (.selects RX1 yX1_has yX1_has : Cond) ∈ wsX2_keeps := by decide +kernel
set_option maxRecDepth 20000 in
theorem miX2_keeps_X1 : ∀ w ∈ u_ws RX1 TX1 7, w ∈ wsX2_keeps := by decide +kernel
set_option maxRecDepth 20000 in
theorem mbX2_keeps_6 : (.fieldLink RX2 36 "SectionFibres" "planeAtHand" "Z" : Cond) ∈ wsX2_keeps := by decide +kernel
set_option maxHeartbeats 4000000 in
set_option maxRecDepth 100000 in
theorem c_X2_keeps (l : Launch) (dC : Nat → ClassId) (dI : Nat → Nat → Nat) (cA : ClassId) (H : Heap) (A : Nat → Nat) (g : Gg) (n : Nat) (hs pe pk : Int32) (fo mo : Int64) (hP : va_P (dC, dI) vwCl (wC cA A g n hs pe pk fo mo) H) (hD : va_D (fun _ => True) (wC cA A g n hs pe pk fo mo)) (hn : n ≤ 40) (a b : Int32) : Met l yX2_keeps wsX2_keeps ({ frames := 2, cells := 0, slots := 0, locals := 43 }) (rd_P [.ref (A 0), .int a, .int b] H (dC, dI) vwCl [(cA, .int)]) (va_Qi (fun (r : Int32) (u : St) => (r, u) = keeF (g, n, hs, pe, pk, fo, mo) a b) (fun u t => bC dC dI cA A u t.heap) (va_A (wC cA A g n hs pe pk fo mo) H.size)) 0 0 (va_A (wC cA A g n hs pe pk fo mo) H.size) := by
  refine Met.ofW (cc := cX2_keeps) (maxL := 3) (ret := (some .boolean)) (by decide) rfl ?_
  intro p e s m args below meth c s₁ B hml hv
  obtain ⟨rfl, hH, hK, hN⟩ := hv
  subst hH
  have hx := B.exec
  have hb := B.bytes
  have hr := B.returns
  have hts := atoms_spec (ws := wsX2_keeps) B.pre
  have hown : s.vm.findClass RX2 = some m.cls := findClass_of_methodNamed B.named
  have hlocks := B.notSynchronized
  have hD := hD.self (sz := s.heap.size)
  generalize hAe : va_A (wC cA A g n hs pe pk fo mo) s.heap.size = Av at hD ⊢
  have hA : ∀ q : Nat, s.heap.size ≤ q → Av q := fun q h => by rw [← hAe]; exact Or.inr h
  have hS : va_S Av s.heap s.heap [] := va_S.rf
  have hl := lv_entry ([.ref (A 0), .int a, .int b]) (n := 3) (Nat.le_of_ble_eq_true rfl)
  rw [lg_entry_eq]
  generalize (lg_sl ([.ref (A 0), .int a, .int b]) ++ List.replicate (3 - (lg_sl ([.ref (A 0), .int a, .int b])).length) Slot.unset).toArray = ls at hl ⊢
  have hl : lv_has ls 3 [(0, .ref (A 0)), (1, .int a), (2, .int b)] := hl
  refine lv_aload_n hx hb dX2_keeps_0 rfl (lv_at hl 0 rfl) ?_
  refine va_get (D := (dC, dI)) (ci := 3) (v := .ref (A 1)) (C := RX2) (T := TX2) (N := 6) hx hb hts miX2_keeps_X2 hown hK hP 0 rfl rfl 0 (by decide) (hts (.fieldLink RX2 10 "SectionFibres" "section" "LSectionFibres$Section;") mbX2_keeps_1) (fun _ h9 => h9) rfl dX2_keeps_1 ?_
  refine lv_iload_n hx hb dX2_keeps_4 rfl (lv_at hl 1 rfl) ?_
  refine rd_i (va_runVN (As := [.int a]) (rest := []) ⟨hx, hb, hml, hown, hts⟩ (c_X1_has l dC dI cA s.heap A g n hs pe pk fo mo hP (by omega) a) ⟨(va_cnB 1 hts gX2_keeps_X1_has_n54 rfl rfl rfl (hN (.methodLinkNest RX2 54 yX1_has "SectionFibres") (List.mem_of_getElem? (i := 4) rfl)) (hts (.initialized RX1) mbX2_keeps_2) (by decide +kernel) ⟨Nat.le_of_ble_eq_true rfl, Nat.le_of_ble_eq_true rfl⟩), hts (.instanceMethod yX1_has) mbX2_keeps_3, hts (.selects RX1 yX1_has yX1_has) mbX2_keeps_4⟩ ⟨rd_bl, va_recv hK hP (ci := 2) (q0 := 1) rfl rfl, rd_pre hK hN⟩ rfl rfl hl.1 rfl (lv_room (Nat.le_of_ble_eq_true rfl)) dX2_keeps_5 ⟨Nat.zero_le _, Nat.zero_le _⟩) hS (fun r1 locs hq2 hS => ?_)
  rcases hq2 with ⟨hq2, rfl⟩ | ⟨hq2, rfl⟩
  · have q1 : rg a 0 ((n : Int) - 1) := hq2
    refine lv_if_eq (tgt := 21) hx hb dX2_keeps_8 (by decide) (fun h9 => absurd h9 (by decide)) (fun _ => ?_)
    refine lv_iload_n hx hb dX2_keeps_11 rfl (lv_at hl 2 rfl) ?_
    refine lv_iconst (v := 0) hx hb dX2_keeps_12 (by decide) ?_
    refine lv_bipush (v := 100) hx hb dX2_keeps_13 (by decide) ?_
    refine rd_i (va_runS (As := [.int b, .int 0, .int 100]) (rest := []) ⟨hx, hb, hml, hown, hts⟩ (c_X2_within l dC dI cA s.heap b 0 100 0 100 (by decide) (by decide)) (va_cwS 3 hts gX2_keeps_X2_within rfl rfl rfl (by decide +kernel) ⟨Nat.le_of_ble_eq_true rfl, Nat.le_of_ble_eq_true rfl⟩) ⟨rd_bl, rd_pre hK hN⟩ rfl rfl hl.1 rfl (lv_room (Nat.le_of_ble_eq_true rfl)) dX2_keeps_15 ⟨Nat.zero_le _, Nat.zero_le _⟩) hS (fun r3 locs hq4 hS => ?_)
    rcases hq4 with ⟨hq4, rfl⟩ | ⟨hq4, rfl⟩
    · have q2 : rg b 0 100 := hq4
      refine lv_if_ne (tgt := 23) hx hb dX2_keeps_18 (by decide) (fun _ => ?_) (fun h9 => absurd h9 (by decide))
      refine lv_aload_n hx hb dX2_keeps_23 rfl (lv_at hl 0 rfl) ?_
      refine va_get (D := (dC, dI)) (ci := 3) (v := .ref (A 1)) (C := RX2) (T := TX2) (N := 6) hx hb hts miX2_keeps_X2 hown hK hP 0 rfl rfl 0 (by decide) (hts (.fieldLink RX2 10 "SectionFibres" "section" "LSectionFibres$Section;") mbX2_keeps_1) (fun _ h9 => h9) rfl dX2_keeps_24 ?_
      refine va_getN (D := (dC, dI)) (ci := 2) (v := .ref (A 7)) (C := RX1) (T := TX1) (N := 7) hx hb hts miX2_keeps_X1 hown hK hP 1 rfl rfl 5 (by decide) (va_Nw.use rfl (hN (.fieldLinkNest RX2 67 "SectionFibres$Section" "kept" "[I" "SectionFibres") (List.mem_of_getElem? (i := 27) rfl))) (fun _ h9 => h9) rfl dX2_keeps_27 ?_
      refine lv_iload_n hx hb dX2_keeps_30 rfl (lv_at hl 1 rfl) ?_
      refine lv_iload_n hx hb dX2_keeps_31 rfl (lv_at hl 2 rfl) ?_
      refine iasn hx hb hK hP hD hS 7 0 rfl rfl a.toNatClampNeg (rg_nI q1) (by have h9 := rg_lt q1; omega) (by decide) dX2_keeps_32 (fun H locs hP hD hS => ?_)
      have hP : va_P (dC, dI) vwCl (wC cA A (setG g 4 a.toNatClampNeg b) n hs pe pk fo mo) H := hP
      have hD : va_D Av (wC cA A (setG g 4 a.toNatClampNeg b) n hs pe pk fo mo) := hD
      refine lv_aload_n hx hb dX2_keeps_33 rfl (lv_at hl 0 rfl) ?_
      refine lv_iconst (v := 0) hx hb dX2_keeps_34 (by decide) ?_
      refine va_put (D := (dC, dI)) (ci := 3) (v := .int 0) (ty := .boolean) (C := RX2) (T := TX2) (N := 6) hx hb hts miX2_keeps_X2 tyX2 tyX2_ok nmX2 hown hK hP hD hS 0 rfl rfl 1 (by decide) (hts (.fieldLink RX2 36 "SectionFibres" "planeAtHand" "Z") mbX2_keeps_6) (fun _ h9 => h9) rfl (by decide +kernel) rfl rfl (Nat.le_of_ble_eq_true rfl) dX2_keeps_35 (fun H locs hP hD hS => ?_)
      have hP : va_P (dC, dI) vwCl (wC cA A (setG g 4 a.toNatClampNeg b) n 0 pe pk fo mo) H := hP
      have hD : va_D Av (wC cA A (setG g 4 a.toNatClampNeg b) n 0 pe pk fo mo) := hD
      refine lv_iconst (v := 1) hx hb dX2_keeps_38 (by decide) ?_
      exact W.zret (ty := .boolean) (v := 1) hx hb hr (by decide) (fun t9 ht9 hW9 => ⟨⟨_, ((setG g 4 a.toNatClampNeg b), n, 0, pe, pk, fo, mo), rfl, ((kee_t ⟨q1, q2⟩).symm), by dsimp only; rw [ht9]; exact hP⟩, hS.F ht9⟩) hS.2.2 dX2_keeps_39
    · have q2 : ¬ (rg b 0 100) := hq4
      refine lv_if_ne (tgt := 23) hx hb dX2_keeps_18 (by decide) (fun h9 => absurd h9 (by decide)) (fun _ => ?_)
      refine lv_iconst (v := 0) hx hb dX2_keeps_21 (by decide) ?_
      exact W.zret (ty := .boolean) (v := 0) hx hb hr (by decide) (fun t9 ht9 hW9 => ⟨⟨_, (g, n, hs, pe, pk, fo, mo), rfl, ((kee_f (fun h9 => q2 h9.2)).symm), by dsimp only; rw [ht9]; exact hP⟩, hS.F ht9⟩) hS.2.2 dX2_keeps_22
  · have q1 : ¬ (rg a 0 ((n : Int) - 1)) := hq2
    refine lv_if_eq (tgt := 21) hx hb dX2_keeps_8 (by decide) (fun _ => ?_) (fun h9 => absurd h9 (by decide))
    refine lv_iconst (v := 0) hx hb dX2_keeps_21 (by decide) ?_
    exact W.zret (ty := .boolean) (v := 0) hx hb hr (by decide) (fun t9 ht9 hW9 => ⟨⟨_, (g, n, hs, pe, pk, fo, mo), rfl, ((kee_f (fun h9 => q1 h9.1)).symm), by dsimp only; rw [ht9]; exact hP⟩, hS.F ht9⟩) hS.2.2 dX2_keeps_22

set_option maxRecDepth 20000 in
theorem miX2_creeps_X2 : ∀ w ∈ u_ws RX2 TX2 6, w ∈ wsX2_creeps := by decide +kernel
set_option maxRecDepth 20000 in
theorem mbX2_creeps_1 : (.fieldLink RX2 10 "SectionFibres" "section" "LSectionFibres$Section;" : Cond) ∈ wsX2_creeps := by decide +kernel
set_option maxRecDepth 20000 in
theorem miX2_creeps_X1 : ∀ w ∈ u_ws RX1 TX1 7, w ∈ wsX2_creeps := by decide +kernel
set_option maxRecDepth 20000 in
theorem miX2_creeps_X0 : ∀ w ∈ u_ws RX0 TX0 5, w ∈ wsX2_creeps := by decide +kernel
set_option maxRecDepth 20000 in
theorem mbX2_creeps_4 : (.fieldLink RX2 36 "SectionFibres" "planeAtHand" "Z" : Cond) ∈ wsX2_creeps := by decide +kernel
set_option maxHeartbeats 4000000 in
set_option maxRecDepth 100000 in
theorem c_X2_creeps (l : Launch) (dC : Nat → ClassId) (dI : Nat → Nat → Nat) (cA : ClassId) (H : Heap) (A : Nat → Nat) (g : Gg) (n : Nat) (hs pe pk : Int32) (fo mo : Int64) (hP : va_P (dC, dI) vwCl (wC cA A g n hs pe pk fo mo) H) (hD : va_D (fun _ => True) (wC cA A g n hs pe pk fo mo)) (a b : Int32) : Met l yX2_creeps wsX2_creeps ({ frames := 2, cells := 0, slots := 0, locals := 42 }) (rd_P [.ref (A 0), .int a, .int b] H (dC, dI) vwCl [(cA, .int)]) (va_Qi (fun (r : Int32) (u : St) => (r, u) = creF (g, n, hs, pe, pk, fo, mo) a b) (fun u t => bC dC dI cA A u t.heap) (va_A (wC cA A g n hs pe pk fo mo) H.size)) 0 0 (va_A (wC cA A g n hs pe pk fo mo) H.size) := by
  refine Met.ofW (cc := cX2_creeps) (maxL := 3) (ret := (some .boolean)) (by decide) rfl ?_
  intro p e s m args below meth c s₁ B hml hv
  obtain ⟨rfl, hH, hK, hN⟩ := hv
  subst hH
  have hx := B.exec
  have hb := B.bytes
  have hr := B.returns
  have hts := atoms_spec (ws := wsX2_creeps) B.pre
  have hown : s.vm.findClass RX2 = some m.cls := findClass_of_methodNamed B.named
  have hlocks := B.notSynchronized
  have hD := hD.self (sz := s.heap.size)
  generalize hAe : va_A (wC cA A g n hs pe pk fo mo) s.heap.size = Av at hD ⊢
  have hA : ∀ q : Nat, s.heap.size ≤ q → Av q := fun q h => by rw [← hAe]; exact Or.inr h
  have hS : va_S Av s.heap s.heap [] := va_S.rf
  have hl := lv_entry ([.ref (A 0), .int a, .int b]) (n := 3) (Nat.le_of_ble_eq_true rfl)
  rw [lg_entry_eq]
  generalize (lg_sl ([.ref (A 0), .int a, .int b]) ++ List.replicate (3 - (lg_sl ([.ref (A 0), .int a, .int b])).length) Slot.unset).toArray = ls at hl ⊢
  have hl : lv_has ls 3 [(0, .ref (A 0)), (1, .int a), (2, .int b)] := hl
  refine lv_iload_n hx hb dX2_creeps_0 rfl (lv_at hl 1 rfl) ?_
  refine rd_i (va_runS (As := [.int a]) (rest := []) ⟨hx, hb, hml, hown, hts⟩ (c_X2_isKind l dC dI cA s.heap a) (va_cwS 1 hts gX2_creeps_X2_isKind rfl rfl rfl (by decide +kernel) ⟨Nat.le_of_ble_eq_true rfl, Nat.le_of_ble_eq_true rfl⟩) ⟨rd_bl, rd_pre hK hN⟩ rfl rfl hl.1 rfl (lv_room (Nat.le_of_ble_eq_true rfl)) dX2_creeps_1 ⟨Nat.zero_le _, Nat.zero_le _⟩) hS (fun r1 locs hq2 hS => ?_)
  rcases hq2 with ⟨hq2, rfl⟩ | ⟨hq2, rfl⟩
  · have q1 : rg a 0 3 := hq2
    refine lv_if_eq (tgt := 18) hx hb dX2_creeps_4 (by decide) (fun h9 => absurd h9 (by decide)) (fun _ => ?_)
    refine lv_iload_n hx hb dX2_creeps_7 rfl (lv_at hl 2 rfl) ?_
    refine lv_iconst (v := 0) hx hb dX2_creeps_8 (by decide) ?_
    refine lv_sipush (v := 500) hx hb dX2_creeps_9 (by decide) ?_
    refine rd_i (va_runS (As := [.int b, .int 0, .int 500]) (rest := []) ⟨hx, hb, hml, hown, hts⟩ (c_X2_within l dC dI cA s.heap b 0 500 0 500 (by decide) (by decide)) (va_cwS 3 hts gX2_creeps_X2_within rfl rfl rfl (by decide +kernel) ⟨Nat.le_of_ble_eq_true rfl, Nat.le_of_ble_eq_true rfl⟩) ⟨rd_bl, rd_pre hK hN⟩ rfl rfl hl.1 rfl (lv_room (Nat.le_of_ble_eq_true rfl)) dX2_creeps_12 ⟨Nat.zero_le _, Nat.zero_le _⟩) hS (fun r3 locs hq4 hS => ?_)
    rcases hq4 with ⟨hq4, rfl⟩ | ⟨hq4, rfl⟩
    · have q2 : rg b 0 500 := hq4
      refine lv_if_ne (tgt := 20) hx hb dX2_creeps_15 (by decide) (fun _ => ?_) (fun h9 => absurd h9 (by decide))
      refine lv_aload_n hx hb dX2_creeps_20 rfl (lv_at hl 0 rfl) ?_
      refine va_get (D := (dC, dI)) (ci := 3) (v := .ref (A 1)) (C := RX2) (T := TX2) (N := 6) hx hb hts miX2_creeps_X2 hown hK hP 0 rfl rfl 0 (by decide) (hts (.fieldLink RX2 10 "SectionFibres" "section" "LSectionFibres$Section;") mbX2_creeps_1) (fun _ h9 => h9) rfl dX2_creeps_21 ?_
      refine va_getN (D := (dC, dI)) (ci := 2) (v := .ref (A 2)) (C := RX1) (T := TX1) (N := 7) hx hb hts miX2_creeps_X1 hown hK hP 1 rfl rfl 0 (by decide) (va_Nw.use rfl (hN (.fieldLinkNest RX2 45 "SectionFibres$Section" "kinds" "LSectionFibres$Kinds;" "SectionFibres") (List.mem_of_getElem? (i := 25) rfl))) (fun _ h9 => h9) rfl dX2_creeps_24 ?_
      refine va_getN (D := (dC, dI)) (ci := 1) (v := .ref (A 11)) (C := RX0) (T := TX0) (N := 5) hx hb hts miX2_creeps_X0 hown hK hP 2 rfl rfl 3 (by decide) (va_Nw.use rfl (hN (.fieldLinkNest RX2 61 "SectionFibres$Kinds" "creep" "[I" "SectionFibres") (List.mem_of_getElem? (i := 21) rfl))) (fun _ h9 => h9) rfl dX2_creeps_27 ?_
      refine lv_iload_n hx hb dX2_creeps_30 rfl (lv_at hl 1 rfl) ?_
      refine lv_iload_n hx hb dX2_creeps_31 rfl (lv_at hl 2 rfl) ?_
      refine iasn hx hb hK hP hD hS 11 0 rfl rfl a.toNatClampNeg (rg_nI q1) (by have h9 := rg_lt q1; omega) (by decide) dX2_creeps_32 (fun H locs hP hD hS => ?_)
      have hP : va_P (dC, dI) vwCl (wC cA A (setG g 8 a.toNatClampNeg b) n hs pe pk fo mo) H := hP
      have hD : va_D Av (wC cA A (setG g 8 a.toNatClampNeg b) n hs pe pk fo mo) := hD
      refine lv_aload_n hx hb dX2_creeps_33 rfl (lv_at hl 0 rfl) ?_
      refine lv_iconst (v := 0) hx hb dX2_creeps_34 (by decide) ?_
      refine va_put (D := (dC, dI)) (ci := 3) (v := .int 0) (ty := .boolean) (C := RX2) (T := TX2) (N := 6) hx hb hts miX2_creeps_X2 tyX2 tyX2_ok nmX2 hown hK hP hD hS 0 rfl rfl 1 (by decide) (hts (.fieldLink RX2 36 "SectionFibres" "planeAtHand" "Z") mbX2_creeps_4) (fun _ h9 => h9) rfl (by decide +kernel) rfl rfl (Nat.le_of_ble_eq_true rfl) dX2_creeps_35 (fun H locs hP hD hS => ?_)
      have hP : va_P (dC, dI) vwCl (wC cA A (setG g 8 a.toNatClampNeg b) n 0 pe pk fo mo) H := hP
      have hD : va_D Av (wC cA A (setG g 8 a.toNatClampNeg b) n 0 pe pk fo mo) := hD
      refine lv_iconst (v := 1) hx hb dX2_creeps_38 (by decide) ?_
      exact W.zret (ty := .boolean) (v := 1) hx hb hr (by decide) (fun t9 ht9 hW9 => ⟨⟨_, ((setG g 8 a.toNatClampNeg b), n, 0, pe, pk, fo, mo), rfl, ((cre_t ⟨q1, q2⟩).symm), by dsimp only; rw [ht9]; exact hP⟩, hS.F ht9⟩) hS.2.2 dX2_creeps_39
    · have q2 : ¬ (rg b 0 500) := hq4
      refine lv_if_ne (tgt := 20) hx hb dX2_creeps_15 (by decide) (fun h9 => absurd h9 (by decide)) (fun _ => ?_)
      refine lv_iconst (v := 0) hx hb dX2_creeps_18 (by decide) ?_
      exact W.zret (ty := .boolean) (v := 0) hx hb hr (by decide) (fun t9 ht9 hW9 => ⟨⟨_, (g, n, hs, pe, pk, fo, mo), rfl, ((cre_f (fun h9 => q2 h9.2)).symm), by dsimp only; rw [ht9]; exact hP⟩, hS.F ht9⟩) hS.2.2 dX2_creeps_19
  · have q1 : ¬ (rg a 0 3) := hq2
    refine lv_if_eq (tgt := 18) hx hb dX2_creeps_4 (by decide) (fun _ => ?_) (fun h9 => absurd h9 (by decide))
    refine lv_iconst (v := 0) hx hb dX2_creeps_18 (by decide) ?_
    exact W.zret (ty := .boolean) (v := 0) hx hb hr (by decide) (fun t9 ht9 hW9 => ⟨⟨_, (g, n, hs, pe, pk, fo, mo), rfl, ((cre_f (fun h9 => q1 h9.1)).symm), by dsimp only; rw [ht9]; exact hP⟩, hS.F ht9⟩) hS.2.2 dX2_creeps_19

set_option maxRecDepth 20000 in
theorem miX2_shrinks_X2 : ∀ w ∈ u_ws RX2 TX2 6, w ∈ wsX2_shrinks := by decide +kernel
set_option maxRecDepth 20000 in
theorem mbX2_shrinks_1 : (.fieldLink RX2 10 "SectionFibres" "section" "LSectionFibres$Section;" : Cond) ∈ wsX2_shrinks := by decide +kernel
set_option maxRecDepth 20000 in
theorem miX2_shrinks_X1 : ∀ w ∈ u_ws RX1 TX1 7, w ∈ wsX2_shrinks := by decide +kernel
set_option maxRecDepth 20000 in
theorem miX2_shrinks_X0 : ∀ w ∈ u_ws RX0 TX0 5, w ∈ wsX2_shrinks := by decide +kernel
set_option maxRecDepth 20000 in
theorem mbX2_shrinks_4 : (.fieldLink RX2 36 "SectionFibres" "planeAtHand" "Z" : Cond) ∈ wsX2_shrinks := by decide +kernel
set_option maxHeartbeats 4000000 in
set_option maxRecDepth 100000 in
theorem c_X2_shrinks (l : Launch) (dC : Nat → ClassId) (dI : Nat → Nat → Nat) (cA : ClassId) (H : Heap) (A : Nat → Nat) (g : Gg) (n : Nat) (hs pe pk : Int32) (fo mo : Int64) (hP : va_P (dC, dI) vwCl (wC cA A g n hs pe pk fo mo) H) (hD : va_D (fun _ => True) (wC cA A g n hs pe pk fo mo)) (a b : Int32) : Met l yX2_shrinks wsX2_shrinks ({ frames := 2, cells := 0, slots := 0, locals := 42 }) (rd_P [.ref (A 0), .int a, .int b] H (dC, dI) vwCl [(cA, .int)]) (va_Qi (fun (r : Int32) (u : St) => (r, u) = shrF (g, n, hs, pe, pk, fo, mo) a b) (fun u t => bC dC dI cA A u t.heap) (va_A (wC cA A g n hs pe pk fo mo) H.size)) 0 0 (va_A (wC cA A g n hs pe pk fo mo) H.size) := by
  refine Met.ofW (cc := cX2_shrinks) (maxL := 3) (ret := (some .boolean)) (by decide) rfl ?_
  intro p e s m args below meth c s₁ B hml hv
  obtain ⟨rfl, hH, hK, hN⟩ := hv
  subst hH
  have hx := B.exec
  have hb := B.bytes
  have hr := B.returns
  have hts := atoms_spec (ws := wsX2_shrinks) B.pre
  have hown : s.vm.findClass RX2 = some m.cls := findClass_of_methodNamed B.named
  have hlocks := B.notSynchronized
  have hD := hD.self (sz := s.heap.size)
  generalize hAe : va_A (wC cA A g n hs pe pk fo mo) s.heap.size = Av at hD ⊢
  have hA : ∀ q : Nat, s.heap.size ≤ q → Av q := fun q h => by rw [← hAe]; exact Or.inr h
  have hS : va_S Av s.heap s.heap [] := va_S.rf
  have hl := lv_entry ([.ref (A 0), .int a, .int b]) (n := 3) (Nat.le_of_ble_eq_true rfl)
  rw [lg_entry_eq]
  generalize (lg_sl ([.ref (A 0), .int a, .int b]) ++ List.replicate (3 - (lg_sl ([.ref (A 0), .int a, .int b])).length) Slot.unset).toArray = ls at hl ⊢
  have hl : lv_has ls 3 [(0, .ref (A 0)), (1, .int a), (2, .int b)] := hl
  refine lv_iload_n hx hb dX2_shrinks_0 rfl (lv_at hl 1 rfl) ?_
  refine rd_i (va_runS (As := [.int a]) (rest := []) ⟨hx, hb, hml, hown, hts⟩ (c_X2_isKind l dC dI cA s.heap a) (va_cwS 1 hts gX2_shrinks_X2_isKind rfl rfl rfl (by decide +kernel) ⟨Nat.le_of_ble_eq_true rfl, Nat.le_of_ble_eq_true rfl⟩) ⟨rd_bl, rd_pre hK hN⟩ rfl rfl hl.1 rfl (lv_room (Nat.le_of_ble_eq_true rfl)) dX2_shrinks_1 ⟨Nat.zero_le _, Nat.zero_le _⟩) hS (fun r1 locs hq2 hS => ?_)
  rcases hq2 with ⟨hq2, rfl⟩ | ⟨hq2, rfl⟩
  · have q1 : rg a 0 3 := hq2
    refine lv_if_eq (tgt := 20) hx hb dX2_shrinks_4 (by decide) (fun h9 => absurd h9 (by decide)) (fun _ => ?_)
    refine lv_iload_n hx hb dX2_shrinks_7 rfl (lv_at hl 2 rfl) ?_
    refine lv_sipush (v := (-5000)) hx hb dX2_shrinks_8 (by decide) ?_
    refine lv_sipush (v := 5000) hx hb dX2_shrinks_11 (by decide) ?_
    refine rd_i (va_runS (As := [.int b, .int (-5000), .int 5000]) (rest := []) ⟨hx, hb, hml, hown, hts⟩ (c_X2_within l dC dI cA s.heap b (-5000) 5000 (-5000) 5000 (by decide) (by decide)) (va_cwS 3 hts gX2_shrinks_X2_within rfl rfl rfl (by decide +kernel) ⟨Nat.le_of_ble_eq_true rfl, Nat.le_of_ble_eq_true rfl⟩) ⟨rd_bl, rd_pre hK hN⟩ rfl rfl hl.1 rfl (lv_room (Nat.le_of_ble_eq_true rfl)) dX2_shrinks_14 ⟨Nat.zero_le _, Nat.zero_le _⟩) hS (fun r3 locs hq4 hS => ?_)
    rcases hq4 with ⟨hq4, rfl⟩ | ⟨hq4, rfl⟩
    · have q2 : rg b (-5000) 5000 := hq4
      refine lv_if_ne (tgt := 22) hx hb dX2_shrinks_17 (by decide) (fun _ => ?_) (fun h9 => absurd h9 (by decide))
      refine lv_aload_n hx hb dX2_shrinks_22 rfl (lv_at hl 0 rfl) ?_
      refine va_get (D := (dC, dI)) (ci := 3) (v := .ref (A 1)) (C := RX2) (T := TX2) (N := 6) hx hb hts miX2_shrinks_X2 hown hK hP 0 rfl rfl 0 (by decide) (hts (.fieldLink RX2 10 "SectionFibres" "section" "LSectionFibres$Section;") mbX2_shrinks_1) (fun _ h9 => h9) rfl dX2_shrinks_23 ?_
      refine va_getN (D := (dC, dI)) (ci := 2) (v := .ref (A 2)) (C := RX1) (T := TX1) (N := 7) hx hb hts miX2_shrinks_X1 hown hK hP 1 rfl rfl 0 (by decide) (va_Nw.use rfl (hN (.fieldLinkNest RX2 45 "SectionFibres$Section" "kinds" "LSectionFibres$Kinds;" "SectionFibres") (List.mem_of_getElem? (i := 25) rfl))) (fun _ h9 => h9) rfl dX2_shrinks_26 ?_
      refine va_getN (D := (dC, dI)) (ci := 1) (v := .ref (A 12)) (C := RX0) (T := TX0) (N := 5) hx hb hts miX2_shrinks_X0 hown hK hP 2 rfl rfl 4 (by decide) (va_Nw.use rfl (hN (.fieldLinkNest RX2 64 "SectionFibres$Kinds" "shrunk" "[I" "SectionFibres") (List.mem_of_getElem? (i := 23) rfl))) (fun _ h9 => h9) rfl dX2_shrinks_29 ?_
      refine lv_iload_n hx hb dX2_shrinks_32 rfl (lv_at hl 1 rfl) ?_
      refine lv_iload_n hx hb dX2_shrinks_33 rfl (lv_at hl 2 rfl) ?_
      refine iasn hx hb hK hP hD hS 12 0 rfl rfl a.toNatClampNeg (rg_nI q1) (by have h9 := rg_lt q1; omega) (by decide) dX2_shrinks_34 (fun H locs hP hD hS => ?_)
      have hP : va_P (dC, dI) vwCl (wC cA A (setG g 9 a.toNatClampNeg b) n hs pe pk fo mo) H := hP
      have hD : va_D Av (wC cA A (setG g 9 a.toNatClampNeg b) n hs pe pk fo mo) := hD
      refine lv_aload_n hx hb dX2_shrinks_35 rfl (lv_at hl 0 rfl) ?_
      refine lv_iconst (v := 0) hx hb dX2_shrinks_36 (by decide) ?_
      refine va_put (D := (dC, dI)) (ci := 3) (v := .int 0) (ty := .boolean) (C := RX2) (T := TX2) (N := 6) hx hb hts miX2_shrinks_X2 tyX2 tyX2_ok nmX2 hown hK hP hD hS 0 rfl rfl 1 (by decide) (hts (.fieldLink RX2 36 "SectionFibres" "planeAtHand" "Z") mbX2_shrinks_4) (fun _ h9 => h9) rfl (by decide +kernel) rfl rfl (Nat.le_of_ble_eq_true rfl) dX2_shrinks_37 (fun H locs hP hD hS => ?_)
      have hP : va_P (dC, dI) vwCl (wC cA A (setG g 9 a.toNatClampNeg b) n 0 pe pk fo mo) H := hP
      have hD : va_D Av (wC cA A (setG g 9 a.toNatClampNeg b) n 0 pe pk fo mo) := hD
      refine lv_iconst (v := 1) hx hb dX2_shrinks_40 (by decide) ?_
      exact W.zret (ty := .boolean) (v := 1) hx hb hr (by decide) (fun t9 ht9 hW9 => ⟨⟨_, ((setG g 9 a.toNatClampNeg b), n, 0, pe, pk, fo, mo), rfl, ((shr_t ⟨q1, q2⟩).symm), by dsimp only; rw [ht9]; exact hP⟩, hS.F ht9⟩) hS.2.2 dX2_shrinks_41
    · have q2 : ¬ (rg b (-5000) 5000) := hq4
      refine lv_if_ne (tgt := 22) hx hb dX2_shrinks_17 (by decide) (fun h9 => absurd h9 (by decide)) (fun _ => ?_)
      refine lv_iconst (v := 0) hx hb dX2_shrinks_20 (by decide) ?_
      exact W.zret (ty := .boolean) (v := 0) hx hb hr (by decide) (fun t9 ht9 hW9 => ⟨⟨_, (g, n, hs, pe, pk, fo, mo), rfl, ((shr_f (fun h9 => q2 h9.2)).symm), by dsimp only; rw [ht9]; exact hP⟩, hS.F ht9⟩) hS.2.2 dX2_shrinks_21
  · have q1 : ¬ (rg a 0 3) := hq2
    refine lv_if_eq (tgt := 20) hx hb dX2_shrinks_4 (by decide) (fun _ => ?_) (fun h9 => absurd h9 (by decide))
    refine lv_iconst (v := 0) hx hb dX2_shrinks_20 (by decide) ?_
    exact W.zret (ty := .boolean) (v := 0) hx hb hr (by decide) (fun t9 ht9 hW9 => ⟨⟨_, (g, n, hs, pe, pk, fo, mo), rfl, ((shr_f (fun h9 => q1 h9.1)).symm), by dsimp only; rw [ht9]; exact hP⟩, hS.F ht9⟩) hS.2.2 dX2_shrinks_21

set_option maxRecDepth 20000 in
theorem miX2_run_X2 : ∀ w ∈ u_ws RX2 TX2 6, w ∈ wsX2_run := by decide +kernel
set_option maxRecDepth 20000 in
theorem mbX2_run_1 : (.fieldLink RX2 10 "SectionFibres" "section" "LSectionFibres$Section;" : Cond) ∈ wsX2_run := by decide +kernel
set_option maxRecDepth 20000 in
theorem mbX2_run_2 : (.initialized RX1 : Cond) ∈ wsX2_run := by decide +kernel
set_option maxRecDepth 20000 in
theorem mbX2_run_3 : (.instanceMethod yX1_bendFor : Cond) ∈ wsX2_run := by decide +kernel
set_option maxRecDepth 20000 in
theorem mbX2_run_4 : (.selects RX1 yX1_bendFor yX1_bendFor : Cond) ∈ wsX2_run := by decide +kernel
set_option maxRecDepth 20000 in
theorem mbX2_run_5 : (.constant RX2 101 (1000001) : Cond) ∈ wsX2_run := by decide +kernel
set_option maxRecDepth 20000 in
theorem mbX2_run_6 : (.constant RX2 102 (1000002) : Cond) ∈ wsX2_run := by decide +kernel
set_option maxRecDepth 20000 in
theorem mbX2_run_7 : (.fieldLink RX2 36 "SectionFibres" "planeAtHand" "Z" : Cond) ∈ wsX2_run := by decide +kernel
set_option maxRecDepth 20000 in
theorem mbX2_run_8 : (.instanceMethod yX1_balanceOf : Cond) ∈ wsX2_run := by decide +kernel
set_option maxRecDepth 20000 in
theorem mbX2_run_9 : (.selects RX1 yX1_balanceOf yX1_balanceOf : Cond) ∈ wsX2_run := by decide +kernel
set_option maxRecDepth 20000 in
theorem mbX2_run_10 : (.fieldLink RX2 103 "SectionFibres" "planeE" "I" : Cond) ∈ wsX2_run := by decide +kernel
set_option maxRecDepth 20000 in
theorem mbX2_run_11 : (.fieldLink RX2 106 "SectionFibres" "planeK" "I" : Cond) ∈ wsX2_run := by decide +kernel
set_option maxRecDepth 20000 in
theorem mbX2_run_12 : (.fieldLink RX2 109 "SectionFibres" "solvedForce" "J" : Cond) ∈ wsX2_run := by decide +kernel
set_option maxRecDepth 20000 in
theorem mbX2_run_13 : (.fieldLink RX2 113 "SectionFibres" "solvedMoment" "J" : Cond) ∈ wsX2_run := by decide +kernel
set_option maxHeartbeats 4000000 in
set_option maxRecDepth 100000 in
theorem c_X2_run (l : Launch) (dC : Nat → ClassId) (dI : Nat → Nat → Nat) (cA : ClassId) (H : Heap) (A : Nat → Nat) (g : Gg) (n : Nat) (hs pe pk : Int32) (fo mo : Int64) (hP : va_P (dC, dI) vwCl (wC cA A g n hs pe pk fo mo) H) (hD : va_D (fun _ => True) (wC cA A g n hs pe pk fo mo)) (hg : InvG g) (hn : n ≤ 41) (fr mv : Int64) : Met l yX2_run wsX2_run ({ frames := 6, cells := 0, slots := 0, locals := 158 }) (rd_P [.ref (A 0), .long fr, .long mv] H (dC, dI) vwCl [(cA, .int)]) (va_Qi (fun (r : Int32) (u : St) => (r, u) = runF (g, n, hs, pe, pk, fo, mo) fr mv) (fun u t => bC dC dI cA A u t.heap) (va_A (wC cA A g n hs pe pk fo mo) H.size)) 0 0 (va_A (wC cA A g n hs pe pk fo mo) H.size) := by
  refine Met.ofW (cc := cX2_run) (maxL := 6) (ret := (some .int)) (by decide) rfl ?_
  intro p e s m args below meth c s₁ B hml hv
  obtain ⟨rfl, hH, hK, hN⟩ := hv
  subst hH
  have hx := B.exec
  have hb := B.bytes
  have hr := B.returns
  have hts := atoms_spec (ws := wsX2_run) B.pre
  have hown : s.vm.findClass RX2 = some m.cls := findClass_of_methodNamed B.named
  have hlocks := B.notSynchronized
  have hD := hD.self (sz := s.heap.size)
  generalize hAe : va_A (wC cA A g n hs pe pk fo mo) s.heap.size = Av at hD ⊢
  have hA : ∀ q : Nat, s.heap.size ≤ q → Av q := fun q h => by rw [← hAe]; exact Or.inr h
  have hS : va_S Av s.heap s.heap [] := va_S.rf
  have hl := lv_entry ([.ref (A 0), .long fr, .long mv]) (n := 6) (Nat.le_of_ble_eq_true rfl)
  rw [lg_entry_eq]
  generalize (lg_sl ([.ref (A 0), .long fr, .long mv]) ++ List.replicate (6 - (lg_sl ([.ref (A 0), .long fr, .long mv])).length) Slot.unset).toArray = ls at hl ⊢
  have hl : lv_has ls 6 [(0, .ref (A 0)), (1, .long fr), (3, .long mv)] := hl
  refine lv_aload_n hx hb dX2_run_0 rfl (lv_at hl 0 rfl) ?_
  refine va_get (D := (dC, dI)) (ci := 3) (v := .ref (A 1)) (C := RX2) (T := TX2) (N := 6) hx hb hts miX2_run_X2 hown hK hP 0 rfl rfl 0 (by decide) (hts (.fieldLink RX2 10 "SectionFibres" "section" "LSectionFibres$Section;") mbX2_run_1) (fun _ h9 => h9) rfl dX2_run_1 ?_
  refine lv_lload_n hx hb dX2_run_4 rfl (lv_at hl 1 rfl) ?_
  refine lv_lload_n hx hb dX2_run_5 rfl (lv_at hl 2 rfl) ?_
  refine rd_i (va_runVN (As := [.long fr, .long mv]) (rest := []) ⟨hx, hb, hml, hown, hts⟩ (c_X1_bendFor l dC dI cA s.heap A g n hs pe pk fo mo hP hg hn fr mv) ⟨(va_cnB 2 hts gX2_run_X1_bendFor_n97 rfl rfl rfl (hN (.methodLinkNest RX2 97 yX1_bendFor "SectionFibres") (List.mem_of_getElem? (i := 11) rfl)) (hts (.initialized RX1) mbX2_run_2) (by decide +kernel) ⟨Nat.le_of_ble_eq_true rfl, Nat.le_of_ble_eq_true rfl⟩), hts (.instanceMethod yX1_bendFor) mbX2_run_3, hts (.selects RX1 yX1_bendFor yX1_bendFor) mbX2_run_4⟩ ⟨rd_bl, va_recv hK hP (ci := 2) (q0 := 1) rfl rfl, rd_pre hK hN⟩ rfl rfl hl.1 rfl (lv_room (Nat.le_of_ble_eq_true rfl)) dX2_run_6 ⟨Nat.zero_le _, Nat.zero_le _⟩) hS (fun r1 locs hq2 hS => ?_)
  have hq2 : r1 = enF (slF g n fr mv) := hq2
  subst hq2
  rcases sl_cases (g := g) (n := n) (fo := fr) (mo := mv) with ⟨k1, k2⟩ | ⟨k1, k2⟩ | ⟨k1, k2, k3⟩
  · refine lv_istore (lv' := [(5, .int (enF (slF g n fr mv))), (0, .ref (A 0)), (1, .long fr), (3, .long mv)]) hx hb dX2_run_9 hl (by decide) rfl (fun ls hl => ?_)
    refine lv_iload hx hb dX2_run_11 (lv_at hl 0 rfl) ?_
    refine lv_ldc hx hb hown (hts (.constant RX2 101 (1000001)) mbX2_run_5) dX2_run_13 ?_
    refine lv_icmp_ne (tgt := 20) hx hb dX2_run_15 (by decide) (fun h9 => absurd h9 (fun h8 => h8 k2)) (fun _ => ?_)
    refine lv_iconst (v := 1) hx hb dX2_run_18 (by decide) ?_
    exact W.iret (v := 1) hx hb hr (fun t9 ht9 hW9 => ⟨⟨_, (g, n, hs, pe, pk, fo, mo), rfl, (((run_f (fun h9 => absurd (k1.symm.trans h9) (by decide))).trans (by rw [k1])).symm), by dsimp only; rw [ht9]; exact hP⟩, hS.F ht9⟩) hS.2.2 dX2_run_19
  · refine lv_istore (lv' := [(5, .int (enF (slF g n fr mv))), (0, .ref (A 0)), (1, .long fr), (3, .long mv)]) hx hb dX2_run_9 hl (by decide) rfl (fun ls hl => ?_)
    refine lv_iload hx hb dX2_run_11 (lv_at hl 0 rfl) ?_
    refine lv_ldc hx hb hown (hts (.constant RX2 101 (1000001)) mbX2_run_5) dX2_run_13 ?_
    refine lv_icmp_ne (tgt := 20) hx hb dX2_run_15 (by decide) (fun _ => ?_) (fun h9 => absurd h9 (fun h8 => absurd (k2.symm.trans h8) (by decide)))
    refine lv_iload hx hb dX2_run_20 (lv_at hl 0 rfl) ?_
    refine lv_ldc hx hb hown (hts (.constant RX2 102 (1000002)) mbX2_run_6) dX2_run_22 ?_
    refine lv_icmp_ne (tgt := 29) hx hb dX2_run_24 (by decide) (fun h9 => absurd h9 (fun h8 => h8 k2)) (fun _ => ?_)
    refine lv_iconst (v := 2) hx hb dX2_run_27 (by decide) ?_
    exact W.iret (v := 2) hx hb hr (fun t9 ht9 hW9 => ⟨⟨_, (g, n, hs, pe, pk, fo, mo), rfl, (((run_f (fun h9 => absurd (k1.symm.trans h9) (by decide))).trans (by rw [k1])).symm), by dsimp only; rw [ht9]; exact hP⟩, hS.F ht9⟩) hS.2.2 dX2_run_28
  · refine tp_i (v := iI (slF g n fr mv).2) k2 ?_
    refine lv_istore (lv' := [(5, .int (iI (slF g n fr mv).2)), (0, .ref (A 0)), (1, .long fr), (3, .long mv)]) hx hb dX2_run_9 hl (by decide) rfl (fun ls hl => ?_)
    refine lv_iload hx hb dX2_run_11 (lv_at hl 0 rfl) ?_
    refine lv_ldc hx hb hown (hts (.constant RX2 101 (1000001)) mbX2_run_5) dX2_run_13 ?_
    refine lv_icmp_ne (tgt := 20) hx hb dX2_run_15 (by decide) (fun _ => ?_) (fun h9 => absurd h9 ((rg_big k3).1))
    refine lv_iload hx hb dX2_run_20 (lv_at hl 0 rfl) ?_
    refine lv_ldc hx hb hown (hts (.constant RX2 102 (1000002)) mbX2_run_6) dX2_run_22 ?_
    refine lv_icmp_ne (tgt := 29) hx hb dX2_run_24 (by decide) (fun _ => ?_) (fun h9 => absurd h9 ((rg_big k3).2))
    refine lv_aload_n hx hb dX2_run_29 rfl (lv_at hl 1 rfl) ?_
    refine lv_iconst (v := 1) hx hb dX2_run_30 (by decide) ?_
    refine va_put (D := (dC, dI)) (ci := 3) (v := .int 1) (ty := .boolean) (C := RX2) (T := TX2) (N := 6) hx hb hts miX2_run_X2 tyX2 tyX2_ok nmX2 hown hK hP hD hS 0 rfl rfl 1 (by decide) (hts (.fieldLink RX2 36 "SectionFibres" "planeAtHand" "Z") mbX2_run_7) (fun _ h9 => h9) rfl (by decide +kernel) rfl rfl (Nat.le_of_ble_eq_true rfl) dX2_run_31 (fun H locs hP hD hS => ?_)
    have hP : va_P (dC, dI) vwCl (wC cA A g n 1 pe pk fo mo) H := hP
    have hD : va_D Av (wC cA A g n 1 pe pk fo mo) := hD
    refine lv_aload_n hx hb dX2_run_34 rfl (lv_at hl 1 rfl) ?_
    refine lv_aload_n hx hb dX2_run_35 rfl (lv_at hl 1 rfl) ?_
    refine va_get (D := (dC, dI)) (ci := 3) (v := .ref (A 1)) (C := RX2) (T := TX2) (N := 6) hx hb hts miX2_run_X2 hown hK hP 0 rfl rfl 0 (by decide) (hts (.fieldLink RX2 10 "SectionFibres" "section" "LSectionFibres$Section;") mbX2_run_1) (fun _ h9 => h9) rfl dX2_run_36 ?_
    refine lv_lload_n hx hb dX2_run_39 rfl (lv_at hl 2 rfl) ?_
    refine lv_iload hx hb dX2_run_40 (lv_at hl 0 rfl) ?_
    refine rd_i (va_runVN (As := [.long fr, .int (iI (slF g n fr mv).2)]) (rest := [.ref (A 0)]) ⟨hx, hb, hml, hown, hts⟩ (c_X1_balanceOf l dC dI cA H A g n 1 pe pk fo mo hP hg hn fr (iI (slF g n fr mv).2)) ⟨(va_cnB 2 hts gX2_run_X1_balanceOf_n93 rfl rfl rfl (hN (.methodLinkNest RX2 93 yX1_balanceOf "SectionFibres") (List.mem_of_getElem? (i := 10) rfl)) (hts (.initialized RX1) mbX2_run_2) (by decide +kernel) ⟨Nat.le_of_ble_eq_true rfl, Nat.le_of_ble_eq_true rfl⟩), hts (.instanceMethod yX1_balanceOf) mbX2_run_8, hts (.selects RX1 yX1_balanceOf yX1_balanceOf) mbX2_run_9⟩ ⟨rd_bl, va_recv hK hP (ci := 2) (q0 := 1) rfl rfl, rd_pre hK hN⟩ rfl rfl hl.1 rfl (lv_room (Nat.le_of_ble_eq_true rfl)) dX2_run_42 ⟨Nat.zero_le _, Nat.zero_le _⟩) hS (fun r3 locs hq4 hS => ?_)
    have hq4 : r3 = blF g n fr (iI (slF g n fr mv).2) := hq4
    subst hq4
    refine va_put (D := (dC, dI)) (ci := 3) (v := .int (blF g n fr (iI (slF g n fr mv).2))) (ty := .int) (C := RX2) (T := TX2) (N := 6) hx hb hts miX2_run_X2 tyX2 tyX2_ok nmX2 hown hK hP hD hS 0 rfl rfl 2 (by decide) (hts (.fieldLink RX2 103 "SectionFibres" "planeE" "I") mbX2_run_10) (fun _ h9 => h9) rfl (by decide +kernel) rfl rfl (Nat.le_of_ble_eq_true rfl) dX2_run_45 (fun H locs hP hD hS => ?_)
    have hP : va_P (dC, dI) vwCl (wC cA A g n 1 (blF g n fr (iI (slF g n fr mv).2)) pk fo mo) H := hP
    have hD : va_D Av (wC cA A g n 1 (blF g n fr (iI (slF g n fr mv).2)) pk fo mo) := hD
    refine lv_aload_n hx hb dX2_run_48 rfl (lv_at hl 1 rfl) ?_
    refine lv_iload hx hb dX2_run_49 (lv_at hl 0 rfl) ?_
    refine va_put (D := (dC, dI)) (ci := 3) (v := .int (iI (slF g n fr mv).2)) (ty := .int) (C := RX2) (T := TX2) (N := 6) hx hb hts miX2_run_X2 tyX2 tyX2_ok nmX2 hown hK hP hD hS 0 rfl rfl 3 (by decide) (hts (.fieldLink RX2 106 "SectionFibres" "planeK" "I") mbX2_run_11) (fun _ h9 => h9) rfl (by decide +kernel) rfl rfl (Nat.le_of_ble_eq_true rfl) dX2_run_51 (fun H locs hP hD hS => ?_)
    have hP : va_P (dC, dI) vwCl (wC cA A g n 1 (blF g n fr (iI (slF g n fr mv).2)) (iI (slF g n fr mv).2) fo mo) H := hP
    have hD : va_D Av (wC cA A g n 1 (blF g n fr (iI (slF g n fr mv).2)) (iI (slF g n fr mv).2) fo mo) := hD
    refine lv_aload_n hx hb dX2_run_54 rfl (lv_at hl 1 rfl) ?_
    refine lv_lload_n hx hb dX2_run_55 rfl (lv_at hl 2 rfl) ?_
    refine va_put (D := (dC, dI)) (ci := 3) (v := .long fr) (ty := .long) (C := RX2) (T := TX2) (N := 6) hx hb hts miX2_run_X2 tyX2 tyX2_ok nmX2 hown hK hP hD hS 0 rfl rfl 4 (by decide) (hts (.fieldLink RX2 109 "SectionFibres" "solvedForce" "J") mbX2_run_12) (fun _ h9 => h9) rfl (by decide +kernel) rfl rfl (Nat.le_of_ble_eq_true rfl) dX2_run_56 (fun H locs hP hD hS => ?_)
    have hP : va_P (dC, dI) vwCl (wC cA A g n 1 (blF g n fr (iI (slF g n fr mv).2)) (iI (slF g n fr mv).2) fr mo) H := hP
    have hD : va_D Av (wC cA A g n 1 (blF g n fr (iI (slF g n fr mv).2)) (iI (slF g n fr mv).2) fr mo) := hD
    refine lv_aload_n hx hb dX2_run_59 rfl (lv_at hl 1 rfl) ?_
    refine lv_lload_n hx hb dX2_run_60 rfl (lv_at hl 3 rfl) ?_
    refine va_put (D := (dC, dI)) (ci := 3) (v := .long mv) (ty := .long) (C := RX2) (T := TX2) (N := 6) hx hb hts miX2_run_X2 tyX2 tyX2_ok nmX2 hown hK hP hD hS 0 rfl rfl 5 (by decide) (hts (.fieldLink RX2 113 "SectionFibres" "solvedMoment" "J") mbX2_run_13) (fun _ h9 => h9) rfl (by decide +kernel) rfl rfl (Nat.le_of_ble_eq_true rfl) dX2_run_61 (fun H locs hP hD hS => ?_)
    have hP : va_P (dC, dI) vwCl (wC cA A g n 1 (blF g n fr (iI (slF g n fr mv).2)) (iI (slF g n fr mv).2) fr mv) H := hP
    have hD : va_D Av (wC cA A g n 1 (blF g n fr (iI (slF g n fr mv).2)) (iI (slF g n fr mv).2) fr mv) := hD
    refine lv_iconst (v := 0) hx hb dX2_run_64 (by decide) ?_
    exact W.iret (v := 0) hx hb hr (fun t9 ht9 hW9 => ⟨⟨_, (g, n, 1, blF g n fr (iI (slF g n fr mv).2), iI (slF g n fr mv).2, fr, mv), rfl, ((run_t k1).symm), by dsimp only; rw [ht9]; exact hP⟩, hS.F ht9⟩) hS.2.2 dX2_run_65
