abbrev Su : Type := St × Int32 × Int32 × Int32
/-- the reference's cells hold the state u -/
abbrev bR (dC : Nat → ClassId) (dI : Nat → Nat → Nat) (cA : ClassId) (Z : Nat → Nat) (u : Su) (H : Heap) : Prop := va_P (dC, dI) vwCl (wR cA Z u.1.1 u.1.2.1 u.2.1 u.1.2.2.1 u.1.2.2.2.1 u.1.2.2.2.2.1 u.1.2.2.2.2.2.1 u.1.2.2.2.2.2.2 u.2.2.1 u.2.2.2) H
theorem rg01 {v : Int32} : rg v 0 1 ↔ v = 0 ∨ v = 1 := by
  constructor
  · intro h
    have h1 := h.1
    have h2 := h.2
    rcases (show v.toInt = 0 ∨ v.toInt = 1 by omega) with h9 | h9
    · exact Or.inl (Int32.toInt_inj.1 h9)
    · exact Or.inr (Int32.toInt_inj.1 h9)
  · rintro (rfl | rfl)
    · exact ⟨by decide, by decide⟩
    · exact ⟨by decide, by decide⟩
theorem rg02 {v : Int32} : rg v 0 2 ↔ v = 0 ∨ v = 1 ∨ v = 2 := by
  constructor
  · intro h
    have h1 := h.1
    have h2 := h.2
    rcases (show v.toInt = 0 ∨ v.toInt = 1 ∨ v.toInt = 2 by omega) with h9 | h9 | h9
    · exact Or.inl (Int32.toInt_inj.1 h9)
    · exact Or.inr (Or.inl (Int32.toInt_inj.1 h9))
    · exact Or.inr (Or.inr (Int32.toInt_inj.1 h9))
  · rintro (rfl | rfl | rfl)
    · exact ⟨by decide, by decide⟩
    · exact ⟨by decide, by decide⟩
    · exact ⟨by decide, by decide⟩
theorem rg05 {v : Int32} : rg v 0 5 ↔ v = 0 ∨ v = 1 ∨ rg v 2 5 := by
  constructor
  · intro h
    have h1 := h.1
    have h2 := h.2
    rcases (show v.toInt = 0 ∨ v.toInt = 1 ∨ 2 ≤ v.toInt by omega) with h9 | h9 | h9
    · exact Or.inl (Int32.toInt_inj.1 h9)
    · exact Or.inr (Or.inl (Int32.toInt_inj.1 h9))
    · exact Or.inr (Or.inr ⟨h9, h2⟩)
  · rintro (rfl | rfl | h)
    · exact ⟨by decide, by decide⟩
    · exact ⟨by decide, by decide⟩
    · have h1 := h.1
      have h2 := h.2
      exact ⟨by omega, by omega⟩
theorem fb_lt {g : Gg} {e k : Int32} {n : Nat} (hn : n ≤ 41) : fbF g e k n 0 < 0 ↔ fbF g e k n 0 = -1 := by
  rw [Int32.lt_iff_toInt_lt, show (0 : Int32).toInt = 0 by decide]
  rcases fb_val (g := g) (e := e) (k := k) n 0 (by omega) with h | h
  · rw [h]; exact ⟨fun _ => rfl, fun _ => by decide⟩
  · constructor
    · intro h9; omega
    · intro h9; rw [h9]; decide

set_option maxRecDepth 20000 in
theorem miX3_lay_X3 : ∀ w ∈ u_ws RX3 TX3 19, w ∈ wsX3_lay := by decide +kernel
set_option maxRecDepth 20000 in
theorem mbX3_lay_1 : (.fieldLink RX3 7 "SectionFibresModel" "areas" "[I" : Cond) ∈ wsX3_lay := by decide +kernel
set_option maxRecDepth 20000 in
theorem mbX3_lay_2 : (.fieldLink RX3 13 "SectionFibresModel" "places" "[I" : Cond) ∈ wsX3_lay := by decide +kernel
set_option maxRecDepth 20000 in
theorem mbX3_lay_3 : (.fieldLink RX3 16 "SectionFibresModel" "kinds" "[I" : Cond) ∈ wsX3_lay := by decide +kernel
set_option maxRecDepth 20000 in
theorem mbX3_lay_4 : (.fieldLink RX3 19 "SectionFibresModel" "borns" "[I" : Cond) ∈ wsX3_lay := by decide +kernel
set_option maxRecDepth 20000 in
theorem mbX3_lay_5 : (.fieldLink RX3 22 "SectionFibresModel" "kept" "[I" : Cond) ∈ wsX3_lay := by decide +kernel
set_option maxHeartbeats 4000000 in
set_option maxRecDepth 100000 in
theorem c_X3_lay (l : Launch) (dC : Nat → ClassId) (dI : Nat → Nat → Nat) (cA : ClassId) (H : Heap) (Z : Nat → Nat) (g : Gg) (n : Nat) (th hs pe pk : Int32) (fo mo : Int64) (fE fK : Int32) (hP : va_P (dC, dI) vwCl (wR cA Z g n th hs pe pk fo mo fE fK) H) (hD : va_D (fun _ => True) (wR cA Z g n th hs pe pk fo mo fE fK)) (f : Nat) (hf : f < 41) (ar at_ kd : Int32) : Met l yX3_lay wsX3_lay ({ frames := 0, cells := 0, slots := 0, locals := 0 }) (rd_P [.ref (Z 0), .int (nI f), .int ar, .int at_, .int kd] H (dC, dI) vwCl [(cA, .int)]) (va_Qv (fun (u : Su) => u = ((layG g f ar at_ kd, n, hs, pe, pk, fo, mo), th, fE, fK)) (fun u t => bR dC dI cA Z u t.heap) (va_A (wR cA Z g n th hs pe pk fo mo fE fK) H.size)) 0 0 (va_A (wR cA Z g n th hs pe pk fo mo fE fK) H.size) := by
  refine Met.ofW (cc := cX3_lay) (maxL := 5) (ret := none) (by decide) rfl ?_
  intro p e s m args below meth c s₁ B hml hv
  obtain ⟨rfl, hH, hK, hN⟩ := hv
  subst hH
  have hx := B.exec
  have hb := B.bytes
  have hr := B.returns
  have hts := atoms_spec (ws := wsX3_lay) B.pre
  have hown : s.vm.findClass RX3 = some m.cls := findClass_of_methodNamed B.named
  have hlocks := B.notSynchronized
  have hD := hD.self (sz := s.heap.size)
  generalize hAe : va_A (wR cA Z g n th hs pe pk fo mo fE fK) s.heap.size = Av at hD ⊢
  have hA : ∀ q : Nat, s.heap.size ≤ q → Av q := fun q h => by rw [← hAe]; exact Or.inr h
  have hS : va_S Av s.heap s.heap [] := va_S.rf
  have hl := lv_entry ([.ref (Z 0), .int (nI f), .int ar, .int at_, .int kd]) (n := 5) (Nat.le_of_ble_eq_true rfl)
  rw [lg_entry_eq]
  generalize (lg_sl ([.ref (Z 0), .int (nI f), .int ar, .int at_, .int kd]) ++ List.replicate (5 - (lg_sl ([.ref (Z 0), .int (nI f), .int ar, .int at_, .int kd])).length) Slot.unset).toArray = ls at hl ⊢
  have hl : lv_has ls 5 [(0, .ref (Z 0)), (1, .int (nI f)), (2, .int ar), (3, .int at_), (4, .int kd)] := hl
  refine lv_aload_n hx hb dX3_lay_0 rfl (lv_at hl 0 rfl) ?_
  refine va_get (D := (dC, dI)) (ci := 4) (v := .ref (Z 1)) (C := RX3) (T := TX3) (N := 19) hx hb hts miX3_lay_X3 hown hK hP 0 rfl rfl 2 (by decide) (hts (.fieldLink RX3 7 "SectionFibresModel" "areas" "[I") mbX3_lay_1) (fun _ h9 => h9) rfl dX3_lay_1 ?_
  refine lv_iload_n hx hb dX3_lay_4 rfl (lv_at hl 1 rfl) ?_
  refine lv_iload_n hx hb dX3_lay_5 rfl (lv_at hl 2 rfl) ?_
  refine iasn hx hb hK hP hD hS 1 0 rfl rfl f (rfl) (by omega) (by decide) dX3_lay_6 (fun H locs hP hD hS => ?_)
  have hP : va_P (dC, dI) vwCl (wR cA Z (setG g 0 f ar) n th hs pe pk fo mo fE fK) H := hP
  have hD : va_D Av (wR cA Z (setG g 0 f ar) n th hs pe pk fo mo fE fK) := hD
  refine lv_aload_n hx hb dX3_lay_7 rfl (lv_at hl 0 rfl) ?_
  refine va_get (D := (dC, dI)) (ci := 4) (v := .ref (Z 2)) (C := RX3) (T := TX3) (N := 19) hx hb hts miX3_lay_X3 hown hK hP 0 rfl rfl 3 (by decide) (hts (.fieldLink RX3 13 "SectionFibresModel" "places" "[I") mbX3_lay_2) (fun _ h9 => h9) rfl dX3_lay_8 ?_
  refine lv_iload_n hx hb dX3_lay_11 rfl (lv_at hl 1 rfl) ?_
  refine lv_iload_n hx hb dX3_lay_12 rfl (lv_at hl 3 rfl) ?_
  refine iasn hx hb hK hP hD hS 2 0 rfl rfl f (rfl) (by omega) (by decide) dX3_lay_13 (fun H locs hP hD hS => ?_)
  have hP : va_P (dC, dI) vwCl (wR cA Z (setG (setG g 0 f ar) 1 f at_) n th hs pe pk fo mo fE fK) H := hP
  have hD : va_D Av (wR cA Z (setG (setG g 0 f ar) 1 f at_) n th hs pe pk fo mo fE fK) := hD
  refine lv_aload_n hx hb dX3_lay_14 rfl (lv_at hl 0 rfl) ?_
  refine va_get (D := (dC, dI)) (ci := 4) (v := .ref (Z 3)) (C := RX3) (T := TX3) (N := 19) hx hb hts miX3_lay_X3 hown hK hP 0 rfl rfl 4 (by decide) (hts (.fieldLink RX3 16 "SectionFibresModel" "kinds" "[I") mbX3_lay_3) (fun _ h9 => h9) rfl dX3_lay_15 ?_
  refine lv_iload_n hx hb dX3_lay_18 rfl (lv_at hl 1 rfl) ?_
  refine lv_iload hx hb dX3_lay_19 (lv_at hl 4 rfl) ?_
  refine iasn hx hb hK hP hD hS 3 0 rfl rfl f (rfl) (by omega) (by decide) dX3_lay_21 (fun H locs hP hD hS => ?_)
  have hP : va_P (dC, dI) vwCl (wR cA Z (setG (setG (setG g 0 f ar) 1 f at_) 2 f kd) n th hs pe pk fo mo fE fK) H := hP
  have hD : va_D Av (wR cA Z (setG (setG (setG g 0 f ar) 1 f at_) 2 f kd) n th hs pe pk fo mo fE fK) := hD
  refine lv_aload_n hx hb dX3_lay_22 rfl (lv_at hl 0 rfl) ?_
  refine va_get (D := (dC, dI)) (ci := 4) (v := .ref (Z 4)) (C := RX3) (T := TX3) (N := 19) hx hb hts miX3_lay_X3 hown hK hP 0 rfl rfl 5 (by decide) (hts (.fieldLink RX3 19 "SectionFibresModel" "borns" "[I") mbX3_lay_4) (fun _ h9 => h9) rfl dX3_lay_23 ?_
  refine lv_iload_n hx hb dX3_lay_26 rfl (lv_at hl 1 rfl) ?_
  refine lv_iconst (v := 0) hx hb dX3_lay_27 (by decide) ?_
  refine iasn hx hb hK hP hD hS 4 0 rfl rfl f (rfl) (by omega) (by decide) dX3_lay_28 (fun H locs hP hD hS => ?_)
  have hP : va_P (dC, dI) vwCl (wR cA Z (setG (setG (setG (setG g 0 f ar) 1 f at_) 2 f kd) 3 f 0) n th hs pe pk fo mo fE fK) H := hP
  have hD : va_D Av (wR cA Z (setG (setG (setG (setG g 0 f ar) 1 f at_) 2 f kd) 3 f 0) n th hs pe pk fo mo fE fK) := hD
  refine lv_aload_n hx hb dX3_lay_29 rfl (lv_at hl 0 rfl) ?_
  refine va_get (D := (dC, dI)) (ci := 4) (v := .ref (Z 5)) (C := RX3) (T := TX3) (N := 19) hx hb hts miX3_lay_X3 hown hK hP 0 rfl rfl 6 (by decide) (hts (.fieldLink RX3 22 "SectionFibresModel" "kept" "[I") mbX3_lay_5) (fun _ h9 => h9) rfl dX3_lay_30 ?_
  refine lv_iload_n hx hb dX3_lay_33 rfl (lv_at hl 1 rfl) ?_
  refine lv_bipush (v := 100) hx hb dX3_lay_34 (by decide) ?_
  refine iasn hx hb hK hP hD hS 5 0 rfl rfl f (rfl) (by omega) (by decide) dX3_lay_36 (fun H locs hP hD hS => ?_)
  have hP : va_P (dC, dI) vwCl (wR cA Z (setG (setG (setG (setG (setG g 0 f ar) 1 f at_) 2 f kd) 3 f 0) 4 f 100) n th hs pe pk fo mo fE fK) H := hP
  have hD : va_D Av (wR cA Z (setG (setG (setG (setG (setG g 0 f ar) 1 f at_) 2 f kd) 3 f 0) 4 f 100) n th hs pe pk fo mo fE fK) := hD
  exact W.vret hx hb hr (fun t9 ht9 hW9 => ⟨⟨(((setG (setG (setG (setG (setG g 0 f ar) 1 f at_) 2 f kd) 3 f 0) 4 f 100), n, hs, pe, pk, fo, mo), th, fE, fK), rfl, rfl, by dsimp only; rw [ht9]; exact hP⟩, hS.F ht9⟩) hS.2.2 dX3_lay_37

set_option maxRecDepth 20000 in
theorem miX3_fibre_X3 : ∀ w ∈ u_ws RX3 TX3 19, w ∈ wsX3_fibre := by decide +kernel
set_option maxRecDepth 20000 in
theorem mbX3_fibre_1 : (.fieldLink RX3 40 "SectionFibresModel" "thrown" "I" : Cond) ∈ wsX3_fibre := by decide +kernel
set_option maxRecDepth 20000 in
theorem mbX3_fibre_2 : (.constant RX3 47 (100000) : Cond) ∈ wsX3_fibre := by decide +kernel
set_option maxRecDepth 20000 in
theorem mbX3_fibre_3 : (.fieldLink RX3 44 "SectionFibresModel" "fibres" "I" : Cond) ∈ wsX3_fibre := by decide +kernel
set_option maxRecDepth 20000 in
theorem mbX3_fibre_4 : (.fieldLink RX3 60 "SectionFibresModel" "has" "Z" : Cond) ∈ wsX3_fibre := by decide +kernel
set_option maxHeartbeats 4000000 in
set_option maxRecDepth 100000 in
theorem c_X3_fibre (l : Launch) (dC : Nat → ClassId) (dI : Nat → Nat → Nat) (cA : ClassId) (H : Heap) (Z : Nat → Nat) (g : Gg) (n : Nat) (th hs pe pk : Int32) (fo mo : Int64) (fE fK : Int32) (hP : va_P (dC, dI) vwCl (wR cA Z g n th hs pe pk fo mo fE fK) H) (hD : va_D (fun _ => True) (wR cA Z g n th hs pe pk fo mo fE fK)) (hn : n ≤ 40) (a b d : Int32) : Met l yX3_fibre wsX3_fibre ({ frames := 1, cells := 0, slots := 0, locals := 24 }) (rd_P [.ref (Z 0), .int a, .int b, .int d] H (dC, dI) vwCl [(cA, .int)]) (va_Qi (fun (r : Int32) (u : Su) => (r, u.1) = fibF (g, n, hs, pe, pk, fo, mo) a b d ∧ u.2.1 = 0) (fun u t => bR dC dI cA Z u t.heap) (va_A (wR cA Z g n th hs pe pk fo mo fE fK) H.size)) 0 0 (va_A (wR cA Z g n th hs pe pk fo mo fE fK) H.size) := by
  refine Met.ofW (cc := cX3_fibre) (maxL := 4) (ret := (some .int)) (by decide) rfl ?_
  intro p e s m args below meth c s₁ B hml hv
  obtain ⟨rfl, hH, hK, hN⟩ := hv
  subst hH
  have hx := B.exec
  have hb := B.bytes
  have hr := B.returns
  have hts := atoms_spec (ws := wsX3_fibre) B.pre
  have hown : s.vm.findClass RX3 = some m.cls := findClass_of_methodNamed B.named
  have hlocks := B.notSynchronized
  have hD := hD.self (sz := s.heap.size)
  generalize hAe : va_A (wR cA Z g n th hs pe pk fo mo fE fK) s.heap.size = Av at hD ⊢
  have hA : ∀ q : Nat, s.heap.size ≤ q → Av q := fun q h => by rw [← hAe]; exact Or.inr h
  have hS : va_S Av s.heap s.heap [] := va_S.rf
  have hl := lv_entry ([.ref (Z 0), .int a, .int b, .int d]) (n := 4) (Nat.le_of_ble_eq_true rfl)
  rw [lg_entry_eq]
  generalize (lg_sl ([.ref (Z 0), .int a, .int b, .int d]) ++ List.replicate (4 - (lg_sl ([.ref (Z 0), .int a, .int b, .int d])).length) Slot.unset).toArray = ls at hl ⊢
  have hl : lv_has ls 4 [(0, .ref (Z 0)), (1, .int a), (2, .int b), (3, .int d)] := hl
  refine lv_aload_n hx hb dX3_fibre_0 rfl (lv_at hl 0 rfl) ?_
  refine lv_iconst (v := 0) hx hb dX3_fibre_1 (by decide) ?_
  refine va_put (D := (dC, dI)) (ci := 4) (v := .int 0) (ty := .int) (C := RX3) (T := TX3) (N := 19) hx hb hts miX3_fibre_X3 tyX3 tyX3_ok nmX3 hown hK hP hD hS 0 rfl rfl 0 (by decide) (hts (.fieldLink RX3 40 "SectionFibresModel" "thrown" "I") mbX3_fibre_1) (fun _ h9 => h9) rfl (by decide +kernel) rfl rfl (Nat.le_of_ble_eq_true rfl) dX3_fibre_2 (fun H locs hP hD hS => ?_)
  have hP : va_P (dC, dI) vwCl (wR cA Z g n 0 hs pe pk fo mo fE fK) H := hP
  have hD : va_D Av (wR cA Z g n 0 hs pe pk fo mo fE fK) := hD
  refine lv_iload_n hx hb dX3_fibre_5 rfl (lv_at hl 1 rfl) ?_
  refine lv_iconst (v := 0) hx hb dX3_fibre_6 (by decide) ?_
  refine lv_ldc hx hb hown (hts (.constant RX3 47 (100000)) mbX3_fibre_2) dX3_fibre_7 ?_
  refine rd_i (va_runS (As := [.int a, .int 0, .int 100000]) (rest := []) ⟨hx, hb, hml, hown, hts⟩ (c_X3_within l dC dI cA H a 0 100000 0 100000 (by decide) (by decide)) (va_cwS 3 hts gX3_fibre_X3_within rfl rfl rfl (by decide +kernel) ⟨Nat.le_of_ble_eq_true rfl, Nat.le_of_ble_eq_true rfl⟩) ⟨rd_bl, rd_pre hK hN⟩ rfl rfl hl.1 rfl (lv_room (Nat.le_of_ble_eq_true rfl)) dX3_fibre_9 ⟨Nat.zero_le _, Nat.zero_le _⟩) hS (fun r1 locs hq2 hS => ?_)
  rcases hq2 with ⟨hq2, rfl⟩ | ⟨hq2, rfl⟩
  · have q1 : rg a 0 100000 := hq2
    refine lv_if_eq (tgt := 44) hx hb dX3_fibre_12 (by decide) (fun h9 => absurd h9 (by decide)) (fun _ => ?_)
    refine lv_iload_n hx hb dX3_fibre_15 rfl (lv_at hl 2 rfl) ?_
    refine lv_sipush (v := (-2000)) hx hb dX3_fibre_16 (by decide) ?_
    refine lv_sipush (v := 2000) hx hb dX3_fibre_19 (by decide) ?_
    refine rd_i (va_runS (As := [.int b, .int (-2000), .int 2000]) (rest := []) ⟨hx, hb, hml, hown, hts⟩ (c_X3_within l dC dI cA H b (-2000) 2000 (-2000) 2000 (by decide) (by decide)) (va_cwS 3 hts gX3_fibre_X3_within rfl rfl rfl (by decide +kernel) ⟨Nat.le_of_ble_eq_true rfl, Nat.le_of_ble_eq_true rfl⟩) ⟨rd_bl, rd_pre hK hN⟩ rfl rfl hl.1 rfl (lv_room (Nat.le_of_ble_eq_true rfl)) dX3_fibre_22 ⟨Nat.zero_le _, Nat.zero_le _⟩) hS (fun r3 locs hq4 hS => ?_)
    rcases hq4 with ⟨hq4, rfl⟩ | ⟨hq4, rfl⟩
    · have q2 : rg b (-2000) 2000 := hq4
      refine lv_if_eq (tgt := 44) hx hb dX3_fibre_25 (by decide) (fun h9 => absurd h9 (by decide)) (fun _ => ?_)
      refine lv_iload_n hx hb dX3_fibre_28 rfl (lv_at hl 3 rfl) ?_
      refine rd_i (va_runS (As := [.int d]) (rest := []) ⟨hx, hb, hml, hown, hts⟩ (c_X3_isKind l dC dI cA H d) (va_cwS 1 hts gX3_fibre_X3_isKind rfl rfl rfl (by decide +kernel) ⟨Nat.le_of_ble_eq_true rfl, Nat.le_of_ble_eq_true rfl⟩) ⟨rd_bl, rd_pre hK hN⟩ rfl rfl hl.1 rfl (lv_room (Nat.le_of_ble_eq_true rfl)) dX3_fibre_29 ⟨Nat.zero_le _, Nat.zero_le _⟩) hS (fun r5 locs hq6 hS => ?_)
      rcases hq6 with ⟨hq6, rfl⟩ | ⟨hq6, rfl⟩
      · have q3 : rg d 0 3 := hq6
        refine lv_if_eq (tgt := 44) hx hb dX3_fibre_32 (by decide) (fun h9 => absurd h9 (by decide)) (fun _ => ?_)
        refine lv_aload_n hx hb dX3_fibre_35 rfl (lv_at hl 0 rfl) ?_
        refine va_get (D := (dC, dI)) (ci := 4) (v := .int (nI n)) (C := RX3) (T := TX3) (N := 19) hx hb hts miX3_fibre_X3 hown hK hP 0 rfl rfl 1 (by decide) (hts (.fieldLink RX3 44 "SectionFibresModel" "fibres" "I") mbX3_fibre_3) (fun _ h9 => h9) rfl dX3_fibre_36 ?_
        refine lv_bipush (v := 40) hx hb dX3_fibre_39 (by decide) ?_
        refine lv_icmp_ne (tgt := 46) hx hb dX3_fibre_41 (by decide) (fun c1 => ?_) (fun c1 => ?_)
        · have hlt : n < 40 := by rcases Nat.lt_or_ge n 40 with h9 | h9; exact h9; exact absurd (by rw [show n = 40 by omega]; rfl) c1
          refine lv_aload_n hx hb dX3_fibre_46 rfl (lv_at hl 0 rfl) ?_
          refine lv_aload_n hx hb dX3_fibre_47 rfl (lv_at hl 0 rfl) ?_
          refine va_get (D := (dC, dI)) (ci := 4) (v := .int (nI n)) (C := RX3) (T := TX3) (N := 19) hx hb hts miX3_fibre_X3 hown hK hP 0 rfl rfl 1 (by decide) (hts (.fieldLink RX3 44 "SectionFibresModel" "fibres" "I") mbX3_fibre_3) (fun _ h9 => h9) rfl dX3_fibre_48 ?_
          refine lv_iload_n hx hb dX3_fibre_51 rfl (lv_at hl 1 rfl) ?_
          refine lv_iload_n hx hb dX3_fibre_52 rfl (lv_at hl 2 rfl) ?_
          refine lv_iload_n hx hb dX3_fibre_53 rfl (lv_at hl 3 rfl) ?_
          have hFc := va_free (wc := (wR cA Z g n 0 hs pe pk fo mo fE fK)) hD hS hA [0, 1, 2, 3, 4, 5, 6, 7, 8, 9, 10] rfl
          refine mu_v (va_runV (As := [.int (nI n), .int a, .int b, .int d]) (rest := []) ⟨hx, hb, hml, hown, hts⟩ (c_X3_lay l dC dI cA H Z g n 0 hs pe pk fo mo fE fK hP (hD.weaken (fun _ _ _ _ => trivial)) n (by omega) a b d) (cwV 4 hts gX3_fibre_X3_lay rfl rfl rfl (by decide +kernel) ⟨Nat.le_of_ble_eq_true rfl, Nat.le_of_ble_eq_true rfl⟩) ⟨rd_bl, va_recv hK hP (ci := 4) (q0 := 0) rfl rfl, rd_pre hK hN⟩ rfl rfl hl.1 rfl (lv_room (Nat.le_of_ble_eq_true rfl)) dX3_fibre_54 ⟨Nat.zero_le _, Nat.zero_le _⟩) hS hFc (fun u H locs hq hB hk hz hS => ?_)
          subst hq
          have hP : va_P (dC, dI) vwCl (wR cA Z (layG g n a b d) n 0 hs pe pk fo mo fE fK) H := hB
          have hD : va_D Av (wR cA Z (layG g n a b d) n 0 hs pe pk fo mo fE fK) := va_Dsame (by rfl) hD
          refine lv_aload_n hx hb dX3_fibre_57 rfl (lv_at hl 0 rfl) ?_
          refine lv_dup hx hb dX3_fibre_58 rfl ?_
          refine va_get (D := (dC, dI)) (ci := 4) (v := .int (nI n)) (C := RX3) (T := TX3) (N := 19) hx hb hts miX3_fibre_X3 hown hK hP 0 rfl rfl 1 (by decide) (hts (.fieldLink RX3 44 "SectionFibresModel" "fibres" "I") mbX3_fibre_3) (fun _ h9 => h9) rfl dX3_fibre_59 ?_
          refine lv_iconst (v := 1) hx hb dX3_fibre_62 (by decide) ?_
          refine lv_iadd hx hb dX3_fibre_63 ?_
          refine tp_i (v := nI (n + 1)) (nI_1 n) ?_
          refine va_put (D := (dC, dI)) (ci := 4) (v := .int (nI (n + 1))) (ty := .int) (C := RX3) (T := TX3) (N := 19) hx hb hts miX3_fibre_X3 tyX3 tyX3_ok nmX3 hown hK hP hD hS 0 rfl rfl 1 (by decide) (hts (.fieldLink RX3 44 "SectionFibresModel" "fibres" "I") mbX3_fibre_3) (fun _ h9 => h9) rfl (by decide +kernel) rfl rfl (Nat.le_of_ble_eq_true rfl) dX3_fibre_64 (fun H locs hP hD hS => ?_)
          have hP : va_P (dC, dI) vwCl (wR cA Z (layG g n a b d) (n + 1) 0 hs pe pk fo mo fE fK) H := hP
          have hD : va_D Av (wR cA Z (layG g n a b d) (n + 1) 0 hs pe pk fo mo fE fK) := hD
          refine lv_aload_n hx hb dX3_fibre_67 rfl (lv_at hl 0 rfl) ?_
          refine lv_iconst (v := 0) hx hb dX3_fibre_68 (by decide) ?_
          refine va_put (D := (dC, dI)) (ci := 4) (v := .int 0) (ty := .boolean) (C := RX3) (T := TX3) (N := 19) hx hb hts miX3_fibre_X3 tyX3 tyX3_ok nmX3 hown hK hP hD hS 0 rfl rfl 12 (by decide) (hts (.fieldLink RX3 60 "SectionFibresModel" "has" "Z") mbX3_fibre_4) (fun _ h9 => h9) rfl (by decide +kernel) rfl rfl (Nat.le_of_ble_eq_true rfl) dX3_fibre_69 (fun H locs hP hD hS => ?_)
          have hP : va_P (dC, dI) vwCl (wR cA Z (layG g n a b d) (n + 1) 0 0 pe pk fo mo fE fK) H := hP
          have hD : va_D Av (wR cA Z (layG g n a b d) (n + 1) 0 0 pe pk fo mo fE fK) := hD
          refine lv_aload_n hx hb dX3_fibre_72 rfl (lv_at hl 0 rfl) ?_
          refine va_get (D := (dC, dI)) (ci := 4) (v := .int (nI (n + 1))) (C := RX3) (T := TX3) (N := 19) hx hb hts miX3_fibre_X3 hown hK hP 0 rfl rfl 1 (by decide) (hts (.fieldLink RX3 44 "SectionFibresModel" "fibres" "I") mbX3_fibre_3) (fun _ h9 => h9) rfl dX3_fibre_73 ?_
          refine lv_iconst (v := 1) hx hb dX3_fibre_76 (by decide) ?_
          refine lv_isub hx hb dX3_fibre_77 ?_
          refine tp_i (v := nI n) (nI_pred n) ?_
          exact W.iret (v := (nI n)) hx hb hr (fun t9 ht9 hW9 => ⟨⟨_, (((layG g n a b d), n + 1, 0, pe, pk, fo, mo), 0, fE, fK), rfl, (⟨(fib_t ⟨q1, q2, q3, hlt⟩).symm, rfl⟩), by dsimp only; rw [ht9]; exact hP⟩, hS.F ht9⟩) hS.2.2 dX3_fibre_78
        · refine lv_iconst (v := (-1)) hx hb dX3_fibre_44 (by decide) ?_
          exact W.iret (v := (-1)) hx hb hr (fun t9 ht9 hW9 => ⟨⟨_, ((g, n, hs, pe, pk, fo, mo), 0, fE, fK), rfl, (⟨(fib_f (fun h9 => by have h8 := h9.2.2.2; have h7 := (nI_eq (b := 40) (by omega) (by omega)).mp c1; omega)).symm, rfl⟩), by dsimp only; rw [ht9]; exact hP⟩, hS.F ht9⟩) hS.2.2 dX3_fibre_45
      · have q3 : ¬ (rg d 0 3) := hq6
        refine lv_if_eq (tgt := 44) hx hb dX3_fibre_32 (by decide) (fun _ => ?_) (fun h9 => absurd h9 (by decide))
        refine lv_iconst (v := (-1)) hx hb dX3_fibre_44 (by decide) ?_
        exact W.iret (v := (-1)) hx hb hr (fun t9 ht9 hW9 => ⟨⟨_, ((g, n, hs, pe, pk, fo, mo), 0, fE, fK), rfl, (⟨(fib_f (fun h9 => q3 h9.2.2.1)).symm, rfl⟩), by dsimp only; rw [ht9]; exact hP⟩, hS.F ht9⟩) hS.2.2 dX3_fibre_45
    · have q2 : ¬ (rg b (-2000) 2000) := hq4
      refine lv_if_eq (tgt := 44) hx hb dX3_fibre_25 (by decide) (fun _ => ?_) (fun h9 => absurd h9 (by decide))
      refine lv_iconst (v := (-1)) hx hb dX3_fibre_44 (by decide) ?_
      exact W.iret (v := (-1)) hx hb hr (fun t9 ht9 hW9 => ⟨⟨_, ((g, n, hs, pe, pk, fo, mo), 0, fE, fK), rfl, (⟨(fib_f (fun h9 => q2 h9.2.1)).symm, rfl⟩), by dsimp only; rw [ht9]; exact hP⟩, hS.F ht9⟩) hS.2.2 dX3_fibre_45
  · have q1 : ¬ (rg a 0 100000) := hq2
    refine lv_if_eq (tgt := 44) hx hb dX3_fibre_12 (by decide) (fun _ => ?_) (fun h9 => absurd h9 (by decide))
    refine lv_iconst (v := (-1)) hx hb dX3_fibre_44 (by decide) ?_
    exact W.iret (v := (-1)) hx hb hr (fun t9 ht9 hW9 => ⟨⟨_, ((g, n, hs, pe, pk, fo, mo), 0, fE, fK), rfl, (⟨(fib_f (fun h9 => q1 h9.1)).symm, rfl⟩), by dsimp only; rw [ht9]; exact hP⟩, hS.F ht9⟩) hS.2.2 dX3_fibre_45

set_option maxRecDepth 20000 in
theorem miX3_point_X3 : ∀ w ∈ u_ws RX3 TX3 19, w ∈ wsX3_point := by decide +kernel
set_option maxRecDepth 20000 in
theorem mbX3_point_1 : (.fieldLink RX3 40 "SectionFibresModel" "thrown" "I" : Cond) ∈ wsX3_point := by decide +kernel
set_option maxRecDepth 20000 in
theorem mbX3_point_2 : (.constant RX3 64 (-1000000) : Cond) ∈ wsX3_point := by decide +kernel
set_option maxRecDepth 20000 in
theorem mbX3_point_3 : (.constant RX3 65 (1000000) : Cond) ∈ wsX3_point := by decide +kernel
set_option maxRecDepth 20000 in
theorem mbX3_point_4 : (.fieldLink RX3 25 "SectionFibresModel" "points" "[I" : Cond) ∈ wsX3_point := by decide +kernel
set_option maxRecDepth 20000 in
theorem mbX3_point_5 : (.fieldLink RX3 28 "SectionFibresModel" "strains" "[I" : Cond) ∈ wsX3_point := by decide +kernel
set_option maxRecDepth 20000 in
theorem mbX3_point_6 : (.fieldLink RX3 31 "SectionFibresModel" "stresses" "[I" : Cond) ∈ wsX3_point := by decide +kernel
set_option maxRecDepth 20000 in
theorem mbX3_point_7 : (.fieldLink RX3 60 "SectionFibresModel" "has" "Z" : Cond) ∈ wsX3_point := by decide +kernel
set_option maxHeartbeats 4000000 in
set_option maxRecDepth 100000 in
theorem c_X3_point (l : Launch) (dC : Nat → ClassId) (dI : Nat → Nat → Nat) (cA : ClassId) (H : Heap) (Z : Nat → Nat) (g : Gg) (n : Nat) (th hs pe pk : Int32) (fo mo : Int64) (fE fK : Int32) (hP : va_P (dC, dI) vwCl (wR cA Z g n th hs pe pk fo mo fE fK) H) (hD : va_D (fun _ => True) (wR cA Z g n th hs pe pk fo mo fE fK)) (hg : InvG g) (a b d : Int32) : Met l yX3_point wsX3_point ({ frames := 1, cells := 0, slots := 0, locals := 22 }) (rd_P [.ref (Z 0), .int a, .int b, .int d] H (dC, dI) vwCl [(cA, .int)]) (va_Qi (fun (r : Int32) (u : Su) => (r, u.1) = poiF (g, n, hs, pe, pk, fo, mo) a b d ∧ u.2.1 = 0) (fun u t => bR dC dI cA Z u t.heap) (va_A (wR cA Z g n th hs pe pk fo mo fE fK) H.size)) 0 0 (va_A (wR cA Z g n th hs pe pk fo mo fE fK) H.size) := by
  refine Met.ofW (cc := cX3_point) (maxL := 5) (ret := (some .boolean)) (by decide) rfl ?_
  intro p e s m args below meth c s₁ B hml hv
  obtain ⟨rfl, hH, hK, hN⟩ := hv
  subst hH
  have hx := B.exec
  have hb := B.bytes
  have hr := B.returns
  have hts := atoms_spec (ws := wsX3_point) B.pre
  have hown : s.vm.findClass RX3 = some m.cls := findClass_of_methodNamed B.named
  have hlocks := B.notSynchronized
  have hD := hD.self (sz := s.heap.size)
  generalize hAe : va_A (wR cA Z g n th hs pe pk fo mo fE fK) s.heap.size = Av at hD ⊢
  have hA : ∀ q : Nat, s.heap.size ≤ q → Av q := fun q h => by rw [← hAe]; exact Or.inr h
  have hS : va_S Av s.heap s.heap [] := va_S.rf
  have hl := lv_entry ([.ref (Z 0), .int a, .int b, .int d]) (n := 5) (Nat.le_of_ble_eq_true rfl)
  rw [lg_entry_eq]
  generalize (lg_sl ([.ref (Z 0), .int a, .int b, .int d]) ++ List.replicate (5 - (lg_sl ([.ref (Z 0), .int a, .int b, .int d])).length) Slot.unset).toArray = ls at hl ⊢
  have hl : lv_has ls 5 [(0, .ref (Z 0)), (1, .int a), (2, .int b), (3, .int d)] := hl
  refine lv_aload_n hx hb dX3_point_0 rfl (lv_at hl 0 rfl) ?_
  refine lv_iconst (v := 0) hx hb dX3_point_1 (by decide) ?_
  refine va_put (D := (dC, dI)) (ci := 4) (v := .int 0) (ty := .int) (C := RX3) (T := TX3) (N := 19) hx hb hts miX3_point_X3 tyX3 tyX3_ok nmX3 hown hK hP hD hS 0 rfl rfl 0 (by decide) (hts (.fieldLink RX3 40 "SectionFibresModel" "thrown" "I") mbX3_point_1) (fun _ h9 => h9) rfl (by decide +kernel) rfl rfl (Nat.le_of_ble_eq_true rfl) dX3_point_2 (fun H locs hP hD hS => ?_)
  have hP : va_P (dC, dI) vwCl (wR cA Z g n 0 hs pe pk fo mo fE fK) H := hP
  have hD : va_D Av (wR cA Z g n 0 hs pe pk fo mo fE fK) := hD
  refine lv_iload_n hx hb dX3_point_5 rfl (lv_at hl 1 rfl) ?_
  refine rd_i (va_runS (As := [.int a]) (rest := []) ⟨hx, hb, hml, hown, hts⟩ (c_X3_isKind l dC dI cA H a) (va_cwS 1 hts gX3_point_X3_isKind rfl rfl rfl (by decide +kernel) ⟨Nat.le_of_ble_eq_true rfl, Nat.le_of_ble_eq_true rfl⟩) ⟨rd_bl, rd_pre hK hN⟩ rfl rfl hl.1 rfl (lv_room (Nat.le_of_ble_eq_true rfl)) dX3_point_6 ⟨Nat.zero_le _, Nat.zero_le _⟩) hS (fun r1 locs hq2 hS => ?_)
  rcases hq2 with ⟨hq2, rfl⟩ | ⟨hq2, rfl⟩
  · have q1 : rg a 0 3 := hq2
    refine lv_if_eq (tgt := 47) hx hb dX3_point_9 (by decide) (fun h9 => absurd h9 (by decide)) (fun _ => ?_)
    refine lv_iload_n hx hb dX3_point_12 rfl (lv_at hl 2 rfl) ?_
    refine lv_sipush (v := (-30000)) hx hb dX3_point_13 (by decide) ?_
    refine lv_sipush (v := 30000) hx hb dX3_point_16 (by decide) ?_
    refine rd_i (va_runS (As := [.int b, .int (-30000), .int 30000]) (rest := []) ⟨hx, hb, hml, hown, hts⟩ (c_X3_within l dC dI cA H b (-30000) 30000 (-30000) 30000 (by decide) (by decide)) (va_cwS 3 hts gX3_point_X3_within rfl rfl rfl (by decide +kernel) ⟨Nat.le_of_ble_eq_true rfl, Nat.le_of_ble_eq_true rfl⟩) ⟨rd_bl, rd_pre hK hN⟩ rfl rfl hl.1 rfl (lv_room (Nat.le_of_ble_eq_true rfl)) dX3_point_19 ⟨Nat.zero_le _, Nat.zero_le _⟩) hS (fun r3 locs hq4 hS => ?_)
    rcases hq4 with ⟨hq4, rfl⟩ | ⟨hq4, rfl⟩
    · have q2 : rg b (-30000) 30000 := hq4
      refine lv_if_eq (tgt := 47) hx hb dX3_point_22 (by decide) (fun h9 => absurd h9 (by decide)) (fun _ => ?_)
      refine lv_iload_n hx hb dX3_point_25 rfl (lv_at hl 3 rfl) ?_
      refine lv_ldc hx hb hown (hts (.constant RX3 64 (-1000000)) mbX3_point_2) dX3_point_26 ?_
      refine lv_ldc hx hb hown (hts (.constant RX3 65 (1000000)) mbX3_point_3) dX3_point_28 ?_
      refine rd_i (va_runS (As := [.int d, .int (-1000000), .int 1000000]) (rest := []) ⟨hx, hb, hml, hown, hts⟩ (c_X3_within l dC dI cA H d (-1000000) 1000000 (-1000000) 1000000 (by decide) (by decide)) (va_cwS 3 hts gX3_point_X3_within rfl rfl rfl (by decide +kernel) ⟨Nat.le_of_ble_eq_true rfl, Nat.le_of_ble_eq_true rfl⟩) ⟨rd_bl, rd_pre hK hN⟩ rfl rfl hl.1 rfl (lv_room (Nat.le_of_ble_eq_true rfl)) dX3_point_30 ⟨Nat.zero_le _, Nat.zero_le _⟩) hS (fun r5 locs hq6 hS => ?_)
      rcases hq6 with ⟨hq6, rfl⟩ | ⟨hq6, rfl⟩
      · have q3 : rg d (-1000000) 1000000 := hq6
        refine lv_if_eq (tgt := 47) hx hb dX3_point_33 (by decide) (fun h9 => absurd h9 (by decide)) (fun _ => ?_)
        obtain ⟨k, hk, hae⟩ : ∃ k : Nat, k < 4 ∧ a = nI k := ⟨a.toNatClampNeg, by have h9 := rg_lt q1; omega, rg_nI q1⟩
        obtain ⟨q, hq, hqe⟩ := vp_in_of (hg.2.2.2.2.2.1 k hk) (by decide)
        have hap : apC g a b d ↔ q < 8 ∧ ¬ (0 < q ∧ (b ≤ g 5 (8 * k + q - 1) ∨ d < g 6 (8 * k + q - 1))) := by rw [hae]; exact apC_k hk hq hqe
        refine lv_aload_n hx hb dX3_point_36 rfl (lv_at hl 0 rfl) ?_
        refine va_get (D := (dC, dI)) (ci := 4) (v := .ref (Z 6)) (C := RX3) (T := TX3) (N := 19) hx hb hts miX3_point_X3 hown hK hP 0 rfl rfl 7 (by decide) (hts (.fieldLink RX3 25 "SectionFibresModel" "points" "[I") mbX3_point_4) (fun _ h9 => h9) rfl dX3_point_37 ?_
        refine lv_iload_n hx hb dX3_point_40 rfl (lv_at hl 1 rfl) ?_
        refine ialn hx hb hK hP 6 0 rfl rfl k (hae) (hk) (by decide) dX3_point_41 ?_
        refine tp_i (v := nI q) (hqe) ?_
        refine lv_bipush (v := 8) hx hb dX3_point_42 (by decide) ?_
        refine lv_icmp_ne (tgt := 49) hx hb dX3_point_44 (by decide) (fun c1 => ?_) (fun c1 => ?_)
        · have hq8 : q < 8 := by rcases Nat.lt_or_ge q 8 with h9 | h9; exact h9; exact absurd (by rw [show q = 8 by omega]; rfl) c1
          refine lv_bipush (v := 8) hx hb dX3_point_49 (by decide) ?_
          refine lv_iload_n hx hb dX3_point_51 rfl (lv_at hl 1 rfl) ?_
          refine lv_imul hx hb dX3_point_52 ?_
          refine tp_i (v := nI (8 * k)) (by rw [hae]; exact pk_mul 8 k) ?_
          refine lv_aload_n hx hb dX3_point_53 rfl (lv_at hl 0 rfl) ?_
          refine va_get (D := (dC, dI)) (ci := 4) (v := .ref (Z 6)) (C := RX3) (T := TX3) (N := 19) hx hb hts miX3_point_X3 hown hK hP 0 rfl rfl 7 (by decide) (hts (.fieldLink RX3 25 "SectionFibresModel" "points" "[I") mbX3_point_4) (fun _ h9 => h9) rfl dX3_point_54 ?_
          refine lv_iload_n hx hb dX3_point_57 rfl (lv_at hl 1 rfl) ?_
          refine ialn hx hb hK hP 6 0 rfl rfl k (hae) (hk) (by decide) dX3_point_58 ?_
          refine tp_i (v := nI q) (hqe) ?_
          refine lv_iadd hx hb dX3_point_59 ?_
          refine tp_i (v := nI (8 * k + q)) (nI_add _ _) ?_
          refine lv_istore (lv' := [(4, .int (nI (8 * k + q))), (0, .ref (Z 0)), (1, .int a), (2, .int b), (3, .int d)]) hx hb dX3_point_60 hl (by decide) rfl (fun ls hl => ?_)
          refine lv_aload_n hx hb dX3_point_62 rfl (lv_at hl 1 rfl) ?_
          refine va_get (D := (dC, dI)) (ci := 4) (v := .ref (Z 6)) (C := RX3) (T := TX3) (N := 19) hx hb hts miX3_point_X3 hown hK hP 0 rfl rfl 7 (by decide) (hts (.fieldLink RX3 25 "SectionFibresModel" "points" "[I") mbX3_point_4) (fun _ h9 => h9) rfl dX3_point_63 ?_
          refine lv_iload_n hx hb dX3_point_66 rfl (lv_at hl 2 rfl) ?_
          refine ialn hx hb hK hP 6 0 rfl rfl k (hae) (hk) (by decide) dX3_point_67 ?_
          refine tp_i (v := nI q) (hqe) ?_
          refine lv_if_le (tgt := 99) hx hb dX3_point_68 (by decide) (fun c2 => ?_) (fun c2 => ?_)
          · refine lv_aload_n hx hb dX3_point_99 rfl (lv_at hl 1 rfl) ?_
            refine va_get (D := (dC, dI)) (ci := 4) (v := .ref (Z 7)) (C := RX3) (T := TX3) (N := 19) hx hb hts miX3_point_X3 hown hK hP 0 rfl rfl 8 (by decide) (hts (.fieldLink RX3 28 "SectionFibresModel" "strains" "[I") mbX3_point_5) (fun _ h9 => h9) rfl dX3_point_100 ?_
            refine lv_iload hx hb dX3_point_103 (lv_at hl 0 rfl) ?_
            refine lv_iload_n hx hb dX3_point_105 rfl (lv_at hl 3 rfl) ?_
            refine iasn hx hb hK hP hD hS 7 0 rfl rfl (8 * k + q) (rfl) (by omega) (by decide) dX3_point_106 (fun H locs hP hD hS => ?_)
            have hP : va_P (dC, dI) vwCl (wR cA Z (setG g 5 (8 * k + q) b) n 0 hs pe pk fo mo fE fK) H := hP
            have hD : va_D Av (wR cA Z (setG g 5 (8 * k + q) b) n 0 hs pe pk fo mo fE fK) := hD
            refine lv_aload_n hx hb dX3_point_107 rfl (lv_at hl 1 rfl) ?_
            refine va_get (D := (dC, dI)) (ci := 4) (v := .ref (Z 8)) (C := RX3) (T := TX3) (N := 19) hx hb hts miX3_point_X3 hown hK hP 0 rfl rfl 9 (by decide) (hts (.fieldLink RX3 31 "SectionFibresModel" "stresses" "[I") mbX3_point_6) (fun _ h9 => h9) rfl dX3_point_108 ?_
            refine lv_iload hx hb dX3_point_111 (lv_at hl 0 rfl) ?_
            refine lv_iload_n hx hb dX3_point_113 rfl (lv_at hl 4 rfl) ?_
            refine iasn hx hb hK hP hD hS 8 0 rfl rfl (8 * k + q) (rfl) (by omega) (by decide) dX3_point_114 (fun H locs hP hD hS => ?_)
            have hP : va_P (dC, dI) vwCl (wR cA Z (setG (setG g 5 (8 * k + q) b) 6 (8 * k + q) d) n 0 hs pe pk fo mo fE fK) H := hP
            have hD : va_D Av (wR cA Z (setG (setG g 5 (8 * k + q) b) 6 (8 * k + q) d) n 0 hs pe pk fo mo fE fK) := hD
            refine lv_aload_n hx hb dX3_point_115 rfl (lv_at hl 1 rfl) ?_
            refine va_get (D := (dC, dI)) (ci := 4) (v := .ref (Z 6)) (C := RX3) (T := TX3) (N := 19) hx hb hts miX3_point_X3 hown hK hP 0 rfl rfl 7 (by decide) (hts (.fieldLink RX3 25 "SectionFibresModel" "points" "[I") mbX3_point_4) (fun _ h9 => h9) rfl dX3_point_116 ?_
            refine lv_iload_n hx hb dX3_point_119 rfl (lv_at hl 2 rfl) ?_
            refine lv_dup2_11 hx hb dX3_point_120 rfl rfl ?_
            refine ialn hx hb hK hP 6 0 rfl rfl k (hae) (hk) (by decide) dX3_point_121 ?_
            refine tp_i (v := nI q) (hqe) ?_
            refine lv_iconst (v := 1) hx hb dX3_point_122 (by decide) ?_
            refine lv_iadd hx hb dX3_point_123 ?_
            refine tp_i (v := nI (q + 1)) (nI_1 q) ?_
            refine iasn hx hb hK hP hD hS 6 0 rfl rfl k (hae) (hk) (by decide) dX3_point_124 (fun H locs hP hD hS => ?_)
            have hP : va_P (dC, dI) vwCl (wR cA Z (setG (setG (setG g 5 (8 * k + q) b) 6 (8 * k + q) d) 7 k (nI (q + 1))) n 0 hs pe pk fo mo fE fK) H := hP
            have hD : va_D Av (wR cA Z (setG (setG (setG g 5 (8 * k + q) b) 6 (8 * k + q) d) 7 k (nI (q + 1))) n 0 hs pe pk fo mo fE fK) := hD
            refine lv_aload_n hx hb dX3_point_125 rfl (lv_at hl 1 rfl) ?_
            refine lv_iconst (v := 0) hx hb dX3_point_126 (by decide) ?_
            refine va_put (D := (dC, dI)) (ci := 4) (v := .int 0) (ty := .boolean) (C := RX3) (T := TX3) (N := 19) hx hb hts miX3_point_X3 tyX3 tyX3_ok nmX3 hown hK hP hD hS 0 rfl rfl 12 (by decide) (hts (.fieldLink RX3 60 "SectionFibresModel" "has" "Z") mbX3_point_7) (fun _ h9 => h9) rfl (by decide +kernel) rfl rfl (Nat.le_of_ble_eq_true rfl) dX3_point_127 (fun H locs hP hD hS => ?_)
            have hP : va_P (dC, dI) vwCl (wR cA Z (setG (setG (setG g 5 (8 * k + q) b) 6 (8 * k + q) d) 7 k (nI (q + 1))) n 0 0 pe pk fo mo fE fK) H := hP
            have hD : va_D Av (wR cA Z (setG (setG (setG g 5 (8 * k + q) b) 6 (8 * k + q) d) 7 k (nI (q + 1))) n 0 0 pe pk fo mo fE fK) := hD
            refine lv_iconst (v := 1) hx hb dX3_point_130 (by decide) ?_
            exact W.zret (ty := .boolean) (v := 1) hx hb hr (by decide) (fun t9 ht9 hW9 => ⟨⟨_, (((setG (setG (setG g 5 (8 * k + q) b) 6 (8 * k + q) d) 7 k (nI (q + 1))), n, 0, pe, pk, fo, mo), 0, fE, fK), rfl, (⟨by have h6 := hap.mpr ⟨hq8, fun h9 => absurd h9.1 (by have h8 := (nI_leI (b := 0) (by omega) (by omega)).mp c2; omega)⟩; rw [poi_t ⟨q1, q2, q3, h6.1, h6.2⟩, hae, nI_clamp (n := k) (by omega), hqe, nI_clamp (n := q) (by omega)]; rfl, rfl⟩), by dsimp only; rw [ht9]; exact hP⟩, hS.F ht9⟩) hS.2.2 dX3_point_131
          · have hq0 : 0 < q := Nat.pos_of_ne_zero (fun h9 => c2 (by rw [h9]; decide))
            refine lv_iload_n hx hb dX3_point_71 rfl (lv_at hl 3 rfl) ?_
            refine lv_aload_n hx hb dX3_point_72 rfl (lv_at hl 1 rfl) ?_
            refine va_get (D := (dC, dI)) (ci := 4) (v := .ref (Z 7)) (C := RX3) (T := TX3) (N := 19) hx hb hts miX3_point_X3 hown hK hP 0 rfl rfl 8 (by decide) (hts (.fieldLink RX3 28 "SectionFibresModel" "strains" "[I") mbX3_point_5) (fun _ h9 => h9) rfl dX3_point_73 ?_
            refine lv_iload hx hb dX3_point_76 (lv_at hl 0 rfl) ?_
            refine lv_iconst (v := 1) hx hb dX3_point_78 (by decide) ?_
            refine lv_isub hx hb dX3_point_79 ?_
            refine tp_i (v := nI (8 * k + q - 1)) (by have h9 := nI_pred (8 * k + q - 1); rwa [show 8 * k + q - 1 + 1 = 8 * k + q by omega] at h9) ?_
            refine ialn hx hb hK hP 7 0 rfl rfl (8 * k + q - 1) (rfl) (by omega) (by decide) dX3_point_80 ?_
            refine lv_icmp_le (tgt := 97) hx hb dX3_point_81 (by decide) (fun c3 => ?_) (fun c3 => ?_)
            · refine lv_iconst (v := 0) hx hb dX3_point_97 (by decide) ?_
              exact W.zret (ty := .boolean) (v := 0) hx hb hr (by decide) (fun t9 ht9 hW9 => ⟨⟨_, ((g, n, hs, pe, pk, fo, mo), 0, fE, fK), rfl, (⟨(poi_f (fun h9 => (hap.mp ⟨h9.2.2.2.1, h9.2.2.2.2⟩).2 ⟨hq0, Or.inl c3⟩)).symm, rfl⟩), by dsimp only; rw [ht9]; exact hP⟩, hS.F ht9⟩) hS.2.2 dX3_point_98
            · refine lv_iload_n hx hb dX3_point_84 rfl (lv_at hl 4 rfl) ?_
              refine lv_aload_n hx hb dX3_point_85 rfl (lv_at hl 1 rfl) ?_
              refine va_get (D := (dC, dI)) (ci := 4) (v := .ref (Z 8)) (C := RX3) (T := TX3) (N := 19) hx hb hts miX3_point_X3 hown hK hP 0 rfl rfl 9 (by decide) (hts (.fieldLink RX3 31 "SectionFibresModel" "stresses" "[I") mbX3_point_6) (fun _ h9 => h9) rfl dX3_point_86 ?_
              refine lv_iload hx hb dX3_point_89 (lv_at hl 0 rfl) ?_
              refine lv_iconst (v := 1) hx hb dX3_point_91 (by decide) ?_
              refine lv_isub hx hb dX3_point_92 ?_
              refine tp_i (v := nI (8 * k + q - 1)) (by have h9 := nI_pred (8 * k + q - 1); rwa [show 8 * k + q - 1 + 1 = 8 * k + q by omega] at h9) ?_
              refine ialn hx hb hK hP 8 0 rfl rfl (8 * k + q - 1) (rfl) (by omega) (by decide) dX3_point_93 ?_
              refine lv_icmp_ge (tgt := 99) hx hb dX3_point_94 (by decide) (fun c4 => ?_) (fun c4 => ?_)
              · refine lv_aload_n hx hb dX3_point_99 rfl (lv_at hl 1 rfl) ?_
                refine va_get (D := (dC, dI)) (ci := 4) (v := .ref (Z 7)) (C := RX3) (T := TX3) (N := 19) hx hb hts miX3_point_X3 hown hK hP 0 rfl rfl 8 (by decide) (hts (.fieldLink RX3 28 "SectionFibresModel" "strains" "[I") mbX3_point_5) (fun _ h9 => h9) rfl dX3_point_100 ?_
                refine lv_iload hx hb dX3_point_103 (lv_at hl 0 rfl) ?_
                refine lv_iload_n hx hb dX3_point_105 rfl (lv_at hl 3 rfl) ?_
                refine iasn hx hb hK hP hD hS 7 0 rfl rfl (8 * k + q) (rfl) (by omega) (by decide) dX3_point_106 (fun H locs hP hD hS => ?_)
                have hP : va_P (dC, dI) vwCl (wR cA Z (setG g 5 (8 * k + q) b) n 0 hs pe pk fo mo fE fK) H := hP
                have hD : va_D Av (wR cA Z (setG g 5 (8 * k + q) b) n 0 hs pe pk fo mo fE fK) := hD
                refine lv_aload_n hx hb dX3_point_107 rfl (lv_at hl 1 rfl) ?_
                refine va_get (D := (dC, dI)) (ci := 4) (v := .ref (Z 8)) (C := RX3) (T := TX3) (N := 19) hx hb hts miX3_point_X3 hown hK hP 0 rfl rfl 9 (by decide) (hts (.fieldLink RX3 31 "SectionFibresModel" "stresses" "[I") mbX3_point_6) (fun _ h9 => h9) rfl dX3_point_108 ?_
                refine lv_iload hx hb dX3_point_111 (lv_at hl 0 rfl) ?_
                refine lv_iload_n hx hb dX3_point_113 rfl (lv_at hl 4 rfl) ?_
                refine iasn hx hb hK hP hD hS 8 0 rfl rfl (8 * k + q) (rfl) (by omega) (by decide) dX3_point_114 (fun H locs hP hD hS => ?_)
                have hP : va_P (dC, dI) vwCl (wR cA Z (setG (setG g 5 (8 * k + q) b) 6 (8 * k + q) d) n 0 hs pe pk fo mo fE fK) H := hP
                have hD : va_D Av (wR cA Z (setG (setG g 5 (8 * k + q) b) 6 (8 * k + q) d) n 0 hs pe pk fo mo fE fK) := hD
                refine lv_aload_n hx hb dX3_point_115 rfl (lv_at hl 1 rfl) ?_
                refine va_get (D := (dC, dI)) (ci := 4) (v := .ref (Z 6)) (C := RX3) (T := TX3) (N := 19) hx hb hts miX3_point_X3 hown hK hP 0 rfl rfl 7 (by decide) (hts (.fieldLink RX3 25 "SectionFibresModel" "points" "[I") mbX3_point_4) (fun _ h9 => h9) rfl dX3_point_116 ?_
                refine lv_iload_n hx hb dX3_point_119 rfl (lv_at hl 2 rfl) ?_
                refine lv_dup2_11 hx hb dX3_point_120 rfl rfl ?_
                refine ialn hx hb hK hP 6 0 rfl rfl k (hae) (hk) (by decide) dX3_point_121 ?_
                refine tp_i (v := nI q) (hqe) ?_
                refine lv_iconst (v := 1) hx hb dX3_point_122 (by decide) ?_
                refine lv_iadd hx hb dX3_point_123 ?_
                refine tp_i (v := nI (q + 1)) (nI_1 q) ?_
                refine iasn hx hb hK hP hD hS 6 0 rfl rfl k (hae) (hk) (by decide) dX3_point_124 (fun H locs hP hD hS => ?_)
                have hP : va_P (dC, dI) vwCl (wR cA Z (setG (setG (setG g 5 (8 * k + q) b) 6 (8 * k + q) d) 7 k (nI (q + 1))) n 0 hs pe pk fo mo fE fK) H := hP
                have hD : va_D Av (wR cA Z (setG (setG (setG g 5 (8 * k + q) b) 6 (8 * k + q) d) 7 k (nI (q + 1))) n 0 hs pe pk fo mo fE fK) := hD
                refine lv_aload_n hx hb dX3_point_125 rfl (lv_at hl 1 rfl) ?_
                refine lv_iconst (v := 0) hx hb dX3_point_126 (by decide) ?_
                refine va_put (D := (dC, dI)) (ci := 4) (v := .int 0) (ty := .boolean) (C := RX3) (T := TX3) (N := 19) hx hb hts miX3_point_X3 tyX3 tyX3_ok nmX3 hown hK hP hD hS 0 rfl rfl 12 (by decide) (hts (.fieldLink RX3 60 "SectionFibresModel" "has" "Z") mbX3_point_7) (fun _ h9 => h9) rfl (by decide +kernel) rfl rfl (Nat.le_of_ble_eq_true rfl) dX3_point_127 (fun H locs hP hD hS => ?_)
                have hP : va_P (dC, dI) vwCl (wR cA Z (setG (setG (setG g 5 (8 * k + q) b) 6 (8 * k + q) d) 7 k (nI (q + 1))) n 0 0 pe pk fo mo fE fK) H := hP
                have hD : va_D Av (wR cA Z (setG (setG (setG g 5 (8 * k + q) b) 6 (8 * k + q) d) 7 k (nI (q + 1))) n 0 0 pe pk fo mo fE fK) := hD
                refine lv_iconst (v := 1) hx hb dX3_point_130 (by decide) ?_
                exact W.zret (ty := .boolean) (v := 1) hx hb hr (by decide) (fun t9 ht9 hW9 => ⟨⟨_, (((setG (setG (setG g 5 (8 * k + q) b) 6 (8 * k + q) d) 7 k (nI (q + 1))), n, 0, pe, pk, fo, mo), 0, fE, fK), rfl, (⟨by have h6 := hap.mpr ⟨hq8, fun h9 => h9.2.elim c3 (le_nlt c4)⟩; rw [poi_t ⟨q1, q2, q3, h6.1, h6.2⟩, hae, nI_clamp (n := k) (by omega), hqe, nI_clamp (n := q) (by omega)]; rfl, rfl⟩), by dsimp only; rw [ht9]; exact hP⟩, hS.F ht9⟩) hS.2.2 dX3_point_131
              · refine lv_iconst (v := 0) hx hb dX3_point_97 (by decide) ?_
                exact W.zret (ty := .boolean) (v := 0) hx hb hr (by decide) (fun t9 ht9 hW9 => ⟨⟨_, ((g, n, hs, pe, pk, fo, mo), 0, fE, fK), rfl, (⟨(poi_f (fun h9 => (hap.mp ⟨h9.2.2.2.1, h9.2.2.2.2⟩).2 ⟨hq0, Or.inr (nle_lt c4)⟩)).symm, rfl⟩), by dsimp only; rw [ht9]; exact hP⟩, hS.F ht9⟩) hS.2.2 dX3_point_98
        · refine lv_iconst (v := 0) hx hb dX3_point_47 (by decide) ?_
          exact W.zret (ty := .boolean) (v := 0) hx hb hr (by decide) (fun t9 ht9 hW9 => ⟨⟨_, ((g, n, hs, pe, pk, fo, mo), 0, fE, fK), rfl, (⟨(poi_f (fun h9 => by have h8 := (hap.mp ⟨h9.2.2.2.1, h9.2.2.2.2⟩).1; have h7 := (nI_eq (b := 8) (by omega) (by omega)).mp c1; omega)).symm, rfl⟩), by dsimp only; rw [ht9]; exact hP⟩, hS.F ht9⟩) hS.2.2 dX3_point_48
      · have q3 : ¬ (rg d (-1000000) 1000000) := hq6
        refine lv_if_eq (tgt := 47) hx hb dX3_point_33 (by decide) (fun _ => ?_) (fun h9 => absurd h9 (by decide))
        refine lv_iconst (v := 0) hx hb dX3_point_47 (by decide) ?_
        exact W.zret (ty := .boolean) (v := 0) hx hb hr (by decide) (fun t9 ht9 hW9 => ⟨⟨_, ((g, n, hs, pe, pk, fo, mo), 0, fE, fK), rfl, (⟨(poi_f (fun h9 => q3 h9.2.2.1)).symm, rfl⟩), by dsimp only; rw [ht9]; exact hP⟩, hS.F ht9⟩) hS.2.2 dX3_point_48
    · have q2 : ¬ (rg b (-30000) 30000) := hq4
      refine lv_if_eq (tgt := 47) hx hb dX3_point_22 (by decide) (fun _ => ?_) (fun h9 => absurd h9 (by decide))
      refine lv_iconst (v := 0) hx hb dX3_point_47 (by decide) ?_
      exact W.zret (ty := .boolean) (v := 0) hx hb hr (by decide) (fun t9 ht9 hW9 => ⟨⟨_, ((g, n, hs, pe, pk, fo, mo), 0, fE, fK), rfl, (⟨(poi_f (fun h9 => q2 h9.2.1)).symm, rfl⟩), by dsimp only; rw [ht9]; exact hP⟩, hS.F ht9⟩) hS.2.2 dX3_point_48
  · have q1 : ¬ (rg a 0 3) := hq2
    refine lv_if_eq (tgt := 47) hx hb dX3_point_9 (by decide) (fun _ => ?_) (fun h9 => absurd h9 (by decide))
    refine lv_iconst (v := 0) hx hb dX3_point_47 (by decide) ?_
    exact W.zret (ty := .boolean) (v := 0) hx hb hr (by decide) (fun t9 ht9 hW9 => ⟨⟨_, ((g, n, hs, pe, pk, fo, mo), 0, fE, fK), rfl, (⟨(poi_f (fun h9 => q1 h9.1)).symm, rfl⟩), by dsimp only; rw [ht9]; exact hP⟩, hS.F ht9⟩) hS.2.2 dX3_point_48

set_option maxRecDepth 20000 in
theorem miX3_born_X3 : ∀ w ∈ u_ws RX3 TX3 19, w ∈ wsX3_born := by decide +kernel
set_option maxRecDepth 20000 in
theorem mbX3_born_1 : (.fieldLink RX3 40 "SectionFibresModel" "thrown" "I" : Cond) ∈ wsX3_born := by decide +kernel
set_option maxRecDepth 20000 in
theorem mbX3_born_2 : (.fieldLink RX3 19 "SectionFibresModel" "borns" "[I" : Cond) ∈ wsX3_born := by decide +kernel
set_option maxRecDepth 20000 in
theorem mbX3_born_3 : (.fieldLink RX3 60 "SectionFibresModel" "has" "Z" : Cond) ∈ wsX3_born := by decide +kernel
set_option maxHeartbeats 4000000 in
set_option maxRecDepth 100000 in
theorem c_X3_born (l : Launch) (dC : Nat → ClassId) (dI : Nat → Nat → Nat) (cA : ClassId) (H : Heap) (Z : Nat → Nat) (g : Gg) (n : Nat) (th hs pe pk : Int32) (fo mo : Int64) (fE fK : Int32) (hP : va_P (dC, dI) vwCl (wR cA Z g n th hs pe pk fo mo fE fK) H) (hD : va_D (fun _ => True) (wR cA Z g n th hs pe pk fo mo fE fK)) (hn : n ≤ 40) (a b : Int32) : Met l yX3_born wsX3_born ({ frames := 1, cells := 0, slots := 0, locals := 22 }) (rd_P [.ref (Z 0), .int a, .int b] H (dC, dI) vwCl [(cA, .int)]) (va_Qi (fun (r : Int32) (u : Su) => (r, u.1) = borF (g, n, hs, pe, pk, fo, mo) a b ∧ u.2.1 = 0) (fun u t => bR dC dI cA Z u t.heap) (va_A (wR cA Z g n th hs pe pk fo mo fE fK) H.size)) 0 0 (va_A (wR cA Z g n th hs pe pk fo mo fE fK) H.size) := by
  refine Met.ofW (cc := cX3_born) (maxL := 3) (ret := (some .boolean)) (by decide) rfl ?_
  intro p e s m args below meth c s₁ B hml hv
  obtain ⟨rfl, hH, hK, hN⟩ := hv
  subst hH
  have hx := B.exec
  have hb := B.bytes
  have hr := B.returns
  have hts := atoms_spec (ws := wsX3_born) B.pre
  have hown : s.vm.findClass RX3 = some m.cls := findClass_of_methodNamed B.named
  have hlocks := B.notSynchronized
  have hD := hD.self (sz := s.heap.size)
  generalize hAe : va_A (wR cA Z g n th hs pe pk fo mo fE fK) s.heap.size = Av at hD ⊢
  have hA : ∀ q : Nat, s.heap.size ≤ q → Av q := fun q h => by rw [← hAe]; exact Or.inr h
  have hS : va_S Av s.heap s.heap [] := va_S.rf
  have hl := lv_entry ([.ref (Z 0), .int a, .int b]) (n := 3) (Nat.le_of_ble_eq_true rfl)
  rw [lg_entry_eq]
  generalize (lg_sl ([.ref (Z 0), .int a, .int b]) ++ List.replicate (3 - (lg_sl ([.ref (Z 0), .int a, .int b])).length) Slot.unset).toArray = ls at hl ⊢
  have hl : lv_has ls 3 [(0, .ref (Z 0)), (1, .int a), (2, .int b)] := hl
  refine lv_aload_n hx hb dX3_born_0 rfl (lv_at hl 0 rfl) ?_
  refine lv_iconst (v := 0) hx hb dX3_born_1 (by decide) ?_
  refine va_put (D := (dC, dI)) (ci := 4) (v := .int 0) (ty := .int) (C := RX3) (T := TX3) (N := 19) hx hb hts miX3_born_X3 tyX3 tyX3_ok nmX3 hown hK hP hD hS 0 rfl rfl 0 (by decide) (hts (.fieldLink RX3 40 "SectionFibresModel" "thrown" "I") mbX3_born_1) (fun _ h9 => h9) rfl (by decide +kernel) rfl rfl (Nat.le_of_ble_eq_true rfl) dX3_born_2 (fun H locs hP hD hS => ?_)
  have hP : va_P (dC, dI) vwCl (wR cA Z g n 0 hs pe pk fo mo fE fK) H := hP
  have hD : va_D Av (wR cA Z g n 0 hs pe pk fo mo fE fK) := hD
  refine lv_aload_n hx hb dX3_born_5 rfl (lv_at hl 0 rfl) ?_
  refine lv_iload_n hx hb dX3_born_6 rfl (lv_at hl 1 rfl) ?_
  refine rd_i (va_runV (As := [.int a]) (rest := []) ⟨hx, hb, hml, hown, hts⟩ (c_X3_isFibre l dC dI cA H Z g n 0 hs pe pk fo mo fE fK hP (by omega) a) (cwV 1 hts gX3_born_X3_isFibre rfl rfl rfl (by decide +kernel) ⟨Nat.le_of_ble_eq_true rfl, Nat.le_of_ble_eq_true rfl⟩) ⟨rd_bl, va_recv hK hP (ci := 4) (q0 := 0) rfl rfl, rd_pre hK hN⟩ rfl rfl hl.1 rfl (lv_room (Nat.le_of_ble_eq_true rfl)) dX3_born_7 ⟨Nat.zero_le _, Nat.zero_le _⟩) hS (fun r1 locs hq2 hS => ?_)
  rcases hq2 with ⟨hq2, rfl⟩ | ⟨hq2, rfl⟩
  · have q1 : rg a 0 ((n : Int) - 1) := hq2
    refine lv_if_eq (tgt := 26) hx hb dX3_born_10 (by decide) (fun h9 => absurd h9 (by decide)) (fun _ => ?_)
    refine lv_iload_n hx hb dX3_born_13 rfl (lv_at hl 2 rfl) ?_
    refine lv_sipush (v := (-30000)) hx hb dX3_born_14 (by decide) ?_
    refine lv_sipush (v := 30000) hx hb dX3_born_17 (by decide) ?_
    refine rd_i (va_runS (As := [.int b, .int (-30000), .int 30000]) (rest := []) ⟨hx, hb, hml, hown, hts⟩ (c_X3_within l dC dI cA H b (-30000) 30000 (-30000) 30000 (by decide) (by decide)) (va_cwS 3 hts gX3_born_X3_within rfl rfl rfl (by decide +kernel) ⟨Nat.le_of_ble_eq_true rfl, Nat.le_of_ble_eq_true rfl⟩) ⟨rd_bl, rd_pre hK hN⟩ rfl rfl hl.1 rfl (lv_room (Nat.le_of_ble_eq_true rfl)) dX3_born_20 ⟨Nat.zero_le _, Nat.zero_le _⟩) hS (fun r3 locs hq4 hS => ?_)
    rcases hq4 with ⟨hq4, rfl⟩ | ⟨hq4, rfl⟩
    · have q2 : rg b (-30000) 30000 := hq4
      refine lv_if_ne (tgt := 28) hx hb dX3_born_23 (by decide) (fun _ => ?_) (fun h9 => absurd h9 (by decide))
      refine lv_aload_n hx hb dX3_born_28 rfl (lv_at hl 0 rfl) ?_
      refine va_get (D := (dC, dI)) (ci := 4) (v := .ref (Z 4)) (C := RX3) (T := TX3) (N := 19) hx hb hts miX3_born_X3 hown hK hP 0 rfl rfl 5 (by decide) (hts (.fieldLink RX3 19 "SectionFibresModel" "borns" "[I") mbX3_born_2) (fun _ h9 => h9) rfl dX3_born_29 ?_
      refine lv_iload_n hx hb dX3_born_32 rfl (lv_at hl 1 rfl) ?_
      refine lv_iload_n hx hb dX3_born_33 rfl (lv_at hl 2 rfl) ?_
      refine iasn hx hb hK hP hD hS 4 0 rfl rfl a.toNatClampNeg (rg_nI q1) (by have h9 := rg_lt q1; omega) (by decide) dX3_born_34 (fun H locs hP hD hS => ?_)
      have hP : va_P (dC, dI) vwCl (wR cA Z (setG g 3 a.toNatClampNeg b) n 0 hs pe pk fo mo fE fK) H := hP
      have hD : va_D Av (wR cA Z (setG g 3 a.toNatClampNeg b) n 0 hs pe pk fo mo fE fK) := hD
      refine lv_aload_n hx hb dX3_born_35 rfl (lv_at hl 0 rfl) ?_
      refine lv_iconst (v := 0) hx hb dX3_born_36 (by decide) ?_
      refine va_put (D := (dC, dI)) (ci := 4) (v := .int 0) (ty := .boolean) (C := RX3) (T := TX3) (N := 19) hx hb hts miX3_born_X3 tyX3 tyX3_ok nmX3 hown hK hP hD hS 0 rfl rfl 12 (by decide) (hts (.fieldLink RX3 60 "SectionFibresModel" "has" "Z") mbX3_born_3) (fun _ h9 => h9) rfl (by decide +kernel) rfl rfl (Nat.le_of_ble_eq_true rfl) dX3_born_37 (fun H locs hP hD hS => ?_)
      have hP : va_P (dC, dI) vwCl (wR cA Z (setG g 3 a.toNatClampNeg b) n 0 0 pe pk fo mo fE fK) H := hP
      have hD : va_D Av (wR cA Z (setG g 3 a.toNatClampNeg b) n 0 0 pe pk fo mo fE fK) := hD
      refine lv_iconst (v := 1) hx hb dX3_born_40 (by decide) ?_
      exact W.zret (ty := .boolean) (v := 1) hx hb hr (by decide) (fun t9 ht9 hW9 => ⟨⟨_, (((setG g 3 a.toNatClampNeg b), n, 0, pe, pk, fo, mo), 0, fE, fK), rfl, (⟨(bor_t ⟨q1, q2⟩).symm, rfl⟩), by dsimp only; rw [ht9]; exact hP⟩, hS.F ht9⟩) hS.2.2 dX3_born_41
    · have q2 : ¬ (rg b (-30000) 30000) := hq4
      refine lv_if_ne (tgt := 28) hx hb dX3_born_23 (by decide) (fun h9 => absurd h9 (by decide)) (fun _ => ?_)
      refine lv_iconst (v := 0) hx hb dX3_born_26 (by decide) ?_
      exact W.zret (ty := .boolean) (v := 0) hx hb hr (by decide) (fun t9 ht9 hW9 => ⟨⟨_, ((g, n, hs, pe, pk, fo, mo), 0, fE, fK), rfl, (⟨(bor_f (fun h9 => q2 h9.2)).symm, rfl⟩), by dsimp only; rw [ht9]; exact hP⟩, hS.F ht9⟩) hS.2.2 dX3_born_27
  · have q1 : ¬ (rg a 0 ((n : Int) - 1)) := hq2
    refine lv_if_eq (tgt := 26) hx hb dX3_born_10 (by decide) (fun _ => ?_) (fun h9 => absurd h9 (by decide))
    refine lv_iconst (v := 0) hx hb dX3_born_26 (by decide) ?_
    exact W.zret (ty := .boolean) (v := 0) hx hb hr (by decide) (fun t9 ht9 hW9 => ⟨⟨_, ((g, n, hs, pe, pk, fo, mo), 0, fE, fK), rfl, (⟨(bor_f (fun h9 => q1 h9.1)).symm, rfl⟩), by dsimp only; rw [ht9]; exact hP⟩, hS.F ht9⟩) hS.2.2 dX3_born_27

set_option maxRecDepth 20000 in
theorem miX3_keeps_X3 : ∀ w ∈ u_ws RX3 TX3 19, w ∈ wsX3_keeps := by decide +kernel
set_option maxRecDepth 20000 in
theorem mbX3_keeps_1 : (.fieldLink RX3 40 "SectionFibresModel" "thrown" "I" : Cond) ∈ wsX3_keeps := by decide +kernel
set_option maxRecDepth 20000 in
theorem mbX3_keeps_2 : (.fieldLink RX3 22 "SectionFibresModel" "kept" "[I" : Cond) ∈ wsX3_keeps := by decide +kernel
set_option maxRecDepth 20000 in
theorem mbX3_keeps_3 : (.fieldLink RX3 60 "SectionFibresModel" "has" "Z" : Cond) ∈ wsX3_keeps := by decide +kernel
set_option maxHeartbeats 4000000 in
set_option maxRecDepth 100000 in
theorem c_X3_keeps (l : Launch) (dC : Nat → ClassId) (dI : Nat → Nat → Nat) (cA : ClassId) (H : Heap) (Z : Nat → Nat) (g : Gg) (n : Nat) (th hs pe pk : Int32) (fo mo : Int64) (fE fK : Int32) (hP : va_P (dC, dI) vwCl (wR cA Z g n th hs pe pk fo mo fE fK) H) (hD : va_D (fun _ => True) (wR cA Z g n th hs pe pk fo mo fE fK)) (hn : n ≤ 40) (a b : Int32) : Met l yX3_keeps wsX3_keeps ({ frames := 1, cells := 0, slots := 0, locals := 22 }) (rd_P [.ref (Z 0), .int a, .int b] H (dC, dI) vwCl [(cA, .int)]) (va_Qi (fun (r : Int32) (u : Su) => (r, u.1) = keeF (g, n, hs, pe, pk, fo, mo) a b ∧ u.2.1 = 0) (fun u t => bR dC dI cA Z u t.heap) (va_A (wR cA Z g n th hs pe pk fo mo fE fK) H.size)) 0 0 (va_A (wR cA Z g n th hs pe pk fo mo fE fK) H.size) := by
  refine Met.ofW (cc := cX3_keeps) (maxL := 3) (ret := (some .boolean)) (by decide) rfl ?_
  intro p e s m args below meth c s₁ B hml hv
  obtain ⟨rfl, hH, hK, hN⟩ := hv
  subst hH
  have hx := B.exec
  have hb := B.bytes
  have hr := B.returns
  have hts := atoms_spec (ws := wsX3_keeps) B.pre
  have hown : s.vm.findClass RX3 = some m.cls := findClass_of_methodNamed B.named
  have hlocks := B.notSynchronized
  have hD := hD.self (sz := s.heap.size)
  generalize hAe : va_A (wR cA Z g n th hs pe pk fo mo fE fK) s.heap.size = Av at hD ⊢
  have hA : ∀ q : Nat, s.heap.size ≤ q → Av q := fun q h => by rw [← hAe]; exact Or.inr h
  have hS : va_S Av s.heap s.heap [] := va_S.rf
  have hl := lv_entry ([.ref (Z 0), .int a, .int b]) (n := 3) (Nat.le_of_ble_eq_true rfl)
  rw [lg_entry_eq]
  generalize (lg_sl ([.ref (Z 0), .int a, .int b]) ++ List.replicate (3 - (lg_sl ([.ref (Z 0), .int a, .int b])).length) Slot.unset).toArray = ls at hl ⊢
  have hl : lv_has ls 3 [(0, .ref (Z 0)), (1, .int a), (2, .int b)] := hl
  refine lv_aload_n hx hb dX3_keeps_0 rfl (lv_at hl 0 rfl) ?_
  refine lv_iconst (v := 0) hx hb dX3_keeps_1 (by decide) ?_
  refine va_put (D := (dC, dI)) (ci := 4) (v := .int 0) (ty := .int) (C := RX3) (T := TX3) (N := 19) hx hb hts miX3_keeps_X3 tyX3 tyX3_ok nmX3 hown hK hP hD hS 0 rfl rfl 0 (by decide) (hts (.fieldLink RX3 40 "SectionFibresModel" "thrown" "I") mbX3_keeps_1) (fun _ h9 => h9) rfl (by decide +kernel) rfl rfl (Nat.le_of_ble_eq_true rfl) dX3_keeps_2 (fun H locs hP hD hS => ?_)
  have hP : va_P (dC, dI) vwCl (wR cA Z g n 0 hs pe pk fo mo fE fK) H := hP
  have hD : va_D Av (wR cA Z g n 0 hs pe pk fo mo fE fK) := hD
  refine lv_aload_n hx hb dX3_keeps_5 rfl (lv_at hl 0 rfl) ?_
  refine lv_iload_n hx hb dX3_keeps_6 rfl (lv_at hl 1 rfl) ?_
  refine rd_i (va_runV (As := [.int a]) (rest := []) ⟨hx, hb, hml, hown, hts⟩ (c_X3_isFibre l dC dI cA H Z g n 0 hs pe pk fo mo fE fK hP (by omega) a) (cwV 1 hts gX3_keeps_X3_isFibre rfl rfl rfl (by decide +kernel) ⟨Nat.le_of_ble_eq_true rfl, Nat.le_of_ble_eq_true rfl⟩) ⟨rd_bl, va_recv hK hP (ci := 4) (q0 := 0) rfl rfl, rd_pre hK hN⟩ rfl rfl hl.1 rfl (lv_room (Nat.le_of_ble_eq_true rfl)) dX3_keeps_7 ⟨Nat.zero_le _, Nat.zero_le _⟩) hS (fun r1 locs hq2 hS => ?_)
  rcases hq2 with ⟨hq2, rfl⟩ | ⟨hq2, rfl⟩
  · have q1 : rg a 0 ((n : Int) - 1) := hq2
    refine lv_if_eq (tgt := 23) hx hb dX3_keeps_10 (by decide) (fun h9 => absurd h9 (by decide)) (fun _ => ?_)
    refine lv_iload_n hx hb dX3_keeps_13 rfl (lv_at hl 2 rfl) ?_
    refine lv_iconst (v := 0) hx hb dX3_keeps_14 (by decide) ?_
    refine lv_bipush (v := 100) hx hb dX3_keeps_15 (by decide) ?_
    refine rd_i (va_runS (As := [.int b, .int 0, .int 100]) (rest := []) ⟨hx, hb, hml, hown, hts⟩ (c_X3_within l dC dI cA H b 0 100 0 100 (by decide) (by decide)) (va_cwS 3 hts gX3_keeps_X3_within rfl rfl rfl (by decide +kernel) ⟨Nat.le_of_ble_eq_true rfl, Nat.le_of_ble_eq_true rfl⟩) ⟨rd_bl, rd_pre hK hN⟩ rfl rfl hl.1 rfl (lv_room (Nat.le_of_ble_eq_true rfl)) dX3_keeps_17 ⟨Nat.zero_le _, Nat.zero_le _⟩) hS (fun r3 locs hq4 hS => ?_)
    rcases hq4 with ⟨hq4, rfl⟩ | ⟨hq4, rfl⟩
    · have q2 : rg b 0 100 := hq4
      refine lv_if_ne (tgt := 25) hx hb dX3_keeps_20 (by decide) (fun _ => ?_) (fun h9 => absurd h9 (by decide))
      refine lv_aload_n hx hb dX3_keeps_25 rfl (lv_at hl 0 rfl) ?_
      refine va_get (D := (dC, dI)) (ci := 4) (v := .ref (Z 5)) (C := RX3) (T := TX3) (N := 19) hx hb hts miX3_keeps_X3 hown hK hP 0 rfl rfl 6 (by decide) (hts (.fieldLink RX3 22 "SectionFibresModel" "kept" "[I") mbX3_keeps_2) (fun _ h9 => h9) rfl dX3_keeps_26 ?_
      refine lv_iload_n hx hb dX3_keeps_29 rfl (lv_at hl 1 rfl) ?_
      refine lv_iload_n hx hb dX3_keeps_30 rfl (lv_at hl 2 rfl) ?_
      refine iasn hx hb hK hP hD hS 5 0 rfl rfl a.toNatClampNeg (rg_nI q1) (by have h9 := rg_lt q1; omega) (by decide) dX3_keeps_31 (fun H locs hP hD hS => ?_)
      have hP : va_P (dC, dI) vwCl (wR cA Z (setG g 4 a.toNatClampNeg b) n 0 hs pe pk fo mo fE fK) H := hP
      have hD : va_D Av (wR cA Z (setG g 4 a.toNatClampNeg b) n 0 hs pe pk fo mo fE fK) := hD
      refine lv_aload_n hx hb dX3_keeps_32 rfl (lv_at hl 0 rfl) ?_
      refine lv_iconst (v := 0) hx hb dX3_keeps_33 (by decide) ?_
      refine va_put (D := (dC, dI)) (ci := 4) (v := .int 0) (ty := .boolean) (C := RX3) (T := TX3) (N := 19) hx hb hts miX3_keeps_X3 tyX3 tyX3_ok nmX3 hown hK hP hD hS 0 rfl rfl 12 (by decide) (hts (.fieldLink RX3 60 "SectionFibresModel" "has" "Z") mbX3_keeps_3) (fun _ h9 => h9) rfl (by decide +kernel) rfl rfl (Nat.le_of_ble_eq_true rfl) dX3_keeps_34 (fun H locs hP hD hS => ?_)
      have hP : va_P (dC, dI) vwCl (wR cA Z (setG g 4 a.toNatClampNeg b) n 0 0 pe pk fo mo fE fK) H := hP
      have hD : va_D Av (wR cA Z (setG g 4 a.toNatClampNeg b) n 0 0 pe pk fo mo fE fK) := hD
      refine lv_iconst (v := 1) hx hb dX3_keeps_37 (by decide) ?_
      exact W.zret (ty := .boolean) (v := 1) hx hb hr (by decide) (fun t9 ht9 hW9 => ⟨⟨_, (((setG g 4 a.toNatClampNeg b), n, 0, pe, pk, fo, mo), 0, fE, fK), rfl, (⟨(kee_t ⟨q1, q2⟩).symm, rfl⟩), by dsimp only; rw [ht9]; exact hP⟩, hS.F ht9⟩) hS.2.2 dX3_keeps_38
    · have q2 : ¬ (rg b 0 100) := hq4
      refine lv_if_ne (tgt := 25) hx hb dX3_keeps_20 (by decide) (fun h9 => absurd h9 (by decide)) (fun _ => ?_)
      refine lv_iconst (v := 0) hx hb dX3_keeps_23 (by decide) ?_
      exact W.zret (ty := .boolean) (v := 0) hx hb hr (by decide) (fun t9 ht9 hW9 => ⟨⟨_, ((g, n, hs, pe, pk, fo, mo), 0, fE, fK), rfl, (⟨(kee_f (fun h9 => q2 h9.2)).symm, rfl⟩), by dsimp only; rw [ht9]; exact hP⟩, hS.F ht9⟩) hS.2.2 dX3_keeps_24
  · have q1 : ¬ (rg a 0 ((n : Int) - 1)) := hq2
    refine lv_if_eq (tgt := 23) hx hb dX3_keeps_10 (by decide) (fun _ => ?_) (fun h9 => absurd h9 (by decide))
    refine lv_iconst (v := 0) hx hb dX3_keeps_23 (by decide) ?_
    exact W.zret (ty := .boolean) (v := 0) hx hb hr (by decide) (fun t9 ht9 hW9 => ⟨⟨_, ((g, n, hs, pe, pk, fo, mo), 0, fE, fK), rfl, (⟨(kee_f (fun h9 => q1 h9.1)).symm, rfl⟩), by dsimp only; rw [ht9]; exact hP⟩, hS.F ht9⟩) hS.2.2 dX3_keeps_24

set_option maxRecDepth 20000 in
theorem miX3_creeps_X3 : ∀ w ∈ u_ws RX3 TX3 19, w ∈ wsX3_creeps := by decide +kernel
set_option maxRecDepth 20000 in
theorem mbX3_creeps_1 : (.fieldLink RX3 40 "SectionFibresModel" "thrown" "I" : Cond) ∈ wsX3_creeps := by decide +kernel
set_option maxRecDepth 20000 in
theorem mbX3_creeps_2 : (.fieldLink RX3 34 "SectionFibresModel" "creep" "[I" : Cond) ∈ wsX3_creeps := by decide +kernel
set_option maxRecDepth 20000 in
theorem mbX3_creeps_3 : (.fieldLink RX3 60 "SectionFibresModel" "has" "Z" : Cond) ∈ wsX3_creeps := by decide +kernel
set_option maxHeartbeats 4000000 in
set_option maxRecDepth 100000 in
theorem c_X3_creeps (l : Launch) (dC : Nat → ClassId) (dI : Nat → Nat → Nat) (cA : ClassId) (H : Heap) (Z : Nat → Nat) (g : Gg) (n : Nat) (th hs pe pk : Int32) (fo mo : Int64) (fE fK : Int32) (hP : va_P (dC, dI) vwCl (wR cA Z g n th hs pe pk fo mo fE fK) H) (hD : va_D (fun _ => True) (wR cA Z g n th hs pe pk fo mo fE fK)) (a b : Int32) : Met l yX3_creeps wsX3_creeps ({ frames := 1, cells := 0, slots := 0, locals := 22 }) (rd_P [.ref (Z 0), .int a, .int b] H (dC, dI) vwCl [(cA, .int)]) (va_Qi (fun (r : Int32) (u : Su) => (r, u.1) = creF (g, n, hs, pe, pk, fo, mo) a b ∧ u.2.1 = 0) (fun u t => bR dC dI cA Z u t.heap) (va_A (wR cA Z g n th hs pe pk fo mo fE fK) H.size)) 0 0 (va_A (wR cA Z g n th hs pe pk fo mo fE fK) H.size) := by
  refine Met.ofW (cc := cX3_creeps) (maxL := 3) (ret := (some .boolean)) (by decide) rfl ?_
  intro p e s m args below meth c s₁ B hml hv
  obtain ⟨rfl, hH, hK, hN⟩ := hv
  subst hH
  have hx := B.exec
  have hb := B.bytes
  have hr := B.returns
  have hts := atoms_spec (ws := wsX3_creeps) B.pre
  have hown : s.vm.findClass RX3 = some m.cls := findClass_of_methodNamed B.named
  have hlocks := B.notSynchronized
  have hD := hD.self (sz := s.heap.size)
  generalize hAe : va_A (wR cA Z g n th hs pe pk fo mo fE fK) s.heap.size = Av at hD ⊢
  have hA : ∀ q : Nat, s.heap.size ≤ q → Av q := fun q h => by rw [← hAe]; exact Or.inr h
  have hS : va_S Av s.heap s.heap [] := va_S.rf
  have hl := lv_entry ([.ref (Z 0), .int a, .int b]) (n := 3) (Nat.le_of_ble_eq_true rfl)
  rw [lg_entry_eq]
  generalize (lg_sl ([.ref (Z 0), .int a, .int b]) ++ List.replicate (3 - (lg_sl ([.ref (Z 0), .int a, .int b])).length) Slot.unset).toArray = ls at hl ⊢
  have hl : lv_has ls 3 [(0, .ref (Z 0)), (1, .int a), (2, .int b)] := hl
  refine lv_aload_n hx hb dX3_creeps_0 rfl (lv_at hl 0 rfl) ?_
  refine lv_iconst (v := 0) hx hb dX3_creeps_1 (by decide) ?_
  refine va_put (D := (dC, dI)) (ci := 4) (v := .int 0) (ty := .int) (C := RX3) (T := TX3) (N := 19) hx hb hts miX3_creeps_X3 tyX3 tyX3_ok nmX3 hown hK hP hD hS 0 rfl rfl 0 (by decide) (hts (.fieldLink RX3 40 "SectionFibresModel" "thrown" "I") mbX3_creeps_1) (fun _ h9 => h9) rfl (by decide +kernel) rfl rfl (Nat.le_of_ble_eq_true rfl) dX3_creeps_2 (fun H locs hP hD hS => ?_)
  have hP : va_P (dC, dI) vwCl (wR cA Z g n 0 hs pe pk fo mo fE fK) H := hP
  have hD : va_D Av (wR cA Z g n 0 hs pe pk fo mo fE fK) := hD
  refine lv_iload_n hx hb dX3_creeps_5 rfl (lv_at hl 1 rfl) ?_
  refine rd_i (va_runS (As := [.int a]) (rest := []) ⟨hx, hb, hml, hown, hts⟩ (c_X3_isKind l dC dI cA H a) (va_cwS 1 hts gX3_creeps_X3_isKind rfl rfl rfl (by decide +kernel) ⟨Nat.le_of_ble_eq_true rfl, Nat.le_of_ble_eq_true rfl⟩) ⟨rd_bl, rd_pre hK hN⟩ rfl rfl hl.1 rfl (lv_room (Nat.le_of_ble_eq_true rfl)) dX3_creeps_6 ⟨Nat.zero_le _, Nat.zero_le _⟩) hS (fun r1 locs hq2 hS => ?_)
  rcases hq2 with ⟨hq2, rfl⟩ | ⟨hq2, rfl⟩
  · have q1 : rg a 0 3 := hq2
    refine lv_if_eq (tgt := 23) hx hb dX3_creeps_9 (by decide) (fun h9 => absurd h9 (by decide)) (fun _ => ?_)
    refine lv_iload_n hx hb dX3_creeps_12 rfl (lv_at hl 2 rfl) ?_
    refine lv_iconst (v := 0) hx hb dX3_creeps_13 (by decide) ?_
    refine lv_sipush (v := 500) hx hb dX3_creeps_14 (by decide) ?_
    refine rd_i (va_runS (As := [.int b, .int 0, .int 500]) (rest := []) ⟨hx, hb, hml, hown, hts⟩ (c_X3_within l dC dI cA H b 0 500 0 500 (by decide) (by decide)) (va_cwS 3 hts gX3_creeps_X3_within rfl rfl rfl (by decide +kernel) ⟨Nat.le_of_ble_eq_true rfl, Nat.le_of_ble_eq_true rfl⟩) ⟨rd_bl, rd_pre hK hN⟩ rfl rfl hl.1 rfl (lv_room (Nat.le_of_ble_eq_true rfl)) dX3_creeps_17 ⟨Nat.zero_le _, Nat.zero_le _⟩) hS (fun r3 locs hq4 hS => ?_)
    rcases hq4 with ⟨hq4, rfl⟩ | ⟨hq4, rfl⟩
    · have q2 : rg b 0 500 := hq4
      refine lv_if_ne (tgt := 25) hx hb dX3_creeps_20 (by decide) (fun _ => ?_) (fun h9 => absurd h9 (by decide))
      refine lv_aload_n hx hb dX3_creeps_25 rfl (lv_at hl 0 rfl) ?_
      refine va_get (D := (dC, dI)) (ci := 4) (v := .ref (Z 9)) (C := RX3) (T := TX3) (N := 19) hx hb hts miX3_creeps_X3 hown hK hP 0 rfl rfl 10 (by decide) (hts (.fieldLink RX3 34 "SectionFibresModel" "creep" "[I") mbX3_creeps_2) (fun _ h9 => h9) rfl dX3_creeps_26 ?_
      refine lv_iload_n hx hb dX3_creeps_29 rfl (lv_at hl 1 rfl) ?_
      refine lv_iload_n hx hb dX3_creeps_30 rfl (lv_at hl 2 rfl) ?_
      refine iasn hx hb hK hP hD hS 9 0 rfl rfl a.toNatClampNeg (rg_nI q1) (by have h9 := rg_lt q1; omega) (by decide) dX3_creeps_31 (fun H locs hP hD hS => ?_)
      have hP : va_P (dC, dI) vwCl (wR cA Z (setG g 8 a.toNatClampNeg b) n 0 hs pe pk fo mo fE fK) H := hP
      have hD : va_D Av (wR cA Z (setG g 8 a.toNatClampNeg b) n 0 hs pe pk fo mo fE fK) := hD
      refine lv_aload_n hx hb dX3_creeps_32 rfl (lv_at hl 0 rfl) ?_
      refine lv_iconst (v := 0) hx hb dX3_creeps_33 (by decide) ?_
      refine va_put (D := (dC, dI)) (ci := 4) (v := .int 0) (ty := .boolean) (C := RX3) (T := TX3) (N := 19) hx hb hts miX3_creeps_X3 tyX3 tyX3_ok nmX3 hown hK hP hD hS 0 rfl rfl 12 (by decide) (hts (.fieldLink RX3 60 "SectionFibresModel" "has" "Z") mbX3_creeps_3) (fun _ h9 => h9) rfl (by decide +kernel) rfl rfl (Nat.le_of_ble_eq_true rfl) dX3_creeps_34 (fun H locs hP hD hS => ?_)
      have hP : va_P (dC, dI) vwCl (wR cA Z (setG g 8 a.toNatClampNeg b) n 0 0 pe pk fo mo fE fK) H := hP
      have hD : va_D Av (wR cA Z (setG g 8 a.toNatClampNeg b) n 0 0 pe pk fo mo fE fK) := hD
      refine lv_iconst (v := 1) hx hb dX3_creeps_37 (by decide) ?_
      exact W.zret (ty := .boolean) (v := 1) hx hb hr (by decide) (fun t9 ht9 hW9 => ⟨⟨_, (((setG g 8 a.toNatClampNeg b), n, 0, pe, pk, fo, mo), 0, fE, fK), rfl, (⟨(cre_t ⟨q1, q2⟩).symm, rfl⟩), by dsimp only; rw [ht9]; exact hP⟩, hS.F ht9⟩) hS.2.2 dX3_creeps_38
    · have q2 : ¬ (rg b 0 500) := hq4
      refine lv_if_ne (tgt := 25) hx hb dX3_creeps_20 (by decide) (fun h9 => absurd h9 (by decide)) (fun _ => ?_)
      refine lv_iconst (v := 0) hx hb dX3_creeps_23 (by decide) ?_
      exact W.zret (ty := .boolean) (v := 0) hx hb hr (by decide) (fun t9 ht9 hW9 => ⟨⟨_, ((g, n, hs, pe, pk, fo, mo), 0, fE, fK), rfl, (⟨(cre_f (fun h9 => q2 h9.2)).symm, rfl⟩), by dsimp only; rw [ht9]; exact hP⟩, hS.F ht9⟩) hS.2.2 dX3_creeps_24
  · have q1 : ¬ (rg a 0 3) := hq2
    refine lv_if_eq (tgt := 23) hx hb dX3_creeps_9 (by decide) (fun _ => ?_) (fun h9 => absurd h9 (by decide))
    refine lv_iconst (v := 0) hx hb dX3_creeps_23 (by decide) ?_
    exact W.zret (ty := .boolean) (v := 0) hx hb hr (by decide) (fun t9 ht9 hW9 => ⟨⟨_, ((g, n, hs, pe, pk, fo, mo), 0, fE, fK), rfl, (⟨(cre_f (fun h9 => q1 h9.1)).symm, rfl⟩), by dsimp only; rw [ht9]; exact hP⟩, hS.F ht9⟩) hS.2.2 dX3_creeps_24

set_option maxRecDepth 20000 in
theorem miX3_shrinks_X3 : ∀ w ∈ u_ws RX3 TX3 19, w ∈ wsX3_shrinks := by decide +kernel
set_option maxRecDepth 20000 in
theorem mbX3_shrinks_1 : (.fieldLink RX3 40 "SectionFibresModel" "thrown" "I" : Cond) ∈ wsX3_shrinks := by decide +kernel
set_option maxRecDepth 20000 in
theorem mbX3_shrinks_2 : (.fieldLink RX3 37 "SectionFibresModel" "shrunk" "[I" : Cond) ∈ wsX3_shrinks := by decide +kernel
set_option maxRecDepth 20000 in
theorem mbX3_shrinks_3 : (.fieldLink RX3 60 "SectionFibresModel" "has" "Z" : Cond) ∈ wsX3_shrinks := by decide +kernel
set_option maxHeartbeats 4000000 in
set_option maxRecDepth 100000 in
theorem c_X3_shrinks (l : Launch) (dC : Nat → ClassId) (dI : Nat → Nat → Nat) (cA : ClassId) (H : Heap) (Z : Nat → Nat) (g : Gg) (n : Nat) (th hs pe pk : Int32) (fo mo : Int64) (fE fK : Int32) (hP : va_P (dC, dI) vwCl (wR cA Z g n th hs pe pk fo mo fE fK) H) (hD : va_D (fun _ => True) (wR cA Z g n th hs pe pk fo mo fE fK)) (a b : Int32) : Met l yX3_shrinks wsX3_shrinks ({ frames := 1, cells := 0, slots := 0, locals := 22 }) (rd_P [.ref (Z 0), .int a, .int b] H (dC, dI) vwCl [(cA, .int)]) (va_Qi (fun (r : Int32) (u : Su) => (r, u.1) = shrF (g, n, hs, pe, pk, fo, mo) a b ∧ u.2.1 = 0) (fun u t => bR dC dI cA Z u t.heap) (va_A (wR cA Z g n th hs pe pk fo mo fE fK) H.size)) 0 0 (va_A (wR cA Z g n th hs pe pk fo mo fE fK) H.size) := by
  refine Met.ofW (cc := cX3_shrinks) (maxL := 3) (ret := (some .boolean)) (by decide) rfl ?_
  intro p e s m args below meth c s₁ B hml hv
  obtain ⟨rfl, hH, hK, hN⟩ := hv
  subst hH
  have hx := B.exec
  have hb := B.bytes
  have hr := B.returns
  have hts := atoms_spec (ws := wsX3_shrinks) B.pre
  have hown : s.vm.findClass RX3 = some m.cls := findClass_of_methodNamed B.named
  have hlocks := B.notSynchronized
  have hD := hD.self (sz := s.heap.size)
  generalize hAe : va_A (wR cA Z g n th hs pe pk fo mo fE fK) s.heap.size = Av at hD ⊢
  have hA : ∀ q : Nat, s.heap.size ≤ q → Av q := fun q h => by rw [← hAe]; exact Or.inr h
  have hS : va_S Av s.heap s.heap [] := va_S.rf
  have hl := lv_entry ([.ref (Z 0), .int a, .int b]) (n := 3) (Nat.le_of_ble_eq_true rfl)
  rw [lg_entry_eq]
  generalize (lg_sl ([.ref (Z 0), .int a, .int b]) ++ List.replicate (3 - (lg_sl ([.ref (Z 0), .int a, .int b])).length) Slot.unset).toArray = ls at hl ⊢
  have hl : lv_has ls 3 [(0, .ref (Z 0)), (1, .int a), (2, .int b)] := hl
  refine lv_aload_n hx hb dX3_shrinks_0 rfl (lv_at hl 0 rfl) ?_
  refine lv_iconst (v := 0) hx hb dX3_shrinks_1 (by decide) ?_
  refine va_put (D := (dC, dI)) (ci := 4) (v := .int 0) (ty := .int) (C := RX3) (T := TX3) (N := 19) hx hb hts miX3_shrinks_X3 tyX3 tyX3_ok nmX3 hown hK hP hD hS 0 rfl rfl 0 (by decide) (hts (.fieldLink RX3 40 "SectionFibresModel" "thrown" "I") mbX3_shrinks_1) (fun _ h9 => h9) rfl (by decide +kernel) rfl rfl (Nat.le_of_ble_eq_true rfl) dX3_shrinks_2 (fun H locs hP hD hS => ?_)
  have hP : va_P (dC, dI) vwCl (wR cA Z g n 0 hs pe pk fo mo fE fK) H := hP
  have hD : va_D Av (wR cA Z g n 0 hs pe pk fo mo fE fK) := hD
  refine lv_iload_n hx hb dX3_shrinks_5 rfl (lv_at hl 1 rfl) ?_
  refine rd_i (va_runS (As := [.int a]) (rest := []) ⟨hx, hb, hml, hown, hts⟩ (c_X3_isKind l dC dI cA H a) (va_cwS 1 hts gX3_shrinks_X3_isKind rfl rfl rfl (by decide +kernel) ⟨Nat.le_of_ble_eq_true rfl, Nat.le_of_ble_eq_true rfl⟩) ⟨rd_bl, rd_pre hK hN⟩ rfl rfl hl.1 rfl (lv_room (Nat.le_of_ble_eq_true rfl)) dX3_shrinks_6 ⟨Nat.zero_le _, Nat.zero_le _⟩) hS (fun r1 locs hq2 hS => ?_)
  rcases hq2 with ⟨hq2, rfl⟩ | ⟨hq2, rfl⟩
  · have q1 : rg a 0 3 := hq2
    refine lv_if_eq (tgt := 25) hx hb dX3_shrinks_9 (by decide) (fun h9 => absurd h9 (by decide)) (fun _ => ?_)
    refine lv_iload_n hx hb dX3_shrinks_12 rfl (lv_at hl 2 rfl) ?_
    refine lv_sipush (v := (-5000)) hx hb dX3_shrinks_13 (by decide) ?_
    refine lv_sipush (v := 5000) hx hb dX3_shrinks_16 (by decide) ?_
    refine rd_i (va_runS (As := [.int b, .int (-5000), .int 5000]) (rest := []) ⟨hx, hb, hml, hown, hts⟩ (c_X3_within l dC dI cA H b (-5000) 5000 (-5000) 5000 (by decide) (by decide)) (va_cwS 3 hts gX3_shrinks_X3_within rfl rfl rfl (by decide +kernel) ⟨Nat.le_of_ble_eq_true rfl, Nat.le_of_ble_eq_true rfl⟩) ⟨rd_bl, rd_pre hK hN⟩ rfl rfl hl.1 rfl (lv_room (Nat.le_of_ble_eq_true rfl)) dX3_shrinks_19 ⟨Nat.zero_le _, Nat.zero_le _⟩) hS (fun r3 locs hq4 hS => ?_)
    rcases hq4 with ⟨hq4, rfl⟩ | ⟨hq4, rfl⟩
    · have q2 : rg b (-5000) 5000 := hq4
      refine lv_if_ne (tgt := 27) hx hb dX3_shrinks_22 (by decide) (fun _ => ?_) (fun h9 => absurd h9 (by decide))
      refine lv_aload_n hx hb dX3_shrinks_27 rfl (lv_at hl 0 rfl) ?_
      refine va_get (D := (dC, dI)) (ci := 4) (v := .ref (Z 10)) (C := RX3) (T := TX3) (N := 19) hx hb hts miX3_shrinks_X3 hown hK hP 0 rfl rfl 11 (by decide) (hts (.fieldLink RX3 37 "SectionFibresModel" "shrunk" "[I") mbX3_shrinks_2) (fun _ h9 => h9) rfl dX3_shrinks_28 ?_
      refine lv_iload_n hx hb dX3_shrinks_31 rfl (lv_at hl 1 rfl) ?_
      refine lv_iload_n hx hb dX3_shrinks_32 rfl (lv_at hl 2 rfl) ?_
      refine iasn hx hb hK hP hD hS 10 0 rfl rfl a.toNatClampNeg (rg_nI q1) (by have h9 := rg_lt q1; omega) (by decide) dX3_shrinks_33 (fun H locs hP hD hS => ?_)
      have hP : va_P (dC, dI) vwCl (wR cA Z (setG g 9 a.toNatClampNeg b) n 0 hs pe pk fo mo fE fK) H := hP
      have hD : va_D Av (wR cA Z (setG g 9 a.toNatClampNeg b) n 0 hs pe pk fo mo fE fK) := hD
      refine lv_aload_n hx hb dX3_shrinks_34 rfl (lv_at hl 0 rfl) ?_
      refine lv_iconst (v := 0) hx hb dX3_shrinks_35 (by decide) ?_
      refine va_put (D := (dC, dI)) (ci := 4) (v := .int 0) (ty := .boolean) (C := RX3) (T := TX3) (N := 19) hx hb hts miX3_shrinks_X3 tyX3 tyX3_ok nmX3 hown hK hP hD hS 0 rfl rfl 12 (by decide) (hts (.fieldLink RX3 60 "SectionFibresModel" "has" "Z") mbX3_shrinks_3) (fun _ h9 => h9) rfl (by decide +kernel) rfl rfl (Nat.le_of_ble_eq_true rfl) dX3_shrinks_36 (fun H locs hP hD hS => ?_)
      have hP : va_P (dC, dI) vwCl (wR cA Z (setG g 9 a.toNatClampNeg b) n 0 0 pe pk fo mo fE fK) H := hP
      have hD : va_D Av (wR cA Z (setG g 9 a.toNatClampNeg b) n 0 0 pe pk fo mo fE fK) := hD
      refine lv_iconst (v := 1) hx hb dX3_shrinks_39 (by decide) ?_
      exact W.zret (ty := .boolean) (v := 1) hx hb hr (by decide) (fun t9 ht9 hW9 => ⟨⟨_, (((setG g 9 a.toNatClampNeg b), n, 0, pe, pk, fo, mo), 0, fE, fK), rfl, (⟨(shr_t ⟨q1, q2⟩).symm, rfl⟩), by dsimp only; rw [ht9]; exact hP⟩, hS.F ht9⟩) hS.2.2 dX3_shrinks_40
    · have q2 : ¬ (rg b (-5000) 5000) := hq4
      refine lv_if_ne (tgt := 27) hx hb dX3_shrinks_22 (by decide) (fun h9 => absurd h9 (by decide)) (fun _ => ?_)
      refine lv_iconst (v := 0) hx hb dX3_shrinks_25 (by decide) ?_
      exact W.zret (ty := .boolean) (v := 0) hx hb hr (by decide) (fun t9 ht9 hW9 => ⟨⟨_, ((g, n, hs, pe, pk, fo, mo), 0, fE, fK), rfl, (⟨(shr_f (fun h9 => q2 h9.2)).symm, rfl⟩), by dsimp only; rw [ht9]; exact hP⟩, hS.F ht9⟩) hS.2.2 dX3_shrinks_26
  · have q1 : ¬ (rg a 0 3) := hq2
    refine lv_if_eq (tgt := 25) hx hb dX3_shrinks_9 (by decide) (fun _ => ?_) (fun h9 => absurd h9 (by decide))
    refine lv_iconst (v := 0) hx hb dX3_shrinks_25 (by decide) ?_
    exact W.zret (ty := .boolean) (v := 0) hx hb hr (by decide) (fun t9 ht9 hW9 => ⟨⟨_, ((g, n, hs, pe, pk, fo, mo), 0, fE, fK), rfl, (⟨(shr_f (fun h9 => q1 h9.1)).symm, rfl⟩), by dsimp only; rw [ht9]; exact hP⟩, hS.F ht9⟩) hS.2.2 dX3_shrinks_26

set_option maxRecDepth 20000 in
theorem miX3_row_X3 : ∀ w ∈ u_ws RX3 TX3 19, w ∈ wsX3_row := by decide +kernel
set_option maxRecDepth 20000 in
theorem mbX3_row_1 : (.fieldLink RX3 40 "SectionFibresModel" "thrown" "I" : Cond) ∈ wsX3_row := by decide +kernel
set_option maxHeartbeats 4000000 in
set_option maxRecDepth 100000 in
theorem c_X3_row (l : Launch) (dC : Nat → ClassId) (dI : Nat → Nat → Nat) (cA : ClassId) (H : Heap) (Z : Nat → Nat) (g : Gg) (n : Nat) (th hs pe pk : Int32) (fo mo : Int64) (fE fK : Int32) (hP : va_P (dC, dI) vwCl (wR cA Z g n th hs pe pk fo mo fE fK) H) (hD : va_D (fun _ => True) (wR cA Z g n th hs pe pk fo mo fE fK)) (hg : InvG g) (a b : Int32) : Met l yX3_row wsX3_row ({ frames := 1, cells := 0, slots := 0, locals := 27 }) (rd_P [.ref (Z 0), .int a, .int b] H (dC, dI) vwCl [(cA, .int)]) (va_Qi (fun (r : Int32) (u : Su) => u.1 = (g, n, hs, pe, pk, fo, mo) ∧ ((rg a 0 3 ∧ u.2.1 = 0 ∧ r = rwF g a b) ∨ (¬ rg a 0 3 ∧ u.2.1 = 1))) (fun u t => bR dC dI cA Z u t.heap) (va_A (wR cA Z g n th hs pe pk fo mo fE fK) H.size)) 0 0 (va_A (wR cA Z g n th hs pe pk fo mo fE fK) H.size) := by
  refine Met.ofW (cc := cX3_row) (maxL := 3) (ret := (some .int)) (by decide) rfl ?_
  intro p e s m args below meth c s₁ B hml hv
  obtain ⟨rfl, hH, hK, hN⟩ := hv
  subst hH
  have hx := B.exec
  have hb := B.bytes
  have hr := B.returns
  have hts := atoms_spec (ws := wsX3_row) B.pre
  have hown : s.vm.findClass RX3 = some m.cls := findClass_of_methodNamed B.named
  have hlocks := B.notSynchronized
  have hD := hD.self (sz := s.heap.size)
  generalize hAe : va_A (wR cA Z g n th hs pe pk fo mo fE fK) s.heap.size = Av at hD ⊢
  have hA : ∀ q : Nat, s.heap.size ≤ q → Av q := fun q h => by rw [← hAe]; exact Or.inr h
  have hS : va_S Av s.heap s.heap [] := va_S.rf
  have hl := lv_entry ([.ref (Z 0), .int a, .int b]) (n := 3) (Nat.le_of_ble_eq_true rfl)
  rw [lg_entry_eq]
  generalize (lg_sl ([.ref (Z 0), .int a, .int b]) ++ List.replicate (3 - (lg_sl ([.ref (Z 0), .int a, .int b])).length) Slot.unset).toArray = ls at hl ⊢
  have hl : lv_has ls 3 [(0, .ref (Z 0)), (1, .int a), (2, .int b)] := hl
  refine lv_aload_n hx hb dX3_row_0 rfl (lv_at hl 0 rfl) ?_
  refine lv_iload_n hx hb dX3_row_1 rfl (lv_at hl 1 rfl) ?_
  refine rd_i (va_runS (As := [.int a]) (rest := [.ref (Z 0)]) ⟨hx, hb, hml, hown, hts⟩ (c_X3_isKind l dC dI cA s.heap a) (va_cwS 1 hts gX3_row_X3_isKind rfl rfl rfl (by decide +kernel) ⟨Nat.le_of_ble_eq_true rfl, Nat.le_of_ble_eq_true rfl⟩) ⟨rd_bl, rd_pre hK hN⟩ rfl rfl hl.1 rfl (lv_room (Nat.le_of_ble_eq_true rfl)) dX3_row_2 ⟨Nat.zero_le _, Nat.zero_le _⟩) hS (fun r1 locs hq2 hS => ?_)
  rcases hq2 with ⟨hq2, rfl⟩ | ⟨hq2, rfl⟩
  · have q1 : rg a 0 3 := hq2
    refine lv_if_eq (tgt := 12) hx hb dX3_row_5 (by decide) (fun h9 => absurd h9 (by decide)) (fun _ => ?_)
    refine lv_iconst (v := 0) hx hb dX3_row_8 (by decide) ?_
    refine lv_goto (tgt := 13) hx hb dX3_row_9 (by decide) ?_
    refine va_put (D := (dC, dI)) (ci := 4) (v := .int 0) (ty := .int) (C := RX3) (T := TX3) (N := 19) hx hb hts miX3_row_X3 tyX3 tyX3_ok nmX3 hown hK hP hD hS 0 rfl rfl 0 (by decide) (hts (.fieldLink RX3 40 "SectionFibresModel" "thrown" "I") mbX3_row_1) (fun _ h9 => h9) rfl (by decide +kernel) rfl rfl (Nat.le_of_ble_eq_true rfl) dX3_row_13 (fun H locs hP hD hS => ?_)
    have hP : va_P (dC, dI) vwCl (wR cA Z g n 0 hs pe pk fo mo fE fK) H := hP
    have hD : va_D Av (wR cA Z g n 0 hs pe pk fo mo fE fK) := hD
    refine lv_aload_n hx hb dX3_row_16 rfl (lv_at hl 0 rfl) ?_
    refine va_get (D := (dC, dI)) (ci := 4) (v := .int 0) (C := RX3) (T := TX3) (N := 19) hx hb hts miX3_row_X3 hown hK hP 0 rfl rfl 0 (by decide) (hts (.fieldLink RX3 40 "SectionFibresModel" "thrown" "I") mbX3_row_1) (fun _ h9 => h9) rfl dX3_row_17 ?_
    refine lv_if_le (tgt := 27) hx hb dX3_row_20 (by decide) (fun _ => ?_) (fun h9 => absurd h9 (by decide))
    refine lv_aload_n hx hb dX3_row_27 rfl (lv_at hl 0 rfl) ?_
    refine lv_iload_n hx hb dX3_row_28 rfl (lv_at hl 1 rfl) ?_
    refine lv_iload_n hx hb dX3_row_29 rfl (lv_at hl 2 rfl) ?_
    refine rd_i (va_runV (As := [.int a, .int b]) (rest := []) ⟨hx, hb, hml, hown, hts⟩ (c_X3_stressAt l dC dI cA H Z g n 0 hs pe pk fo mo fE fK hP hg a b (rg_in q1)) (cwV 2 hts gX3_row_X3_stressAt rfl rfl rfl (by decide +kernel) ⟨Nat.le_of_ble_eq_true rfl, Nat.le_of_ble_eq_true rfl⟩) ⟨rd_bl, va_recv hK hP (ci := 4) (q0 := 0) rfl rfl, rd_pre hK hN⟩ rfl rfl hl.1 rfl (lv_room (Nat.le_of_ble_eq_true rfl)) dX3_row_30 ⟨Nat.zero_le _, Nat.zero_le _⟩) hS (fun r3 locs hq4 hS => ?_)
    have hq4 : r3 = rwF g a b := hq4
    subst hq4
    exact W.iret (v := (rwF g a b)) hx hb hr (fun t9 ht9 hW9 => ⟨⟨_, ((g, n, hs, pe, pk, fo, mo), 0, fE, fK), rfl, (⟨rfl, Or.inl ⟨q1, rfl, rfl⟩⟩), by dsimp only; rw [ht9]; exact hP⟩, hS.F ht9⟩) hS.2.2 dX3_row_33
  · have q1 : ¬ (rg a 0 3) := hq2
    refine lv_if_eq (tgt := 12) hx hb dX3_row_5 (by decide) (fun _ => ?_) (fun h9 => absurd h9 (by decide))
    refine lv_iconst (v := 1) hx hb dX3_row_12 (by decide) ?_
    refine va_put (D := (dC, dI)) (ci := 4) (v := .int 1) (ty := .int) (C := RX3) (T := TX3) (N := 19) hx hb hts miX3_row_X3 tyX3 tyX3_ok nmX3 hown hK hP hD hS 0 rfl rfl 0 (by decide) (hts (.fieldLink RX3 40 "SectionFibresModel" "thrown" "I") mbX3_row_1) (fun _ h9 => h9) rfl (by decide +kernel) rfl rfl (Nat.le_of_ble_eq_true rfl) dX3_row_13 (fun H locs hP hD hS => ?_)
    have hP : va_P (dC, dI) vwCl (wR cA Z g n 1 hs pe pk fo mo fE fK) H := hP
    have hD : va_D Av (wR cA Z g n 1 hs pe pk fo mo fE fK) := hD
    refine lv_aload_n hx hb dX3_row_16 rfl (lv_at hl 0 rfl) ?_
    refine va_get (D := (dC, dI)) (ci := 4) (v := .int 1) (C := RX3) (T := TX3) (N := 19) hx hb hts miX3_row_X3 hown hK hP 0 rfl rfl 0 (by decide) (hts (.fieldLink RX3 40 "SectionFibresModel" "thrown" "I") mbX3_row_1) (fun _ h9 => h9) rfl dX3_row_17 ?_
    refine lv_if_le (tgt := 27) hx hb dX3_row_20 (by decide) (fun h9 => absurd h9 (by decide)) (fun _ => ?_)
    refine lv_iconst (v := 0) hx hb dX3_row_23 (by decide) ?_
    refine lv_goto (tgt := 33) hx hb dX3_row_24 (by decide) ?_
    exact W.iret (v := 0) hx hb hr (fun t9 ht9 hW9 => ⟨⟨_, ((g, n, hs, pe, pk, fo, mo), 1, fE, fK), rfl, (⟨rfl, Or.inr ⟨q1, rfl⟩⟩), by dsimp only; rw [ht9]; exact hP⟩, hS.F ht9⟩) hS.2.2 dX3_row_33

set_option maxRecDepth 20000 in
theorem miX3_of_X3 : ∀ w ∈ u_ws RX3 TX3 19, w ∈ wsX3_of := by decide +kernel
set_option maxRecDepth 20000 in
theorem mbX3_of_1 : (.fieldLink RX3 40 "SectionFibresModel" "thrown" "I" : Cond) ∈ wsX3_of := by decide +kernel
set_option maxRecDepth 20000 in
theorem mbX3_of_2 : (.constantLong RX3 89 (-4611686018427387904) : Cond) ∈ wsX3_of := by decide +kernel
set_option maxHeartbeats 4000000 in
set_option maxRecDepth 100000 in
theorem c_X3_of (l : Launch) (dC : Nat → ClassId) (dI : Nat → Nat → Nat) (cA : ClassId) (H : Heap) (Z : Nat → Nat) (g : Gg) (n : Nat) (th hs pe pk : Int32) (fo mo : Int64) (fE fK : Int32) (hP : va_P (dC, dI) vwCl (wR cA Z g n th hs pe pk fo mo fE fK) H) (hD : va_D (fun _ => True) (wR cA Z g n th hs pe pk fo mo fE fK)) (hg : InvG g) (hn : n ≤ 41) (ee kb wh : Int32) : Met l yX3_of wsX3_of ({ frames := 3, cells := 0, slots := 0, locals := 76 }) (rd_P [.ref (Z 0), .int ee, .int kb, .int wh] H (dC, dI) vwCl [(cA, .int)]) (va_Ql (fun (r : Int64) (u : Su) => r = ofF g n ee kb wh ∧ u.1 = (g, n, hs, pe, pk, fo, mo) ∧ u.2.1 = 0) (fun u t => bR dC dI cA Z u t.heap) (va_A (wR cA Z g n th hs pe pk fo mo fE fK) H.size)) 0 0 (va_A (wR cA Z g n th hs pe pk fo mo fE fK) H.size) := by
  refine Met.ofW (cc := cX3_of) (maxL := 5) (ret := (some .long)) (by decide) rfl ?_
  intro p e s m args below meth c s₁ B hml hv
  obtain ⟨rfl, hH, hK, hN⟩ := hv
  subst hH
  have hx := B.exec
  have hb := B.bytes
  have hr := B.returns
  have hts := atoms_spec (ws := wsX3_of) B.pre
  have hown : s.vm.findClass RX3 = some m.cls := findClass_of_methodNamed B.named
  have hlocks := B.notSynchronized
  have hD := hD.self (sz := s.heap.size)
  generalize hAe : va_A (wR cA Z g n th hs pe pk fo mo fE fK) s.heap.size = Av at hD ⊢
  have hA : ∀ q : Nat, s.heap.size ≤ q → Av q := fun q h => by rw [← hAe]; exact Or.inr h
  have hS : va_S Av s.heap s.heap [] := va_S.rf
  have hl := lv_entry ([.ref (Z 0), .int ee, .int kb, .int wh]) (n := 5) (Nat.le_of_ble_eq_true rfl)
  rw [lg_entry_eq]
  generalize (lg_sl ([.ref (Z 0), .int ee, .int kb, .int wh]) ++ List.replicate (5 - (lg_sl ([.ref (Z 0), .int ee, .int kb, .int wh])).length) Slot.unset).toArray = ls at hl ⊢
  have hl : lv_has ls 5 [(0, .ref (Z 0)), (1, .int ee), (2, .int kb), (3, .int wh)] := hl
  refine lv_aload_n hx hb dX3_of_0 rfl (lv_at hl 0 rfl) ?_
  refine lv_iconst (v := 0) hx hb dX3_of_1 (by decide) ?_
  refine va_put (D := (dC, dI)) (ci := 4) (v := .int 0) (ty := .int) (C := RX3) (T := TX3) (N := 19) hx hb hts miX3_of_X3 tyX3 tyX3_ok nmX3 hown hK hP hD hS 0 rfl rfl 0 (by decide) (hts (.fieldLink RX3 40 "SectionFibresModel" "thrown" "I") mbX3_of_1) (fun _ h9 => h9) rfl (by decide +kernel) rfl rfl (Nat.le_of_ble_eq_true rfl) dX3_of_2 (fun H locs hP hD hS => ?_)
  have hP : va_P (dC, dI) vwCl (wR cA Z g n 0 hs pe pk fo mo fE fK) H := hP
  have hD : va_D Av (wR cA Z g n 0 hs pe pk fo mo fE fK) := hD
  refine lv_iload_n hx hb dX3_of_5 rfl (lv_at hl 1 rfl) ?_
  refine lv_sipush (v := (-20000)) hx hb dX3_of_6 (by decide) ?_
  refine lv_sipush (v := 20000) hx hb dX3_of_9 (by decide) ?_
  refine rd_i (va_runS (As := [.int ee, .int (-20000), .int 20000]) (rest := []) ⟨hx, hb, hml, hown, hts⟩ (c_X3_within l dC dI cA H ee (-20000) 20000 (-20000) 20000 (by decide) (by decide)) (va_cwS 3 hts gX3_of_X3_within rfl rfl rfl (by decide +kernel) ⟨Nat.le_of_ble_eq_true rfl, Nat.le_of_ble_eq_true rfl⟩) ⟨rd_bl, rd_pre hK hN⟩ rfl rfl hl.1 rfl (lv_room (Nat.le_of_ble_eq_true rfl)) dX3_of_12 ⟨Nat.zero_le _, Nat.zero_le _⟩) hS (fun r1 locs hq2 hS => ?_)
  rcases hq2 with ⟨hq2, rfl⟩ | ⟨hq2, rfl⟩
  · have q1 : rg ee (-20000) 20000 := hq2
    refine lv_if_eq (tgt := 44) hx hb dX3_of_15 (by decide) (fun h9 => absurd h9 (by decide)) (fun _ => ?_)
    refine lv_iload_n hx hb dX3_of_18 rfl (lv_at hl 2 rfl) ?_
    refine lv_sipush (v := (-20000)) hx hb dX3_of_19 (by decide) ?_
    refine lv_sipush (v := 20000) hx hb dX3_of_22 (by decide) ?_
    refine rd_i (va_runS (As := [.int kb, .int (-20000), .int 20000]) (rest := []) ⟨hx, hb, hml, hown, hts⟩ (c_X3_within l dC dI cA H kb (-20000) 20000 (-20000) 20000 (by decide) (by decide)) (va_cwS 3 hts gX3_of_X3_within rfl rfl rfl (by decide +kernel) ⟨Nat.le_of_ble_eq_true rfl, Nat.le_of_ble_eq_true rfl⟩) ⟨rd_bl, rd_pre hK hN⟩ rfl rfl hl.1 rfl (lv_room (Nat.le_of_ble_eq_true rfl)) dX3_of_25 ⟨Nat.zero_le _, Nat.zero_le _⟩) hS (fun r3 locs hq4 hS => ?_)
    rcases hq4 with ⟨hq4, rfl⟩ | ⟨hq4, rfl⟩
    · have q2 : rg kb (-20000) 20000 := hq4
      refine lv_if_eq (tgt := 44) hx hb dX3_of_28 (by decide) (fun h9 => absurd h9 (by decide)) (fun _ => ?_)
      refine lv_iload_n hx hb dX3_of_31 rfl (lv_at hl 3 rfl) ?_
      refine lv_iconst (v := 0) hx hb dX3_of_32 (by decide) ?_
      refine lv_iconst (v := 1) hx hb dX3_of_33 (by decide) ?_
      refine rd_i (va_runS (As := [.int wh, .int 0, .int 1]) (rest := []) ⟨hx, hb, hml, hown, hts⟩ (c_X3_within l dC dI cA H wh 0 1 0 1 (by decide) (by decide)) (va_cwS 3 hts gX3_of_X3_within rfl rfl rfl (by decide +kernel) ⟨Nat.le_of_ble_eq_true rfl, Nat.le_of_ble_eq_true rfl⟩) ⟨rd_bl, rd_pre hK hN⟩ rfl rfl hl.1 rfl (lv_room (Nat.le_of_ble_eq_true rfl)) dX3_of_34 ⟨Nat.zero_le _, Nat.zero_le _⟩) hS (fun r5 locs hq6 hS => ?_)
      rcases hq6 with ⟨hq6, rfl⟩ | ⟨hq6, rfl⟩
      · have q3 : rg wh 0 1 := hq6
        refine lv_if_eq (tgt := 44) hx hb dX3_of_37 (by decide) (fun h9 => absurd h9 (by decide)) (fun _ => ?_)
        refine lv_iconst (v := 1) hx hb dX3_of_40 (by decide) ?_
        refine lv_goto (tgt := 45) hx hb dX3_of_41 (by decide) ?_
        refine lv_istore (lv' := [(4, .int 1), (0, .ref (Z 0)), (1, .int ee), (2, .int kb), (3, .int wh)]) hx hb dX3_of_45 hl (by decide) rfl (fun ls hl => ?_)
        refine lv_iload hx hb dX3_of_47 (lv_at hl 0 rfl) ?_
        refine lv_if_eq (tgt := 71) hx hb dX3_of_49 (by decide) (fun h9 => absurd h9 (by decide)) (fun _ => ?_)
        refine lv_aload_n hx hb dX3_of_52 rfl (lv_at hl 1 rfl) ?_
        refine lv_iload_n hx hb dX3_of_53 rfl (lv_at hl 2 rfl) ?_
        refine lv_iload_n hx hb dX3_of_54 rfl (lv_at hl 3 rfl) ?_
        refine lv_iload_n hx hb dX3_of_55 rfl (lv_at hl 4 rfl) ?_
        refine lv_iconst (v := 1) hx hb dX3_of_56 (by decide) ?_
        refine lv_icmp_ne (tgt := 64) hx hb dX3_of_57 (by decide) (fun c1 => ?_) (fun c1 => ?_)
        · refine lv_iconst (v := 0) hx hb dX3_of_64 (by decide) ?_
          refine rd_l (va_runV (As := [.int ee, .int kb, .int 0]) (rest := []) ⟨hx, hb, hml, hown, hts⟩ (c_X3_sum l dC dI cA H Z g n 0 hs pe pk fo mo fE fK hP hg hn ee kb q1 q2 false 0 (by decide)) (cwV 3 hts gX3_of_X3_sum rfl rfl rfl (by decide +kernel) ⟨Nat.le_of_ble_eq_true rfl, Nat.le_of_ble_eq_true rfl⟩) ⟨rd_bl, va_recv hK hP (ci := 4) (q0 := 0) rfl rfl, rd_pre hK hN⟩ rfl rfl hl.1 rfl (lv_room (Nat.le_of_ble_eq_true rfl)) dX3_of_65 ⟨Nat.zero_le _, Nat.zero_le _⟩) hS (fun r7 locs hq8 hS => ?_)
          have hq8 : r7 = smF g false ee kb n := hq8
          subst hq8
          refine lv_goto (tgt := 74) hx hb dX3_of_68 (by decide) ?_
          exact W.lret (v := (smF g false ee kb n)) hx hb hr (fun t9 ht9 hW9 => ⟨⟨_, ((g, n, hs, pe, pk, fo, mo), 0, fE, fK), rfl, (⟨by unfold ofF; rw [if_pos ⟨q1, q2, rg01.mp q3⟩, decide_eq_false c1], rfl, rfl⟩), by dsimp only; rw [ht9]; exact hP⟩, hS.F ht9⟩) hS.2.2 dX3_of_74
        · refine lv_iconst (v := 1) hx hb dX3_of_60 (by decide) ?_
          refine lv_goto (tgt := 65) hx hb dX3_of_61 (by decide) ?_
          refine rd_l (va_runV (As := [.int ee, .int kb, .int 1]) (rest := []) ⟨hx, hb, hml, hown, hts⟩ (c_X3_sum l dC dI cA H Z g n 0 hs pe pk fo mo fE fK hP hg hn ee kb q1 q2 true 1 (by decide)) (cwV 3 hts gX3_of_X3_sum rfl rfl rfl (by decide +kernel) ⟨Nat.le_of_ble_eq_true rfl, Nat.le_of_ble_eq_true rfl⟩) ⟨rd_bl, va_recv hK hP (ci := 4) (q0 := 0) rfl rfl, rd_pre hK hN⟩ rfl rfl hl.1 rfl (lv_room (Nat.le_of_ble_eq_true rfl)) dX3_of_65 ⟨Nat.zero_le _, Nat.zero_le _⟩) hS (fun r9 locs hq10 hS => ?_)
          have hq10 : r9 = smF g true ee kb n := hq10
          subst hq10
          refine lv_goto (tgt := 74) hx hb dX3_of_68 (by decide) ?_
          exact W.lret (v := (smF g true ee kb n)) hx hb hr (fun t9 ht9 hW9 => ⟨⟨_, ((g, n, hs, pe, pk, fo, mo), 0, fE, fK), rfl, (⟨by unfold ofF; rw [if_pos ⟨q1, q2, rg01.mp q3⟩, decide_eq_true c1], rfl, rfl⟩), by dsimp only; rw [ht9]; exact hP⟩, hS.F ht9⟩) hS.2.2 dX3_of_74
      · have q3 : ¬ (rg wh 0 1) := hq6
        refine lv_if_eq (tgt := 44) hx hb dX3_of_37 (by decide) (fun _ => ?_) (fun h9 => absurd h9 (by decide))
        refine lv_iconst (v := 0) hx hb dX3_of_44 (by decide) ?_
        refine lv_istore (lv' := [(4, .int 0), (0, .ref (Z 0)), (1, .int ee), (2, .int kb), (3, .int wh)]) hx hb dX3_of_45 hl (by decide) rfl (fun ls hl => ?_)
        refine lv_iload hx hb dX3_of_47 (lv_at hl 0 rfl) ?_
        refine lv_if_eq (tgt := 71) hx hb dX3_of_49 (by decide) (fun _ => ?_) (fun h9 => absurd h9 (by decide))
        refine lv_ldc2 hx hb hown (hts (.constantLong RX3 89 (-4611686018427387904)) mbX3_of_2) dX3_of_71 ?_
        exact W.lret (v := (-4611686018427387904)) hx hb hr (fun t9 ht9 hW9 => ⟨⟨_, ((g, n, hs, pe, pk, fo, mo), 0, fE, fK), rfl, (⟨by unfold ofF; rw [if_neg (fun h9 => q3 (rg01.mpr h9.2.2))], rfl, rfl⟩), by dsimp only; rw [ht9]; exact hP⟩, hS.F ht9⟩) hS.2.2 dX3_of_74
    · have q2 : ¬ (rg kb (-20000) 20000) := hq4
      refine lv_if_eq (tgt := 44) hx hb dX3_of_28 (by decide) (fun _ => ?_) (fun h9 => absurd h9 (by decide))
      refine lv_iconst (v := 0) hx hb dX3_of_44 (by decide) ?_
      refine lv_istore (lv' := [(4, .int 0), (0, .ref (Z 0)), (1, .int ee), (2, .int kb), (3, .int wh)]) hx hb dX3_of_45 hl (by decide) rfl (fun ls hl => ?_)
      refine lv_iload hx hb dX3_of_47 (lv_at hl 0 rfl) ?_
      refine lv_if_eq (tgt := 71) hx hb dX3_of_49 (by decide) (fun _ => ?_) (fun h9 => absurd h9 (by decide))
      refine lv_ldc2 hx hb hown (hts (.constantLong RX3 89 (-4611686018427387904)) mbX3_of_2) dX3_of_71 ?_
      exact W.lret (v := (-4611686018427387904)) hx hb hr (fun t9 ht9 hW9 => ⟨⟨_, ((g, n, hs, pe, pk, fo, mo), 0, fE, fK), rfl, (⟨by unfold ofF; rw [if_neg (fun h9 => q2 h9.2.1)], rfl, rfl⟩), by dsimp only; rw [ht9]; exact hP⟩, hS.F ht9⟩) hS.2.2 dX3_of_74
  · have q1 : ¬ (rg ee (-20000) 20000) := hq2
    refine lv_if_eq (tgt := 44) hx hb dX3_of_15 (by decide) (fun _ => ?_) (fun h9 => absurd h9 (by decide))
    refine lv_iconst (v := 0) hx hb dX3_of_44 (by decide) ?_
    refine lv_istore (lv' := [(4, .int 0), (0, .ref (Z 0)), (1, .int ee), (2, .int kb), (3, .int wh)]) hx hb dX3_of_45 hl (by decide) rfl (fun ls hl => ?_)
    refine lv_iload hx hb dX3_of_47 (lv_at hl 0 rfl) ?_
    refine lv_if_eq (tgt := 71) hx hb dX3_of_49 (by decide) (fun _ => ?_) (fun h9 => absurd h9 (by decide))
    refine lv_ldc2 hx hb hown (hts (.constantLong RX3 89 (-4611686018427387904)) mbX3_of_2) dX3_of_71 ?_
    exact W.lret (v := (-4611686018427387904)) hx hb hr (fun t9 ht9 hW9 => ⟨⟨_, ((g, n, hs, pe, pk, fo, mo), 0, fE, fK), rfl, (⟨by unfold ofF; rw [if_neg (fun h9 => q1 h9.1)], rfl, rfl⟩), by dsimp only; rw [ht9]; exact hP⟩, hS.F ht9⟩) hS.2.2 dX3_of_74

set_option maxRecDepth 20000 in
theorem miX3_balance_X3 : ∀ w ∈ u_ws RX3 TX3 19, w ∈ wsX3_balance := by decide +kernel
set_option maxRecDepth 20000 in
theorem mbX3_balance_1 : (.fieldLink RX3 40 "SectionFibresModel" "thrown" "I" : Cond) ∈ wsX3_balance := by decide +kernel
set_option maxRecDepth 20000 in
theorem mbX3_balance_2 : (.constant RX3 64 (-1000000) : Cond) ∈ wsX3_balance := by decide +kernel
set_option maxHeartbeats 4000000 in
set_option maxRecDepth 100000 in
theorem c_X3_balance (l : Launch) (dC : Nat → ClassId) (dI : Nat → Nat → Nat) (cA : ClassId) (H : Heap) (Z : Nat → Nat) (g : Gg) (n : Nat) (th hs pe pk : Int32) (fo mo : Int64) (fE fK : Int32) (hP : va_P (dC, dI) vwCl (wR cA Z g n th hs pe pk fo mo fE fK) H) (hD : va_D (fun _ => True) (wR cA Z g n th hs pe pk fo mo fE fK)) (hg : InvG g) (hn : n ≤ 41) (fr : Int64) (kb : Int32) : Met l yX3_balance wsX3_balance ({ frames := 4, cells := 0, slots := 0, locals := 102 }) (rd_P [.ref (Z 0), .long fr, .int kb] H (dC, dI) vwCl [(cA, .int)]) (va_Qi (fun (r : Int32) (u : Su) => r = balF g n fr kb ∧ u.1 = (g, n, hs, pe, pk, fo, mo) ∧ u.2.1 = 0) (fun u t => bR dC dI cA Z u t.heap) (va_A (wR cA Z g n th hs pe pk fo mo fE fK) H.size)) 0 0 (va_A (wR cA Z g n th hs pe pk fo mo fE fK) H.size) := by
  refine Met.ofW (cc := cX3_balance) (maxL := 4) (ret := (some .int)) (by decide) rfl ?_
  intro p e s m args below meth c s₁ B hml hv
  obtain ⟨rfl, hH, hK, hN⟩ := hv
  subst hH
  have hx := B.exec
  have hb := B.bytes
  have hr := B.returns
  have hts := atoms_spec (ws := wsX3_balance) B.pre
  have hown : s.vm.findClass RX3 = some m.cls := findClass_of_methodNamed B.named
  have hlocks := B.notSynchronized
  have hD := hD.self (sz := s.heap.size)
  generalize hAe : va_A (wR cA Z g n th hs pe pk fo mo fE fK) s.heap.size = Av at hD ⊢
  have hA : ∀ q : Nat, s.heap.size ≤ q → Av q := fun q h => by rw [← hAe]; exact Or.inr h
  have hS : va_S Av s.heap s.heap [] := va_S.rf
  have hl := lv_entry ([.ref (Z 0), .long fr, .int kb]) (n := 4) (Nat.le_of_ble_eq_true rfl)
  rw [lg_entry_eq]
  generalize (lg_sl ([.ref (Z 0), .long fr, .int kb]) ++ List.replicate (4 - (lg_sl ([.ref (Z 0), .long fr, .int kb])).length) Slot.unset).toArray = ls at hl ⊢
  have hl : lv_has ls 4 [(0, .ref (Z 0)), (1, .long fr), (3, .int kb)] := hl
  refine lv_aload_n hx hb dX3_balance_0 rfl (lv_at hl 0 rfl) ?_
  refine lv_iconst (v := 0) hx hb dX3_balance_1 (by decide) ?_
  refine va_put (D := (dC, dI)) (ci := 4) (v := .int 0) (ty := .int) (C := RX3) (T := TX3) (N := 19) hx hb hts miX3_balance_X3 tyX3 tyX3_ok nmX3 hown hK hP hD hS 0 rfl rfl 0 (by decide) (hts (.fieldLink RX3 40 "SectionFibresModel" "thrown" "I") mbX3_balance_1) (fun _ h9 => h9) rfl (by decide +kernel) rfl rfl (Nat.le_of_ble_eq_true rfl) dX3_balance_2 (fun H locs hP hD hS => ?_)
  have hP : va_P (dC, dI) vwCl (wR cA Z g n 0 hs pe pk fo mo fE fK) H := hP
  have hD : va_D Av (wR cA Z g n 0 hs pe pk fo mo fE fK) := hD
  refine lv_iload_n hx hb dX3_balance_5 rfl (lv_at hl 2 rfl) ?_
  refine lv_sipush (v := (-20000)) hx hb dX3_balance_6 (by decide) ?_
  refine lv_sipush (v := 20000) hx hb dX3_balance_9 (by decide) ?_
  refine rd_i (va_runS (As := [.int kb, .int (-20000), .int 20000]) (rest := []) ⟨hx, hb, hml, hown, hts⟩ (c_X3_within l dC dI cA H kb (-20000) 20000 (-20000) 20000 (by decide) (by decide)) (va_cwS 3 hts gX3_balance_X3_within rfl rfl rfl (by decide +kernel) ⟨Nat.le_of_ble_eq_true rfl, Nat.le_of_ble_eq_true rfl⟩) ⟨rd_bl, rd_pre hK hN⟩ rfl rfl hl.1 rfl (lv_room (Nat.le_of_ble_eq_true rfl)) dX3_balance_12 ⟨Nat.zero_le _, Nat.zero_le _⟩) hS (fun r1 locs hq2 hS => ?_)
  rcases hq2 with ⟨hq2, rfl⟩ | ⟨hq2, rfl⟩
  · have q1 : rg kb (-20000) 20000 := hq2
    refine lv_if_eq (tgt := 27) hx hb dX3_balance_15 (by decide) (fun h9 => absurd h9 (by decide)) (fun _ => ?_)
    refine lv_aload_n hx hb dX3_balance_18 rfl (lv_at hl 0 rfl) ?_
    refine lv_lload_n hx hb dX3_balance_19 rfl (lv_at hl 1 rfl) ?_
    refine lv_iload_n hx hb dX3_balance_20 rfl (lv_at hl 2 rfl) ?_
    refine rd_i (va_runV (As := [.long fr, .int kb]) (rest := []) ⟨hx, hb, hml, hown, hts⟩ (c_X3_balanceOf l dC dI cA H Z g n 0 hs pe pk fo mo fE fK hP hg hn fr kb q1) (cwV 2 hts gX3_balance_X3_balanceOf rfl rfl rfl (by decide +kernel) ⟨Nat.le_of_ble_eq_true rfl, Nat.le_of_ble_eq_true rfl⟩) ⟨rd_bl, va_recv hK hP (ci := 4) (q0 := 0) rfl rfl, rd_pre hK hN⟩ rfl rfl hl.1 rfl (lv_room (Nat.le_of_ble_eq_true rfl)) dX3_balance_21 ⟨Nat.zero_le _, Nat.zero_le _⟩) hS (fun r3 locs hq4 hS => ?_)
    have hq4 : r3 = blF g n fr kb := hq4
    subst hq4
    refine lv_goto (tgt := 29) hx hb dX3_balance_24 (by decide) ?_
    exact W.iret (v := (blF g n fr kb)) hx hb hr (fun t9 ht9 hW9 => ⟨⟨_, ((g, n, hs, pe, pk, fo, mo), 0, fE, fK), rfl, (⟨by unfold balF; rw [if_pos q1], rfl, rfl⟩), by dsimp only; rw [ht9]; exact hP⟩, hS.F ht9⟩) hS.2.2 dX3_balance_29
  · have q1 : ¬ (rg kb (-20000) 20000) := hq2
    refine lv_if_eq (tgt := 27) hx hb dX3_balance_15 (by decide) (fun _ => ?_) (fun h9 => absurd h9 (by decide))
    refine lv_ldc hx hb hown (hts (.constant RX3 64 (-1000000)) mbX3_balance_2) dX3_balance_27 ?_
    exact W.iret (v := (-1000000)) hx hb hr (fun t9 ht9 hW9 => ⟨⟨_, ((g, n, hs, pe, pk, fo, mo), 0, fE, fK), rfl, (⟨by unfold balF; rw [if_neg q1], rfl, rfl⟩), by dsimp only; rw [ht9]; exact hP⟩, hS.F ht9⟩) hS.2.2 dX3_balance_29

set_option maxRecDepth 20000 in
theorem miX3_told_X3 : ∀ w ∈ u_ws RX3 TX3 19, w ∈ wsX3_told := by decide +kernel
set_option maxRecDepth 20000 in
theorem mbX3_told_1 : (.fieldLink RX3 40 "SectionFibresModel" "thrown" "I" : Cond) ∈ wsX3_told := by decide +kernel
set_option maxRecDepth 20000 in
theorem mbX3_told_2 : (.fieldLink RX3 60 "SectionFibresModel" "has" "Z" : Cond) ∈ wsX3_told := by decide +kernel
set_option maxRecDepth 20000 in
theorem mbX3_told_3 : (.fieldLink RX3 105 "SectionFibresModel" "e" "I" : Cond) ∈ wsX3_told := by decide +kernel
set_option maxRecDepth 20000 in
theorem mbX3_told_4 : (.fieldLink RX3 108 "SectionFibresModel" "k" "I" : Cond) ∈ wsX3_told := by decide +kernel
set_option maxHeartbeats 4000000 in
set_option maxRecDepth 100000 in
theorem c_X3_told (l : Launch) (dC : Nat → ClassId) (dI : Nat → Nat → Nat) (cA : ClassId) (H : Heap) (Z : Nat → Nat) (g : Gg) (n : Nat) (th hs pe pk : Int32) (fo mo : Int64) (fE fK : Int32) (hP : va_P (dC, dI) vwCl (wR cA Z g n th hs pe pk fo mo fE fK) H) (hD : va_D (fun _ => True) (wR cA Z g n th hs pe pk fo mo fE fK)) (hg : InvG g) (hn : n ≤ 41) (hpl : ¬ hs = 0 → rg pe (-20000) 20000 ∧ rg pk (-20000) 20000) (wh : Int32) : Met l yX3_told wsX3_told ({ frames := 3, cells := 0, slots := 0, locals := 75 }) (rd_P [.ref (Z 0), .int wh] H (dC, dI) vwCl [(cA, .int)]) (va_Qi (fun (r : Int32) (u : Su) => r = tolF g n hs pe pk wh ∧ u.1 = (g, n, hs, pe, pk, fo, mo) ∧ u.2.1 = 0) (fun u t => bR dC dI cA Z u t.heap) (va_A (wR cA Z g n th hs pe pk fo mo fE fK) H.size)) 0 0 (va_A (wR cA Z g n th hs pe pk fo mo fE fK) H.size) := by
  refine Met.ofW (cc := cX3_told) (maxL := 2) (ret := (some .int)) (by decide) rfl ?_
  intro p e s m args below meth c s₁ B hml hv
  obtain ⟨rfl, hH, hK, hN⟩ := hv
  subst hH
  have hx := B.exec
  have hb := B.bytes
  have hr := B.returns
  have hts := atoms_spec (ws := wsX3_told) B.pre
  have hown : s.vm.findClass RX3 = some m.cls := findClass_of_methodNamed B.named
  have hlocks := B.notSynchronized
  have hD := hD.self (sz := s.heap.size)
  generalize hAe : va_A (wR cA Z g n th hs pe pk fo mo fE fK) s.heap.size = Av at hD ⊢
  have hA : ∀ q : Nat, s.heap.size ≤ q → Av q := fun q h => by rw [← hAe]; exact Or.inr h
  have hS : va_S Av s.heap s.heap [] := va_S.rf
  have hl := lv_entry ([.ref (Z 0), .int wh]) (n := 2) (Nat.le_of_ble_eq_true rfl)
  rw [lg_entry_eq]
  generalize (lg_sl ([.ref (Z 0), .int wh]) ++ List.replicate (2 - (lg_sl ([.ref (Z 0), .int wh])).length) Slot.unset).toArray = ls at hl ⊢
  have hl : lv_has ls 2 [(0, .ref (Z 0)), (1, .int wh)] := hl
  refine lv_aload_n hx hb dX3_told_0 rfl (lv_at hl 0 rfl) ?_
  refine lv_iconst (v := 0) hx hb dX3_told_1 (by decide) ?_
  refine va_put (D := (dC, dI)) (ci := 4) (v := .int 0) (ty := .int) (C := RX3) (T := TX3) (N := 19) hx hb hts miX3_told_X3 tyX3 tyX3_ok nmX3 hown hK hP hD hS 0 rfl rfl 0 (by decide) (hts (.fieldLink RX3 40 "SectionFibresModel" "thrown" "I") mbX3_told_1) (fun _ h9 => h9) rfl (by decide +kernel) rfl rfl (Nat.le_of_ble_eq_true rfl) dX3_told_2 (fun H locs hP hD hS => ?_)
  have hP : va_P (dC, dI) vwCl (wR cA Z g n 0 hs pe pk fo mo fE fK) H := hP
  have hD : va_D Av (wR cA Z g n 0 hs pe pk fo mo fE fK) := hD
  refine lv_aload_n hx hb dX3_told_5 rfl (lv_at hl 0 rfl) ?_
  refine va_get (D := (dC, dI)) (ci := 4) (v := .int hs) (C := RX3) (T := TX3) (N := 19) hx hb hts miX3_told_X3 hown hK hP 0 rfl rfl 12 (by decide) (hts (.fieldLink RX3 60 "SectionFibresModel" "has" "Z") mbX3_told_2) (fun _ h9 => h9) rfl dX3_told_6 ?_
  refine lv_if_eq (tgt := 21) hx hb dX3_told_9 (by decide) (fun c1 => ?_) (fun c1 => ?_)
  · refine lv_iconst (v := (-1)) hx hb dX3_told_21 (by decide) ?_
    exact W.iret (v := (-1)) hx hb hr (fun t9 ht9 hW9 => ⟨⟨_, ((g, n, hs, pe, pk, fo, mo), 0, fE, fK), rfl, (⟨by unfold tolF; rw [if_pos c1], rfl, rfl⟩), by dsimp only; rw [ht9]; exact hP⟩, hS.F ht9⟩) hS.2.2 dX3_told_22
  · refine lv_iload_n hx hb dX3_told_12 rfl (lv_at hl 1 rfl) ?_
    refine lv_iconst (v := 0) hx hb dX3_told_13 (by decide) ?_
    refine lv_iconst (v := 2) hx hb dX3_told_14 (by decide) ?_
    refine rd_i (va_runS (As := [.int wh, .int 0, .int 2]) (rest := []) ⟨hx, hb, hml, hown, hts⟩ (c_X3_within l dC dI cA H wh 0 2 0 2 (by decide) (by decide)) (va_cwS 3 hts gX3_told_X3_within rfl rfl rfl (by decide +kernel) ⟨Nat.le_of_ble_eq_true rfl, Nat.le_of_ble_eq_true rfl⟩) ⟨rd_bl, rd_pre hK hN⟩ rfl rfl hl.1 rfl (lv_room (Nat.le_of_ble_eq_true rfl)) dX3_told_15 ⟨Nat.zero_le _, Nat.zero_le _⟩) hS (fun r1 locs hq2 hS => ?_)
    rcases hq2 with ⟨hq2, rfl⟩ | ⟨hq2, rfl⟩
    · have q1 : rg wh 0 2 := hq2
      refine lv_if_ne (tgt := 23) hx hb dX3_told_18 (by decide) (fun _ => ?_) (fun h9 => absurd h9 (by decide))
      refine lv_iload_n hx hb dX3_told_23 rfl (lv_at hl 1 rfl) ?_
      refine lv_if_ne (tgt := 34) hx hb dX3_told_24 (by decide) (fun c2 => ?_) (fun c2 => ?_)
      · refine lv_iload_n hx hb dX3_told_34 rfl (lv_at hl 1 rfl) ?_
        refine lv_iconst (v := 1) hx hb dX3_told_35 (by decide) ?_
        refine lv_icmp_ne (tgt := 46) hx hb dX3_told_36 (by decide) (fun c3 => ?_) (fun c3 => ?_)
        · refine lv_aload_n hx hb dX3_told_46 rfl (lv_at hl 0 rfl) ?_
          refine lv_aload_n hx hb dX3_told_47 rfl (lv_at hl 0 rfl) ?_
          refine va_get (D := (dC, dI)) (ci := 4) (v := .int pe) (C := RX3) (T := TX3) (N := 19) hx hb hts miX3_told_X3 hown hK hP 0 rfl rfl 13 (by decide) (hts (.fieldLink RX3 105 "SectionFibresModel" "e" "I") mbX3_told_3) (fun _ h9 => h9) rfl dX3_told_48 ?_
          refine lv_aload_n hx hb dX3_told_51 rfl (lv_at hl 0 rfl) ?_
          refine va_get (D := (dC, dI)) (ci := 4) (v := .int pk) (C := RX3) (T := TX3) (N := 19) hx hb hts miX3_told_X3 hown hK hP 0 rfl rfl 14 (by decide) (hts (.fieldLink RX3 108 "SectionFibresModel" "k" "I") mbX3_told_4) (fun _ h9 => h9) rfl dX3_told_52 ?_
          refine rd_i (va_runV (As := [.int pe, .int pk]) (rest := []) ⟨hx, hb, hml, hown, hts⟩ (c_X3_firstBeyond l dC dI cA H Z g n 0 hs pe pk fo mo fE fK hP hg hn pe pk (hpl c1).1 (hpl c1).2) (cwV 2 hts gX3_told_X3_firstBeyond rfl rfl rfl (by decide +kernel) ⟨Nat.le_of_ble_eq_true rfl, Nat.le_of_ble_eq_true rfl⟩) ⟨rd_bl, va_recv hK hP (ci := 4) (q0 := 0) rfl rfl, rd_pre hK hN⟩ rfl rfl hl.1 rfl (lv_room (Nat.le_of_ble_eq_true rfl)) dX3_told_55 ⟨Nat.zero_le _, Nat.zero_le _⟩) hS (fun r3 locs hq4 hS => ?_)
          have hq4 : r3 = fbF g pe pk n 0 := hq4
          subst hq4
          exact W.iret (v := (fbF g pe pk n 0)) hx hb hr (fun t9 ht9 hW9 => ⟨⟨_, ((g, n, hs, pe, pk, fo, mo), 0, fE, fK), rfl, (⟨by unfold tolF; rw [if_neg c1, if_neg c2, if_neg c3, if_pos (((rg02.mp q1).resolve_left c2).resolve_left c3)], rfl, rfl⟩), by dsimp only; rw [ht9]; exact hP⟩, hS.F ht9⟩) hS.2.2 dX3_told_58
        · refine lv_aload_n hx hb dX3_told_39 rfl (lv_at hl 0 rfl) ?_
          refine va_get (D := (dC, dI)) (ci := 4) (v := .int pk) (C := RX3) (T := TX3) (N := 19) hx hb hts miX3_told_X3 hown hK hP 0 rfl rfl 14 (by decide) (hts (.fieldLink RX3 108 "SectionFibresModel" "k" "I") mbX3_told_4) (fun _ h9 => h9) rfl dX3_told_40 ?_
          refine lv_goto (tgt := 58) hx hb dX3_told_43 (by decide) ?_
          exact W.iret (v := pk) hx hb hr (fun t9 ht9 hW9 => ⟨⟨_, ((g, n, hs, pe, pk, fo, mo), 0, fE, fK), rfl, (⟨by unfold tolF; rw [if_neg c1, if_neg c2, if_pos c3], rfl, rfl⟩), by dsimp only; rw [ht9]; exact hP⟩, hS.F ht9⟩) hS.2.2 dX3_told_58
      · refine lv_aload_n hx hb dX3_told_27 rfl (lv_at hl 0 rfl) ?_
        refine va_get (D := (dC, dI)) (ci := 4) (v := .int pe) (C := RX3) (T := TX3) (N := 19) hx hb hts miX3_told_X3 hown hK hP 0 rfl rfl 13 (by decide) (hts (.fieldLink RX3 105 "SectionFibresModel" "e" "I") mbX3_told_3) (fun _ h9 => h9) rfl dX3_told_28 ?_
        refine lv_goto (tgt := 58) hx hb dX3_told_31 (by decide) ?_
        exact W.iret (v := pe) hx hb hr (fun t9 ht9 hW9 => ⟨⟨_, ((g, n, hs, pe, pk, fo, mo), 0, fE, fK), rfl, (⟨by unfold tolF; rw [if_neg c1, if_pos c2], rfl, rfl⟩), by dsimp only; rw [ht9]; exact hP⟩, hS.F ht9⟩) hS.2.2 dX3_told_58
    · have q1 : ¬ (rg wh 0 2) := hq2
      refine lv_if_ne (tgt := 23) hx hb dX3_told_18 (by decide) (fun h9 => absurd h9 (by decide)) (fun _ => ?_)
      refine lv_iconst (v := (-1)) hx hb dX3_told_21 (by decide) ?_
      exact W.iret (v := (-1)) hx hb hr (fun t9 ht9 hW9 => ⟨⟨_, ((g, n, hs, pe, pk, fo, mo), 0, fE, fK), rfl, (⟨by unfold tolF; rw [if_neg c1, if_neg (fun h9 => q1 (rg02.mpr (Or.inl h9))), if_neg (fun h9 => q1 (rg02.mpr (Or.inr (Or.inl h9)))), if_neg (fun h9 => q1 (rg02.mpr (Or.inr (Or.inr h9))))], rfl, rfl⟩), by dsimp only; rw [ht9]; exact hP⟩, hS.F ht9⟩) hS.2.2 dX3_told_22

set_option maxRecDepth 20000 in
theorem miX3_residual_X3 : ∀ w ∈ u_ws RX3 TX3 19, w ∈ wsX3_residual := by decide +kernel
set_option maxRecDepth 20000 in
theorem mbX3_residual_1 : (.fieldLink RX3 40 "SectionFibresModel" "thrown" "I" : Cond) ∈ wsX3_residual := by decide +kernel
set_option maxRecDepth 20000 in
theorem mbX3_residual_2 : (.fieldLink RX3 60 "SectionFibresModel" "has" "Z" : Cond) ∈ wsX3_residual := by decide +kernel
set_option maxRecDepth 20000 in
theorem mbX3_residual_3 : (.constantLong RX3 89 (-4611686018427387904) : Cond) ∈ wsX3_residual := by decide +kernel
set_option maxRecDepth 20000 in
theorem mbX3_residual_4 : (.fieldLink RX3 105 "SectionFibresModel" "e" "I" : Cond) ∈ wsX3_residual := by decide +kernel
set_option maxRecDepth 20000 in
theorem mbX3_residual_5 : (.fieldLink RX3 108 "SectionFibresModel" "k" "I" : Cond) ∈ wsX3_residual := by decide +kernel
set_option maxRecDepth 20000 in
theorem mbX3_residual_6 : (.fieldLink RX3 115 "SectionFibresModel" "wantedMoment" "J" : Cond) ∈ wsX3_residual := by decide +kernel
set_option maxRecDepth 20000 in
theorem mbX3_residual_7 : (.fieldLink RX3 111 "SectionFibresModel" "wantedForce" "J" : Cond) ∈ wsX3_residual := by decide +kernel
set_option maxHeartbeats 4000000 in
set_option maxRecDepth 100000 in
theorem c_X3_residual (l : Launch) (dC : Nat → ClassId) (dI : Nat → Nat → Nat) (cA : ClassId) (H : Heap) (Z : Nat → Nat) (g : Gg) (n : Nat) (th hs pe pk : Int32) (fo mo : Int64) (fE fK : Int32) (hP : va_P (dC, dI) vwCl (wR cA Z g n th hs pe pk fo mo fE fK) H) (hD : va_D (fun _ => True) (wR cA Z g n th hs pe pk fo mo fE fK)) (hg : InvG g) (hn : n ≤ 41) (hpl : ¬ hs = 0 → rg pe (-20000) 20000 ∧ rg pk (-20000) 20000) (wh : Int32) : Met l yX3_residual wsX3_residual ({ frames := 3, cells := 0, slots := 0, locals := 76 }) (rd_P [.ref (Z 0), .int wh] H (dC, dI) vwCl [(cA, .int)]) (va_Ql (fun (r : Int64) (u : Su) => r = resF g n hs pe pk fo mo wh ∧ u.1 = (g, n, hs, pe, pk, fo, mo) ∧ u.2.1 = 0) (fun u t => bR dC dI cA Z u t.heap) (va_A (wR cA Z g n th hs pe pk fo mo fE fK) H.size)) 0 0 (va_A (wR cA Z g n th hs pe pk fo mo fE fK) H.size) := by
  refine Met.ofW (cc := cX3_residual) (maxL := 2) (ret := (some .long)) (by decide) rfl ?_
  intro p e s m args below meth c s₁ B hml hv
  obtain ⟨rfl, hH, hK, hN⟩ := hv
  subst hH
  have hx := B.exec
  have hb := B.bytes
  have hr := B.returns
  have hts := atoms_spec (ws := wsX3_residual) B.pre
  have hown : s.vm.findClass RX3 = some m.cls := findClass_of_methodNamed B.named
  have hlocks := B.notSynchronized
  have hD := hD.self (sz := s.heap.size)
  generalize hAe : va_A (wR cA Z g n th hs pe pk fo mo fE fK) s.heap.size = Av at hD ⊢
  have hA : ∀ q : Nat, s.heap.size ≤ q → Av q := fun q h => by rw [← hAe]; exact Or.inr h
  have hS : va_S Av s.heap s.heap [] := va_S.rf
  have hl := lv_entry ([.ref (Z 0), .int wh]) (n := 2) (Nat.le_of_ble_eq_true rfl)
  rw [lg_entry_eq]
  generalize (lg_sl ([.ref (Z 0), .int wh]) ++ List.replicate (2 - (lg_sl ([.ref (Z 0), .int wh])).length) Slot.unset).toArray = ls at hl ⊢
  have hl : lv_has ls 2 [(0, .ref (Z 0)), (1, .int wh)] := hl
  refine lv_aload_n hx hb dX3_residual_0 rfl (lv_at hl 0 rfl) ?_
  refine lv_iconst (v := 0) hx hb dX3_residual_1 (by decide) ?_
  refine va_put (D := (dC, dI)) (ci := 4) (v := .int 0) (ty := .int) (C := RX3) (T := TX3) (N := 19) hx hb hts miX3_residual_X3 tyX3 tyX3_ok nmX3 hown hK hP hD hS 0 rfl rfl 0 (by decide) (hts (.fieldLink RX3 40 "SectionFibresModel" "thrown" "I") mbX3_residual_1) (fun _ h9 => h9) rfl (by decide +kernel) rfl rfl (Nat.le_of_ble_eq_true rfl) dX3_residual_2 (fun H locs hP hD hS => ?_)
  have hP : va_P (dC, dI) vwCl (wR cA Z g n 0 hs pe pk fo mo fE fK) H := hP
  have hD : va_D Av (wR cA Z g n 0 hs pe pk fo mo fE fK) := hD
  refine lv_aload_n hx hb dX3_residual_5 rfl (lv_at hl 0 rfl) ?_
  refine va_get (D := (dC, dI)) (ci := 4) (v := .int hs) (C := RX3) (T := TX3) (N := 19) hx hb hts miX3_residual_X3 hown hK hP 0 rfl rfl 12 (by decide) (hts (.fieldLink RX3 60 "SectionFibresModel" "has" "Z") mbX3_residual_2) (fun _ h9 => h9) rfl dX3_residual_6 ?_
  refine lv_if_eq (tgt := 21) hx hb dX3_residual_9 (by decide) (fun c1 => ?_) (fun c1 => ?_)
  · refine lv_ldc2 hx hb hown (hts (.constantLong RX3 89 (-4611686018427387904)) mbX3_residual_3) dX3_residual_21 ?_
    exact W.lret (v := (-4611686018427387904)) hx hb hr (fun t9 ht9 hW9 => ⟨⟨_, ((g, n, hs, pe, pk, fo, mo), 0, fE, fK), rfl, (⟨by unfold resF; rw [if_pos c1], rfl, rfl⟩), by dsimp only; rw [ht9]; exact hP⟩, hS.F ht9⟩) hS.2.2 dX3_residual_24
  · refine lv_iload_n hx hb dX3_residual_12 rfl (lv_at hl 1 rfl) ?_
    refine lv_iconst (v := 0) hx hb dX3_residual_13 (by decide) ?_
    refine lv_iconst (v := 1) hx hb dX3_residual_14 (by decide) ?_
    refine rd_i (va_runS (As := [.int wh, .int 0, .int 1]) (rest := []) ⟨hx, hb, hml, hown, hts⟩ (c_X3_within l dC dI cA H wh 0 1 0 1 (by decide) (by decide)) (va_cwS 3 hts gX3_residual_X3_within rfl rfl rfl (by decide +kernel) ⟨Nat.le_of_ble_eq_true rfl, Nat.le_of_ble_eq_true rfl⟩) ⟨rd_bl, rd_pre hK hN⟩ rfl rfl hl.1 rfl (lv_room (Nat.le_of_ble_eq_true rfl)) dX3_residual_15 ⟨Nat.zero_le _, Nat.zero_le _⟩) hS (fun r1 locs hq2 hS => ?_)
    rcases hq2 with ⟨hq2, rfl⟩ | ⟨hq2, rfl⟩
    · have q1 : rg wh 0 1 := hq2
      refine lv_if_ne (tgt := 25) hx hb dX3_residual_18 (by decide) (fun _ => ?_) (fun h9 => absurd h9 (by decide))
      refine lv_iload_n hx hb dX3_residual_25 rfl (lv_at hl 1 rfl) ?_
      refine lv_if_ne (tgt := 50) hx hb dX3_residual_26 (by decide) (fun c2 => ?_) (fun c2 => ?_)
      · refine lv_aload_n hx hb dX3_residual_50 rfl (lv_at hl 0 rfl) ?_
        refine lv_aload_n hx hb dX3_residual_51 rfl (lv_at hl 0 rfl) ?_
        refine va_get (D := (dC, dI)) (ci := 4) (v := .int pe) (C := RX3) (T := TX3) (N := 19) hx hb hts miX3_residual_X3 hown hK hP 0 rfl rfl 13 (by decide) (hts (.fieldLink RX3 105 "SectionFibresModel" "e" "I") mbX3_residual_4) (fun _ h9 => h9) rfl dX3_residual_52 ?_
        refine lv_aload_n hx hb dX3_residual_55 rfl (lv_at hl 0 rfl) ?_
        refine va_get (D := (dC, dI)) (ci := 4) (v := .int pk) (C := RX3) (T := TX3) (N := 19) hx hb hts miX3_residual_X3 hown hK hP 0 rfl rfl 14 (by decide) (hts (.fieldLink RX3 108 "SectionFibresModel" "k" "I") mbX3_residual_5) (fun _ h9 => h9) rfl dX3_residual_56 ?_
        refine lv_iconst (v := 1) hx hb dX3_residual_59 (by decide) ?_
        refine rd_l (va_runV (As := [.int pe, .int pk, .int 1]) (rest := []) ⟨hx, hb, hml, hown, hts⟩ (c_X3_sum l dC dI cA H Z g n 0 hs pe pk fo mo fE fK hP hg hn pe pk (hpl c1).1 (hpl c1).2 true 1 (by decide)) (cwV 3 hts gX3_residual_X3_sum rfl rfl rfl (by decide +kernel) ⟨Nat.le_of_ble_eq_true rfl, Nat.le_of_ble_eq_true rfl⟩) ⟨rd_bl, va_recv hK hP (ci := 4) (q0 := 0) rfl rfl, rd_pre hK hN⟩ rfl rfl hl.1 rfl (lv_room (Nat.le_of_ble_eq_true rfl)) dX3_residual_60 ⟨Nat.zero_le _, Nat.zero_le _⟩) hS (fun r3 locs hq4 hS => ?_)
        have hq4 : r3 = smF g true pe pk n := hq4
        subst hq4
        refine lv_aload_n hx hb dX3_residual_63 rfl (lv_at hl 0 rfl) ?_
        refine va_get (D := (dC, dI)) (ci := 4) (v := .long mo) (C := RX3) (T := TX3) (N := 19) hx hb hts miX3_residual_X3 hown hK hP 0 rfl rfl 16 (by decide) (hts (.fieldLink RX3 115 "SectionFibresModel" "wantedMoment" "J") mbX3_residual_6) (fun _ h9 => h9) rfl dX3_residual_64 ?_
        refine lv_lsub hx hb dX3_residual_67 ?_
        exact W.lret (v := ((smF g true pe pk n) - mo)) hx hb hr (fun t9 ht9 hW9 => ⟨⟨_, ((g, n, hs, pe, pk, fo, mo), 0, fE, fK), rfl, (⟨by unfold resF; rw [if_neg c1, if_neg c2, if_pos ((rg01.mp q1).resolve_left c2)], rfl, rfl⟩), by dsimp only; rw [ht9]; exact hP⟩, hS.F ht9⟩) hS.2.2 dX3_residual_68
      · refine lv_aload_n hx hb dX3_residual_29 rfl (lv_at hl 0 rfl) ?_
        refine lv_aload_n hx hb dX3_residual_30 rfl (lv_at hl 0 rfl) ?_
        refine va_get (D := (dC, dI)) (ci := 4) (v := .int pe) (C := RX3) (T := TX3) (N := 19) hx hb hts miX3_residual_X3 hown hK hP 0 rfl rfl 13 (by decide) (hts (.fieldLink RX3 105 "SectionFibresModel" "e" "I") mbX3_residual_4) (fun _ h9 => h9) rfl dX3_residual_31 ?_
        refine lv_aload_n hx hb dX3_residual_34 rfl (lv_at hl 0 rfl) ?_
        refine va_get (D := (dC, dI)) (ci := 4) (v := .int pk) (C := RX3) (T := TX3) (N := 19) hx hb hts miX3_residual_X3 hown hK hP 0 rfl rfl 14 (by decide) (hts (.fieldLink RX3 108 "SectionFibresModel" "k" "I") mbX3_residual_5) (fun _ h9 => h9) rfl dX3_residual_35 ?_
        refine lv_iconst (v := 0) hx hb dX3_residual_38 (by decide) ?_
        refine rd_l (va_runV (As := [.int pe, .int pk, .int 0]) (rest := []) ⟨hx, hb, hml, hown, hts⟩ (c_X3_sum l dC dI cA H Z g n 0 hs pe pk fo mo fE fK hP hg hn pe pk (hpl c1).1 (hpl c1).2 false 0 (by decide)) (cwV 3 hts gX3_residual_X3_sum rfl rfl rfl (by decide +kernel) ⟨Nat.le_of_ble_eq_true rfl, Nat.le_of_ble_eq_true rfl⟩) ⟨rd_bl, va_recv hK hP (ci := 4) (q0 := 0) rfl rfl, rd_pre hK hN⟩ rfl rfl hl.1 rfl (lv_room (Nat.le_of_ble_eq_true rfl)) dX3_residual_39 ⟨Nat.zero_le _, Nat.zero_le _⟩) hS (fun r5 locs hq6 hS => ?_)
        have hq6 : r5 = smF g false pe pk n := hq6
        subst hq6
        refine lv_aload_n hx hb dX3_residual_42 rfl (lv_at hl 0 rfl) ?_
        refine va_get (D := (dC, dI)) (ci := 4) (v := .long fo) (C := RX3) (T := TX3) (N := 19) hx hb hts miX3_residual_X3 hown hK hP 0 rfl rfl 15 (by decide) (hts (.fieldLink RX3 111 "SectionFibresModel" "wantedForce" "J") mbX3_residual_7) (fun _ h9 => h9) rfl dX3_residual_43 ?_
        refine lv_lsub hx hb dX3_residual_46 ?_
        refine lv_goto (tgt := 68) hx hb dX3_residual_47 (by decide) ?_
        exact W.lret (v := ((smF g false pe pk n) - fo)) hx hb hr (fun t9 ht9 hW9 => ⟨⟨_, ((g, n, hs, pe, pk, fo, mo), 0, fE, fK), rfl, (⟨by unfold resF; rw [if_neg c1, if_pos c2], rfl, rfl⟩), by dsimp only; rw [ht9]; exact hP⟩, hS.F ht9⟩) hS.2.2 dX3_residual_68
    · have q1 : ¬ (rg wh 0 1) := hq2
      refine lv_if_ne (tgt := 25) hx hb dX3_residual_18 (by decide) (fun h9 => absurd h9 (by decide)) (fun _ => ?_)
      refine lv_ldc2 hx hb hown (hts (.constantLong RX3 89 (-4611686018427387904)) mbX3_residual_3) dX3_residual_21 ?_
      exact W.lret (v := (-4611686018427387904)) hx hb hr (fun t9 ht9 hW9 => ⟨⟨_, ((g, n, hs, pe, pk, fo, mo), 0, fE, fK), rfl, (⟨by unfold resF; rw [if_neg c1, if_neg (fun h9 => q1 (rg01.mpr (Or.inl h9))), if_neg (fun h9 => q1 (rg01.mpr (Or.inr h9)))], rfl, rfl⟩), by dsimp only; rw [ht9]; exact hP⟩, hS.F ht9⟩) hS.2.2 dX3_residual_24

set_option maxRecDepth 20000 in
theorem miX3_in_X3 : ∀ w ∈ u_ws RX3 TX3 19, w ∈ wsX3_in := by decide +kernel
set_option maxRecDepth 20000 in
theorem mbX3_in_1 : (.fieldLink RX3 40 "SectionFibresModel" "thrown" "I" : Cond) ∈ wsX3_in := by decide +kernel
set_option maxRecDepth 20000 in
theorem mbX3_in_2 : (.fieldLink RX3 60 "SectionFibresModel" "has" "Z" : Cond) ∈ wsX3_in := by decide +kernel
set_option maxRecDepth 20000 in
theorem mbX3_in_3 : (.constant RX3 64 (-1000000) : Cond) ∈ wsX3_in := by decide +kernel
set_option maxRecDepth 20000 in
theorem mbX3_in_4 : (.fieldLink RX3 105 "SectionFibresModel" "e" "I" : Cond) ∈ wsX3_in := by decide +kernel
set_option maxRecDepth 20000 in
theorem mbX3_in_5 : (.fieldLink RX3 108 "SectionFibresModel" "k" "I" : Cond) ∈ wsX3_in := by decide +kernel
set_option maxHeartbeats 4000000 in
set_option maxRecDepth 100000 in
theorem c_X3_in (l : Launch) (dC : Nat → ClassId) (dI : Nat → Nat → Nat) (cA : ClassId) (H : Heap) (Z : Nat → Nat) (g : Gg) (n : Nat) (th hs pe pk : Int32) (fo mo : Int64) (fE fK : Int32) (hP : va_P (dC, dI) vwCl (wR cA Z g n th hs pe pk fo mo fE fK) H) (hD : va_D (fun _ => True) (wR cA Z g n th hs pe pk fo mo fE fK)) (hg : InvG g) (hn : n ≤ 40) (hpl : ¬ hs = 0 → rg pe (-20000) 20000 ∧ rg pk (-20000) 20000) (a b : Int32) : Met l yX3_in wsX3_in ({ frames := 2, cells := 0, slots := 0, locals := 50 }) (rd_P [.ref (Z 0), .int a, .int b] H (dC, dI) vwCl [(cA, .int)]) (va_Qi (fun (r : Int32) (u : Su) => u.1 = (g, n, hs, pe, pk, fo, mo) ∧ ((rg a 0 ((n : Int) - 1) ∧ u.2.1 = 0 ∧ r = inF g hs pe pk a b) ∨ (¬ rg a 0 ((n : Int) - 1) ∧ u.2.1 = 1))) (fun u t => bR dC dI cA Z u t.heap) (va_A (wR cA Z g n th hs pe pk fo mo fE fK) H.size)) 0 0 (va_A (wR cA Z g n th hs pe pk fo mo fE fK) H.size) := by
  refine Met.ofW (cc := cX3_in) (maxL := 3) (ret := (some .int)) (by decide) rfl ?_
  intro p e s m args below meth c s₁ B hml hv
  obtain ⟨rfl, hH, hK, hN⟩ := hv
  subst hH
  have hx := B.exec
  have hb := B.bytes
  have hr := B.returns
  have hts := atoms_spec (ws := wsX3_in) B.pre
  have hown : s.vm.findClass RX3 = some m.cls := findClass_of_methodNamed B.named
  have hlocks := B.notSynchronized
  have hD := hD.self (sz := s.heap.size)
  generalize hAe : va_A (wR cA Z g n th hs pe pk fo mo fE fK) s.heap.size = Av at hD ⊢
  have hA : ∀ q : Nat, s.heap.size ≤ q → Av q := fun q h => by rw [← hAe]; exact Or.inr h
  have hS : va_S Av s.heap s.heap [] := va_S.rf
  have hl := lv_entry ([.ref (Z 0), .int a, .int b]) (n := 3) (Nat.le_of_ble_eq_true rfl)
  rw [lg_entry_eq]
  generalize (lg_sl ([.ref (Z 0), .int a, .int b]) ++ List.replicate (3 - (lg_sl ([.ref (Z 0), .int a, .int b])).length) Slot.unset).toArray = ls at hl ⊢
  have hl : lv_has ls 3 [(0, .ref (Z 0)), (1, .int a), (2, .int b)] := hl
  refine lv_aload_n hx hb dX3_in_0 rfl (lv_at hl 0 rfl) ?_
  refine lv_aload_n hx hb dX3_in_1 rfl (lv_at hl 0 rfl) ?_
  refine lv_iload_n hx hb dX3_in_2 rfl (lv_at hl 1 rfl) ?_
  refine rd_i (va_runV (As := [.int a]) (rest := [.ref (Z 0)]) ⟨hx, hb, hml, hown, hts⟩ (c_X3_isFibre l dC dI cA s.heap Z g n th hs pe pk fo mo fE fK hP (by omega) a) (cwV 1 hts gX3_in_X3_isFibre rfl rfl rfl (by decide +kernel) ⟨Nat.le_of_ble_eq_true rfl, Nat.le_of_ble_eq_true rfl⟩) ⟨rd_bl, va_recv hK hP (ci := 4) (q0 := 0) rfl rfl, rd_pre hK hN⟩ rfl rfl hl.1 rfl (lv_room (Nat.le_of_ble_eq_true rfl)) dX3_in_3 ⟨Nat.zero_le _, Nat.zero_le _⟩) hS (fun r1 locs hq2 hS => ?_)
  rcases hq2 with ⟨hq2, rfl⟩ | ⟨hq2, rfl⟩
  · have q1 : rg a 0 ((n : Int) - 1) := hq2
    refine lv_if_eq (tgt := 13) hx hb dX3_in_6 (by decide) (fun h9 => absurd h9 (by decide)) (fun _ => ?_)
    refine lv_iconst (v := 0) hx hb dX3_in_9 (by decide) ?_
    refine lv_goto (tgt := 14) hx hb dX3_in_10 (by decide) ?_
    refine va_put (D := (dC, dI)) (ci := 4) (v := .int 0) (ty := .int) (C := RX3) (T := TX3) (N := 19) hx hb hts miX3_in_X3 tyX3 tyX3_ok nmX3 hown hK hP hD hS 0 rfl rfl 0 (by decide) (hts (.fieldLink RX3 40 "SectionFibresModel" "thrown" "I") mbX3_in_1) (fun _ h9 => h9) rfl (by decide +kernel) rfl rfl (Nat.le_of_ble_eq_true rfl) dX3_in_14 (fun H locs hP hD hS => ?_)
    have hP : va_P (dC, dI) vwCl (wR cA Z g n 0 hs pe pk fo mo fE fK) H := hP
    have hD : va_D Av (wR cA Z g n 0 hs pe pk fo mo fE fK) := hD
    refine lv_aload_n hx hb dX3_in_17 rfl (lv_at hl 0 rfl) ?_
    refine va_get (D := (dC, dI)) (ci := 4) (v := .int 0) (C := RX3) (T := TX3) (N := 19) hx hb hts miX3_in_X3 hown hK hP 0 rfl rfl 0 (by decide) (hts (.fieldLink RX3 40 "SectionFibresModel" "thrown" "I") mbX3_in_1) (fun _ h9 => h9) rfl dX3_in_18 ?_
    refine lv_if_le (tgt := 26) hx hb dX3_in_21 (by decide) (fun _ => ?_) (fun h9 => absurd h9 (by decide))
    refine lv_aload_n hx hb dX3_in_26 rfl (lv_at hl 0 rfl) ?_
    refine va_get (D := (dC, dI)) (ci := 4) (v := .int hs) (C := RX3) (T := TX3) (N := 19) hx hb hts miX3_in_X3 hown hK hP 0 rfl rfl 12 (by decide) (hts (.fieldLink RX3 60 "SectionFibresModel" "has" "Z") mbX3_in_2) (fun _ h9 => h9) rfl dX3_in_27 ?_
    refine lv_if_eq (tgt := 42) hx hb dX3_in_30 (by decide) (fun c1 => ?_) (fun c1 => ?_)
    · refine lv_ldc hx hb hown (hts (.constant RX3 64 (-1000000)) mbX3_in_3) dX3_in_42 ?_
      exact W.iret (v := (-1000000)) hx hb hr (fun t9 ht9 hW9 => ⟨⟨_, ((g, n, hs, pe, pk, fo, mo), 0, fE, fK), rfl, (⟨rfl, Or.inl ⟨q1, rfl, by unfold inF; rw [if_pos c1]⟩⟩), by dsimp only; rw [ht9]; exact hP⟩, hS.F ht9⟩) hS.2.2 dX3_in_44
    · refine lv_iload_n hx hb dX3_in_33 rfl (lv_at hl 2 rfl) ?_
      refine lv_iconst (v := 0) hx hb dX3_in_34 (by decide) ?_
      refine lv_iconst (v := 1) hx hb dX3_in_35 (by decide) ?_
      refine rd_i (va_runS (As := [.int b, .int 0, .int 1]) (rest := []) ⟨hx, hb, hml, hown, hts⟩ (c_X3_within l dC dI cA H b 0 1 0 1 (by decide) (by decide)) (va_cwS 3 hts gX3_in_X3_within rfl rfl rfl (by decide +kernel) ⟨Nat.le_of_ble_eq_true rfl, Nat.le_of_ble_eq_true rfl⟩) ⟨rd_bl, rd_pre hK hN⟩ rfl rfl hl.1 rfl (lv_room (Nat.le_of_ble_eq_true rfl)) dX3_in_36 ⟨Nat.zero_le _, Nat.zero_le _⟩) hS (fun r3 locs hq4 hS => ?_)
      rcases hq4 with ⟨hq4, rfl⟩ | ⟨hq4, rfl⟩
      · have q2 : rg b 0 1 := hq4
        refine lv_if_ne (tgt := 45) hx hb dX3_in_39 (by decide) (fun _ => ?_) (fun h9 => absurd h9 (by decide))
        refine lv_iload_n hx hb dX3_in_45 rfl (lv_at hl 2 rfl) ?_
        refine lv_if_ne (tgt := 65) hx hb dX3_in_46 (by decide) (fun c2 => ?_) (fun c2 => ?_)
        · refine lv_aload_n hx hb dX3_in_65 rfl (lv_at hl 0 rfl) ?_
          refine lv_iload_n hx hb dX3_in_66 rfl (lv_at hl 1 rfl) ?_
          refine tp_i (v := nI a.toNatClampNeg) (rg_nI q1) ?_
          refine lv_aload_n hx hb dX3_in_67 rfl (lv_at hl 0 rfl) ?_
          refine va_get (D := (dC, dI)) (ci := 4) (v := .int pe) (C := RX3) (T := TX3) (N := 19) hx hb hts miX3_in_X3 hown hK hP 0 rfl rfl 13 (by decide) (hts (.fieldLink RX3 105 "SectionFibresModel" "e" "I") mbX3_in_4) (fun _ h9 => h9) rfl dX3_in_68 ?_
          refine lv_aload_n hx hb dX3_in_71 rfl (lv_at hl 0 rfl) ?_
          refine va_get (D := (dC, dI)) (ci := 4) (v := .int pk) (C := RX3) (T := TX3) (N := 19) hx hb hts miX3_in_X3 hown hK hP 0 rfl rfl 14 (by decide) (hts (.fieldLink RX3 108 "SectionFibresModel" "k" "I") mbX3_in_5) (fun _ h9 => h9) rfl dX3_in_72 ?_
          refine rd_i (va_runV (As := [.int (nI a.toNatClampNeg), .int pe, .int pk]) (rest := []) ⟨hx, hb, hml, hown, hts⟩ (c_X3_stressOf l dC dI cA H Z g n 0 hs pe pk fo mo fE fK hP hg a.toNatClampNeg (by have h9 := rg_lt q1; omega) pe pk (hpl c1).1 (hpl c1).2) (cwV 3 hts gX3_in_X3_stressOf rfl rfl rfl (by decide +kernel) ⟨Nat.le_of_ble_eq_true rfl, Nat.le_of_ble_eq_true rfl⟩) ⟨rd_bl, va_recv hK hP (ci := 4) (q0 := 0) rfl rfl, rd_pre hK hN⟩ rfl rfl hl.1 rfl (lv_room (Nat.le_of_ble_eq_true rfl)) dX3_in_75 ⟨Nat.zero_le _, Nat.zero_le _⟩) hS (fun r5 locs hq6 hS => ?_)
          have hq6 : r5 = stF g a.toNatClampNeg pe pk := hq6
          subst hq6
          exact W.iret (v := (stF g a.toNatClampNeg pe pk)) hx hb hr (fun t9 ht9 hW9 => ⟨⟨_, ((g, n, hs, pe, pk, fo, mo), 0, fE, fK), rfl, (⟨rfl, Or.inl ⟨q1, rfl, by unfold inF; rw [if_neg c1, if_neg c2, if_pos ((rg01.mp q2).resolve_left c2)]⟩⟩), by dsimp only; rw [ht9]; exact hP⟩, hS.F ht9⟩) hS.2.2 dX3_in_78
        · refine lv_aload_n hx hb dX3_in_49 rfl (lv_at hl 0 rfl) ?_
          refine lv_iload_n hx hb dX3_in_50 rfl (lv_at hl 1 rfl) ?_
          refine tp_i (v := nI a.toNatClampNeg) (rg_nI q1) ?_
          refine lv_aload_n hx hb dX3_in_51 rfl (lv_at hl 0 rfl) ?_
          refine va_get (D := (dC, dI)) (ci := 4) (v := .int pe) (C := RX3) (T := TX3) (N := 19) hx hb hts miX3_in_X3 hown hK hP 0 rfl rfl 13 (by decide) (hts (.fieldLink RX3 105 "SectionFibresModel" "e" "I") mbX3_in_4) (fun _ h9 => h9) rfl dX3_in_52 ?_
          refine lv_aload_n hx hb dX3_in_55 rfl (lv_at hl 0 rfl) ?_
          refine va_get (D := (dC, dI)) (ci := 4) (v := .int pk) (C := RX3) (T := TX3) (N := 19) hx hb hts miX3_in_X3 hown hK hP 0 rfl rfl 14 (by decide) (hts (.fieldLink RX3 108 "SectionFibresModel" "k" "I") mbX3_in_5) (fun _ h9 => h9) rfl dX3_in_56 ?_
          refine rd_i (va_runV (As := [.int (nI a.toNatClampNeg), .int pe, .int pk]) (rest := []) ⟨hx, hb, hml, hown, hts⟩ (c_X3_works l dC dI cA H Z g n 0 hs pe pk fo mo fE fK hP hg a.toNatClampNeg (by have h9 := rg_lt q1; omega) pe pk (hpl c1).1 (hpl c1).2) (cwV 3 hts gX3_in_X3_works rfl rfl rfl (by decide +kernel) ⟨Nat.le_of_ble_eq_true rfl, Nat.le_of_ble_eq_true rfl⟩) ⟨rd_bl, va_recv hK hP (ci := 4) (q0 := 0) rfl rfl, rd_pre hK hN⟩ rfl rfl hl.1 rfl (lv_room (Nat.le_of_ble_eq_true rfl)) dX3_in_59 ⟨Nat.zero_le _, Nat.zero_le _⟩) hS (fun r7 locs hq8 hS => ?_)
          have hq8 : r7 = wkF g a.toNatClampNeg pe pk := hq8
          subst hq8
          refine lv_goto (tgt := 78) hx hb dX3_in_62 (by decide) ?_
          exact W.iret (v := (wkF g a.toNatClampNeg pe pk)) hx hb hr (fun t9 ht9 hW9 => ⟨⟨_, ((g, n, hs, pe, pk, fo, mo), 0, fE, fK), rfl, (⟨rfl, Or.inl ⟨q1, rfl, by unfold inF; rw [if_neg c1, if_pos c2]⟩⟩), by dsimp only; rw [ht9]; exact hP⟩, hS.F ht9⟩) hS.2.2 dX3_in_78
      · have q2 : ¬ (rg b 0 1) := hq4
        refine lv_if_ne (tgt := 45) hx hb dX3_in_39 (by decide) (fun h9 => absurd h9 (by decide)) (fun _ => ?_)
        refine lv_ldc hx hb hown (hts (.constant RX3 64 (-1000000)) mbX3_in_3) dX3_in_42 ?_
        exact W.iret (v := (-1000000)) hx hb hr (fun t9 ht9 hW9 => ⟨⟨_, ((g, n, hs, pe, pk, fo, mo), 0, fE, fK), rfl, (⟨rfl, Or.inl ⟨q1, rfl, by unfold inF; rw [if_neg c1, if_neg (fun h9 => q2 (rg01.mpr (Or.inl h9))), if_neg (fun h9 => q2 (rg01.mpr (Or.inr h9)))]⟩⟩), by dsimp only; rw [ht9]; exact hP⟩, hS.F ht9⟩) hS.2.2 dX3_in_44
  · have q1 : ¬ (rg a 0 ((n : Int) - 1)) := hq2
    refine lv_if_eq (tgt := 13) hx hb dX3_in_6 (by decide) (fun _ => ?_) (fun h9 => absurd h9 (by decide))
    refine lv_iconst (v := 1) hx hb dX3_in_13 (by decide) ?_
    refine va_put (D := (dC, dI)) (ci := 4) (v := .int 1) (ty := .int) (C := RX3) (T := TX3) (N := 19) hx hb hts miX3_in_X3 tyX3 tyX3_ok nmX3 hown hK hP hD hS 0 rfl rfl 0 (by decide) (hts (.fieldLink RX3 40 "SectionFibresModel" "thrown" "I") mbX3_in_1) (fun _ h9 => h9) rfl (by decide +kernel) rfl rfl (Nat.le_of_ble_eq_true rfl) dX3_in_14 (fun H locs hP hD hS => ?_)
    have hP : va_P (dC, dI) vwCl (wR cA Z g n 1 hs pe pk fo mo fE fK) H := hP
    have hD : va_D Av (wR cA Z g n 1 hs pe pk fo mo fE fK) := hD
    refine lv_aload_n hx hb dX3_in_17 rfl (lv_at hl 0 rfl) ?_
    refine va_get (D := (dC, dI)) (ci := 4) (v := .int 1) (C := RX3) (T := TX3) (N := 19) hx hb hts miX3_in_X3 hown hK hP 0 rfl rfl 0 (by decide) (hts (.fieldLink RX3 40 "SectionFibresModel" "thrown" "I") mbX3_in_1) (fun _ h9 => h9) rfl dX3_in_18 ?_
    refine lv_if_le (tgt := 26) hx hb dX3_in_21 (by decide) (fun h9 => absurd h9 (by decide)) (fun _ => ?_)
    refine lv_iconst (v := 0) hx hb dX3_in_24 (by decide) ?_
    exact W.iret (v := 0) hx hb hr (fun t9 ht9 hW9 => ⟨⟨_, ((g, n, hs, pe, pk, fo, mo), 1, fE, fK), rfl, (⟨rfl, Or.inr ⟨q1, rfl⟩⟩), by dsimp only; rw [ht9]; exact hP⟩, hS.F ht9⟩) hS.2.2 dX3_in_25

set_option maxRecDepth 20000 in
theorem miX3_curve_X3 : ∀ w ∈ u_ws RX3 TX3 19, w ∈ wsX3_curve := by decide +kernel
set_option maxRecDepth 20000 in
theorem mbX3_curve_1 : (.fieldLink RX3 40 "SectionFibresModel" "thrown" "I" : Cond) ∈ wsX3_curve := by decide +kernel
set_option maxRecDepth 20000 in
theorem mbX3_curve_2 : (.constant RX3 64 (-1000000) : Cond) ∈ wsX3_curve := by decide +kernel
set_option maxRecDepth 20000 in
theorem mbX3_curve_3 : (.constantLong RX3 89 (-4611686018427387904) : Cond) ∈ wsX3_curve := by decide +kernel
set_option maxHeartbeats 4000000 in
set_option maxRecDepth 100000 in
theorem c_X3_curve (l : Launch) (dC : Nat → ClassId) (dI : Nat → Nat → Nat) (cA : ClassId) (H : Heap) (Z : Nat → Nat) (g : Gg) (n : Nat) (th hs pe pk : Int32) (fo mo : Int64) (fE fK : Int32) (hP : va_P (dC, dI) vwCl (wR cA Z g n th hs pe pk fo mo fE fK) H) (hD : va_D (fun _ => True) (wR cA Z g n th hs pe pk fo mo fE fK)) (hg : InvG g) (hn : n ≤ 41) (fr : Int64) (sp kq : Int32) : Met l yX3_curve wsX3_curve ({ frames := 4, cells := 0, slots := 0, locals := 102 }) (rd_P [.ref (Z 0), .long fr, .int sp, .int kq] H (dC, dI) vwCl [(cA, .int)]) (va_Ql (fun (r : Int64) (u : Su) => r = curF g n fr sp kq ∧ u.1 = (g, n, hs, pe, pk, fo, mo) ∧ u.2.1 = 0) (fun u t => bR dC dI cA Z u t.heap) (va_A (wR cA Z g n th hs pe pk fo mo fE fK) H.size)) 0 0 (va_A (wR cA Z g n th hs pe pk fo mo fE fK) H.size) := by
  refine Met.ofW (cc := cX3_curve) (maxL := 6) (ret := (some .long)) (by decide) rfl ?_
  intro p e s m args below meth c s₁ B hml hv
  obtain ⟨rfl, hH, hK, hN⟩ := hv
  subst hH
  have hx := B.exec
  have hb := B.bytes
  have hr := B.returns
  have hts := atoms_spec (ws := wsX3_curve) B.pre
  have hown : s.vm.findClass RX3 = some m.cls := findClass_of_methodNamed B.named
  have hlocks := B.notSynchronized
  have hD := hD.self (sz := s.heap.size)
  generalize hAe : va_A (wR cA Z g n th hs pe pk fo mo fE fK) s.heap.size = Av at hD ⊢
  have hA : ∀ q : Nat, s.heap.size ≤ q → Av q := fun q h => by rw [← hAe]; exact Or.inr h
  have hS : va_S Av s.heap s.heap [] := va_S.rf
  have hl := lv_entry ([.ref (Z 0), .long fr, .int sp, .int kq]) (n := 6) (Nat.le_of_ble_eq_true rfl)
  rw [lg_entry_eq]
  generalize (lg_sl ([.ref (Z 0), .long fr, .int sp, .int kq]) ++ List.replicate (6 - (lg_sl ([.ref (Z 0), .long fr, .int sp, .int kq])).length) Slot.unset).toArray = ls at hl ⊢
  have hl : lv_has ls 6 [(0, .ref (Z 0)), (1, .long fr), (3, .int sp), (4, .int kq)] := hl
  refine lv_aload_n hx hb dX3_curve_0 rfl (lv_at hl 0 rfl) ?_
  refine lv_iconst (v := 0) hx hb dX3_curve_1 (by decide) ?_
  refine va_put (D := (dC, dI)) (ci := 4) (v := .int 0) (ty := .int) (C := RX3) (T := TX3) (N := 19) hx hb hts miX3_curve_X3 tyX3 tyX3_ok nmX3 hown hK hP hD hS 0 rfl rfl 0 (by decide) (hts (.fieldLink RX3 40 "SectionFibresModel" "thrown" "I") mbX3_curve_1) (fun _ h9 => h9) rfl (by decide +kernel) rfl rfl (Nat.le_of_ble_eq_true rfl) dX3_curve_2 (fun H locs hP hD hS => ?_)
  have hP : va_P (dC, dI) vwCl (wR cA Z g n 0 hs pe pk fo mo fE fK) H := hP
  have hD : va_D Av (wR cA Z g n 0 hs pe pk fo mo fE fK) := hD
  refine lv_iload_n hx hb dX3_curve_5 rfl (lv_at hl 2 rfl) ?_
  refine lv_iconst (v := 1) hx hb dX3_curve_6 (by decide) ?_
  refine lv_sipush (v := 1000) hx hb dX3_curve_7 (by decide) ?_
  refine rd_i (va_runS (As := [.int sp, .int 1, .int 1000]) (rest := []) ⟨hx, hb, hml, hown, hts⟩ (c_X3_within l dC dI cA H sp 1 1000 1 1000 (by decide) (by decide)) (va_cwS 3 hts gX3_curve_X3_within rfl rfl rfl (by decide +kernel) ⟨Nat.le_of_ble_eq_true rfl, Nat.le_of_ble_eq_true rfl⟩) ⟨rd_bl, rd_pre hK hN⟩ rfl rfl hl.1 rfl (lv_room (Nat.le_of_ble_eq_true rfl)) dX3_curve_10 ⟨Nat.zero_le _, Nat.zero_le _⟩) hS (fun r1 locs hq2 hS => ?_)
  rcases hq2 with ⟨hq2, rfl⟩ | ⟨hq2, rfl⟩
  · have q1 : rg sp 1 1000 := hq2
    refine lv_if_eq (tgt := 27) hx hb dX3_curve_13 (by decide) (fun h9 => absurd h9 (by decide)) (fun _ => ?_)
    refine lv_iload hx hb dX3_curve_16 (lv_at hl 3 rfl) ?_
    refine lv_iconst (v := 0) hx hb dX3_curve_18 (by decide) ?_
    refine lv_bipush (v := 20) hx hb dX3_curve_19 (by decide) ?_
    refine rd_i (va_runS (As := [.int kq, .int 0, .int 20]) (rest := []) ⟨hx, hb, hml, hown, hts⟩ (c_X3_within l dC dI cA H kq 0 20 0 20 (by decide) (by decide)) (va_cwS 3 hts gX3_curve_X3_within rfl rfl rfl (by decide +kernel) ⟨Nat.le_of_ble_eq_true rfl, Nat.le_of_ble_eq_true rfl⟩) ⟨rd_bl, rd_pre hK hN⟩ rfl rfl hl.1 rfl (lv_room (Nat.le_of_ble_eq_true rfl)) dX3_curve_21 ⟨Nat.zero_le _, Nat.zero_le _⟩) hS (fun r3 locs hq4 hS => ?_)
    rcases hq4 with ⟨hq4, rfl⟩ | ⟨hq4, rfl⟩
    · have q2 : rg kq 0 20 := hq4
      refine lv_if_ne (tgt := 31) hx hb dX3_curve_24 (by decide) (fun _ => ?_) (fun h9 => absurd h9 (by decide))
      refine lv_aload_n hx hb dX3_curve_31 rfl (lv_at hl 0 rfl) ?_
      refine lv_lload_n hx hb dX3_curve_32 rfl (lv_at hl 1 rfl) ?_
      refine lv_iload hx hb dX3_curve_33 (lv_at hl 3 rfl) ?_
      refine lv_iload_n hx hb dX3_curve_35 rfl (lv_at hl 2 rfl) ?_
      refine lv_imul hx hb dX3_curve_36 ?_
      refine rd_i (va_runV (As := [.long fr, .int (kq * sp)]) (rest := []) ⟨hx, hb, hml, hown, hts⟩ (c_X3_balanceOf l dC dI cA H Z g n 0 hs pe pk fo mo fE fK hP hg hn fr (kq * sp) (ks_k q2 q1)) (cwV 2 hts gX3_curve_X3_balanceOf rfl rfl rfl (by decide +kernel) ⟨Nat.le_of_ble_eq_true rfl, Nat.le_of_ble_eq_true rfl⟩) ⟨rd_bl, va_recv hK hP (ci := 4) (q0 := 0) rfl rfl, rd_pre hK hN⟩ rfl rfl hl.1 rfl (lv_room (Nat.le_of_ble_eq_true rfl)) dX3_curve_37 ⟨Nat.zero_le _, Nat.zero_le _⟩) hS (fun r5 locs hq6 hS => ?_)
      have hq6 : r5 = blF g n fr (kq * sp) := hq6
      subst hq6
      refine lv_istore (lv' := [(5, .int (blF g n fr (kq * sp))), (0, .ref (Z 0)), (1, .long fr), (3, .int sp), (4, .int kq)]) hx hb dX3_curve_40 hl (by decide) rfl (fun ls hl => ?_)
      refine lv_iload hx hb dX3_curve_42 (lv_at hl 0 rfl) ?_
      refine lv_ldc hx hb hown (hts (.constant RX3 64 (-1000000)) mbX3_curve_2) dX3_curve_44 ?_
      refine lv_icmp_ne (tgt := 55) hx hb dX3_curve_46 (by decide) (fun c1 => ?_) (fun c1 => ?_)
      · refine lv_aload_n hx hb dX3_curve_55 rfl (lv_at hl 1 rfl) ?_
        refine lv_iload hx hb dX3_curve_56 (lv_at hl 0 rfl) ?_
        refine lv_iload hx hb dX3_curve_58 (lv_at hl 4 rfl) ?_
        refine lv_iload_n hx hb dX3_curve_60 rfl (lv_at hl 3 rfl) ?_
        refine lv_imul hx hb dX3_curve_61 ?_
        refine lv_iconst (v := 1) hx hb dX3_curve_62 (by decide) ?_
        refine rd_l (va_runV (As := [.int (blF g n fr (kq * sp)), .int (kq * sp), .int 1]) (rest := []) ⟨hx, hb, hml, hown, hts⟩ (c_X3_sum l dC dI cA H Z g n 0 hs pe pk fo mo fE fK hP hg hn (blF g n fr (kq * sp)) (kq * sp) (bl_rng c1) (ks_k q2 q1) true 1 (by decide)) (cwV 3 hts gX3_curve_X3_sum rfl rfl rfl (by decide +kernel) ⟨Nat.le_of_ble_eq_true rfl, Nat.le_of_ble_eq_true rfl⟩) ⟨rd_bl, va_recv hK hP (ci := 4) (q0 := 0) rfl rfl, rd_pre hK hN⟩ rfl rfl hl.1 rfl (lv_room (Nat.le_of_ble_eq_true rfl)) dX3_curve_63 ⟨Nat.zero_le _, Nat.zero_le _⟩) hS (fun r7 locs hq8 hS => ?_)
        have hq8 : r7 = smF g true (blF g n fr (kq * sp)) (kq * sp) n := hq8
        subst hq8
        exact W.lret (v := (smF g true (blF g n fr (kq * sp)) (kq * sp) n)) hx hb hr (fun t9 ht9 hW9 => ⟨⟨_, ((g, n, hs, pe, pk, fo, mo), 0, fE, fK), rfl, (⟨by unfold curF cvF; rw [if_pos ⟨q1, q2⟩, if_neg c1], rfl, rfl⟩), by dsimp only; rw [ht9]; exact hP⟩, hS.F ht9⟩) hS.2.2 dX3_curve_66
      · refine lv_ldc2 hx hb hown (hts (.constantLong RX3 89 (-4611686018427387904)) mbX3_curve_3) dX3_curve_49 ?_
        refine lv_goto (tgt := 66) hx hb dX3_curve_52 (by decide) ?_
        exact W.lret (v := (-4611686018427387904)) hx hb hr (fun t9 ht9 hW9 => ⟨⟨_, ((g, n, hs, pe, pk, fo, mo), 0, fE, fK), rfl, (⟨by unfold curF cvF; rw [if_pos ⟨q1, q2⟩, if_pos c1], rfl, rfl⟩), by dsimp only; rw [ht9]; exact hP⟩, hS.F ht9⟩) hS.2.2 dX3_curve_66
    · have q2 : ¬ (rg kq 0 20) := hq4
      refine lv_if_ne (tgt := 31) hx hb dX3_curve_24 (by decide) (fun h9 => absurd h9 (by decide)) (fun _ => ?_)
      refine lv_ldc2 hx hb hown (hts (.constantLong RX3 89 (-4611686018427387904)) mbX3_curve_3) dX3_curve_27 ?_
      exact W.lret (v := (-4611686018427387904)) hx hb hr (fun t9 ht9 hW9 => ⟨⟨_, ((g, n, hs, pe, pk, fo, mo), 0, fE, fK), rfl, (⟨by unfold curF; rw [if_neg (fun h9 => q2 h9.2)], rfl, rfl⟩), by dsimp only; rw [ht9]; exact hP⟩, hS.F ht9⟩) hS.2.2 dX3_curve_30
  · have q1 : ¬ (rg sp 1 1000) := hq2
    refine lv_if_eq (tgt := 27) hx hb dX3_curve_13 (by decide) (fun _ => ?_) (fun h9 => absurd h9 (by decide))
    refine lv_ldc2 hx hb hown (hts (.constantLong RX3 89 (-4611686018427387904)) mbX3_curve_3) dX3_curve_27 ?_
    exact W.lret (v := (-4611686018427387904)) hx hb hr (fun t9 ht9 hW9 => ⟨⟨_, ((g, n, hs, pe, pk, fo, mo), 0, fE, fK), rfl, (⟨by unfold curF; rw [if_neg (fun h9 => q1 h9.1)], rfl, rfl⟩), by dsimp only; rw [ht9]; exact hP⟩, hS.F ht9⟩) hS.2.2 dX3_curve_30

set_option maxRecDepth 20000 in
theorem miX3_last_X3 : ∀ w ∈ u_ws RX3 TX3 19, w ∈ wsX3_last := by decide +kernel
set_option maxRecDepth 20000 in
theorem mbX3_last_1 : (.fieldLink RX3 40 "SectionFibresModel" "thrown" "I" : Cond) ∈ wsX3_last := by decide +kernel
set_option maxRecDepth 20000 in
theorem mbX3_last_2 : (.constant RX3 64 (-1000000) : Cond) ∈ wsX3_last := by decide +kernel
set_option maxHeartbeats 4000000 in
set_option maxRecDepth 100000 in
theorem c_X3_last (l : Launch) (dC : Nat → ClassId) (dI : Nat → Nat → Nat) (cA : ClassId) (H : Heap) (Z : Nat → Nat) (g : Gg) (n : Nat) (th hs pe pk : Int32) (fo mo : Int64) (fE fK : Int32) (hP : va_P (dC, dI) vwCl (wR cA Z g n th hs pe pk fo mo fE fK) H) (hD : va_D (fun _ => True) (wR cA Z g n th hs pe pk fo mo fE fK)) (hg : InvG g) (hn : n ≤ 41) (fr : Int64) (sp : Int32) : Met l yX3_last wsX3_last ({ frames := 4, cells := 0, slots := 0, locals := 102 }) (rd_P [.ref (Z 0), .long fr, .int sp] H (dC, dI) vwCl [(cA, .int)]) (va_Qi (fun (r : Int32) (u : Su) => r = lasF g n fr sp ∧ u.1 = (g, n, hs, pe, pk, fo, mo) ∧ u.2.1 = 0) (fun u t => bR dC dI cA Z u t.heap) (va_A (wR cA Z g n th hs pe pk fo mo fE fK) H.size)) 0 0 (va_A (wR cA Z g n th hs pe pk fo mo fE fK) H.size) := by
  refine Met.ofW (cc := cX3_last) (maxL := 6) (ret := (some .int)) (by decide) rfl ?_
  intro p e s m args below meth c s₁ B hml hv
  obtain ⟨rfl, hH, hK, hN⟩ := hv
  subst hH
  have hx := B.exec
  have hb := B.bytes
  have hr := B.returns
  have hts := atoms_spec (ws := wsX3_last) B.pre
  have hown : s.vm.findClass RX3 = some m.cls := findClass_of_methodNamed B.named
  have hlocks := B.notSynchronized
  have hD := hD.self (sz := s.heap.size)
  generalize hAe : va_A (wR cA Z g n th hs pe pk fo mo fE fK) s.heap.size = Av at hD ⊢
  have hA : ∀ q : Nat, s.heap.size ≤ q → Av q := fun q h => by rw [← hAe]; exact Or.inr h
  have hS : va_S Av s.heap s.heap [] := va_S.rf
  have hl := lv_entry ([.ref (Z 0), .long fr, .int sp]) (n := 6) (Nat.le_of_ble_eq_true rfl)
  rw [lg_entry_eq]
  generalize (lg_sl ([.ref (Z 0), .long fr, .int sp]) ++ List.replicate (6 - (lg_sl ([.ref (Z 0), .long fr, .int sp])).length) Slot.unset).toArray = ls at hl ⊢
  have hl : lv_has ls 6 [(0, .ref (Z 0)), (1, .long fr), (3, .int sp)] := hl
  refine lv_aload_n hx hb dX3_last_0 rfl (lv_at hl 0 rfl) ?_
  refine lv_iconst (v := 0) hx hb dX3_last_1 (by decide) ?_
  refine va_put (D := (dC, dI)) (ci := 4) (v := .int 0) (ty := .int) (C := RX3) (T := TX3) (N := 19) hx hb hts miX3_last_X3 tyX3 tyX3_ok nmX3 hown hK hP hD hS 0 rfl rfl 0 (by decide) (hts (.fieldLink RX3 40 "SectionFibresModel" "thrown" "I") mbX3_last_1) (fun _ h9 => h9) rfl (by decide +kernel) rfl rfl (Nat.le_of_ble_eq_true rfl) dX3_last_2 (fun H locs hP hD hS => ?_)
  have hP : va_P (dC, dI) vwCl (wR cA Z g n 0 hs pe pk fo mo fE fK) H := hP
  have hD : va_D Av (wR cA Z g n 0 hs pe pk fo mo fE fK) := hD
  refine lv_iconst (v := 0) hx hb dX3_last_5 (by decide) ?_
  refine tp_i (v := nI 0) (rfl) ?_
  refine lv_istore (lv' := [(4, .int (nI 0)), (0, .ref (Z 0)), (1, .long fr), (3, .int sp)]) hx hb dX3_last_6 hl (by decide) rfl (fun ls hl => ?_)
  have lp : ∀ (z : Nat) (i : Nat) (locs : List Loc) (ls : Array Slot), i ≤ 21 → 22 ≤ i + z → (rg sp 1 1000 → lasF g n fr sp = laF g n fr sp (21 - i) i) → va_S Av s.heap H locs → lv_has ls 6 [(0, .ref (Z 0)), (1, .long fr), (3, .int sp), (4, .int (nI i))] → W p l e (headSpec wsX3_last ({ frames := 4, cells := 0, slots := 0, locals := 102 })).room s m ([.ref (Z 0), .long fr, .int sp]).toArray below meth c H locs 0 0 (MQ below (va_Qi (fun (r : Int32) (u : Su) => r = lasF g n fr sp ∧ u.1 = (g, n, hs, pe, pk, fo, mo) ∧ u.2.1 = 0) (fun u t => bR dC dI cA Z u t.heap) Av) ([.ref (Z 0), .long fr, .int sp]).toArray s 0 0 Av) (F0 m 8 ls []) := by
    intro z
    induction z with
    | zero =>
      intro i locs ls h1 h2 hv hS hl
      exact absurd h2 (by omega)
    | succ z ih =>
      intro i locs ls h1 h2 hv hS hl
      refine lv_iload hx hb dX3_last_8 (lv_at hl 3 rfl) ?_
      refine lv_bipush (v := 21) hx hb dX3_last_10 (by decide) ?_
      refine tp_i (v := nI 21) (rfl) ?_
      refine lv_icmp_ge (tgt := 68) hx hb dX3_last_12 (by decide) (fun c2 => ?_) (fun c2 => ?_)
      · have hi : i = 21 := by have h9 := (nI_leI (by omega) (by omega)).mp c2; omega
        refine lv_iconst (v := (-1)) hx hb dX3_last_68 (by decide) ?_
        exact W.iret (v := (-1)) hx hb hr (fun t9 ht9 hW9 => ⟨⟨_, ((g, n, hs, pe, pk, fo, mo), 0, fE, fK), rfl, (⟨by by_cases h9 : rg sp 1 1000; (rw [hv h9, hi]; rfl); (unfold lasF; rw [if_neg h9]), rfl, rfl⟩), by dsimp only; rw [ht9]; exact hP⟩, hS.F ht9⟩) hS.2.2 dX3_last_69
      · have hi : i < 21 := by rcases Nat.lt_or_ge i 21 with h9 | h9; exact h9; exact absurd (nI_le h9 (by omega)) c2
        refine lv_iload_n hx hb dX3_last_15 rfl (lv_at hl 2 rfl) ?_
        refine lv_iconst (v := 1) hx hb dX3_last_16 (by decide) ?_
        refine lv_sipush (v := 1000) hx hb dX3_last_17 (by decide) ?_
        refine rd_i (va_runS (As := [.int sp, .int 1, .int 1000]) (rest := []) ⟨hx, hb, hml, hown, hts⟩ (c_X3_within l dC dI cA H sp 1 1000 1 1000 (by decide) (by decide)) (va_cwS 3 hts gX3_last_X3_within rfl rfl rfl (by decide +kernel) ⟨Nat.le_of_ble_eq_true rfl, Nat.le_of_ble_eq_true rfl⟩) ⟨rd_bl, rd_pre hK hN⟩ rfl rfl hl.1 rfl (lv_room (Nat.le_of_ble_eq_true rfl)) dX3_last_20 ⟨Nat.zero_le _, Nat.zero_le _⟩) hS (fun r1 locs hq2 hS => ?_)
        rcases hq2 with ⟨hq2, rfl⟩ | ⟨hq2, rfl⟩
        · have q1 : rg sp 1 1000 := hq2
          refine lv_if_eq (tgt := 68) hx hb dX3_last_23 (by decide) (fun h9 => absurd h9 (by decide)) (fun _ => ?_)
          refine lv_aload_n hx hb dX3_last_26 rfl (lv_at hl 0 rfl) ?_
          refine lv_lload_n hx hb dX3_last_27 rfl (lv_at hl 1 rfl) ?_
          refine lv_iload hx hb dX3_last_28 (lv_at hl 3 rfl) ?_
          refine lv_iload_n hx hb dX3_last_30 rfl (lv_at hl 2 rfl) ?_
          refine lv_imul hx hb dX3_last_31 ?_
          refine rd_i (va_runV (As := [.long fr, .int ((nI i) * sp)]) (rest := []) ⟨hx, hb, hml, hown, hts⟩ (c_X3_balanceOf l dC dI cA H Z g n 0 hs pe pk fo mo fE fK hP hg hn fr ((nI i) * sp) (nis_k (by omega) q1)) (cwV 2 hts gX3_last_X3_balanceOf rfl rfl rfl (by decide +kernel) ⟨Nat.le_of_ble_eq_true rfl, Nat.le_of_ble_eq_true rfl⟩) ⟨rd_bl, va_recv hK hP (ci := 4) (q0 := 0) rfl rfl, rd_pre hK hN⟩ rfl rfl hl.1 rfl (lv_room (Nat.le_of_ble_eq_true rfl)) dX3_last_32 ⟨Nat.zero_le _, Nat.zero_le _⟩) hS (fun r3 locs hq4 hS => ?_)
          have hq4 : r3 = blF g n fr ((nI i) * sp) := hq4
          subst hq4
          refine lv_istore (lv' := [(5, .int (blF g n fr ((nI i) * sp))), (0, .ref (Z 0)), (1, .long fr), (3, .int sp), (4, .int (nI i))]) hx hb dX3_last_35 hl (by decide) rfl (fun ls hl => ?_)
          refine lv_iload hx hb dX3_last_37 (lv_at hl 0 rfl) ?_
          refine lv_ldc hx hb hown (hts (.constant RX3 64 (-1000000)) mbX3_last_2) dX3_last_39 ?_
          refine lv_icmp_ne (tgt := 46) hx hb dX3_last_41 (by decide) (fun c3 => ?_) (fun c3 => ?_)
          · refine lv_aload_n hx hb dX3_last_46 rfl (lv_at hl 1 rfl) ?_
            refine lv_iload hx hb dX3_last_47 (lv_at hl 0 rfl) ?_
            refine lv_iload hx hb dX3_last_49 (lv_at hl 4 rfl) ?_
            refine lv_iload_n hx hb dX3_last_51 rfl (lv_at hl 3 rfl) ?_
            refine lv_imul hx hb dX3_last_52 ?_
            refine rd_i (va_runV (As := [.int (blF g n fr ((nI i) * sp)), .int ((nI i) * sp)]) (rest := []) ⟨hx, hb, hml, hown, hts⟩ (c_X3_firstBeyond l dC dI cA H Z g n 0 hs pe pk fo mo fE fK hP hg hn (blF g n fr ((nI i) * sp)) ((nI i) * sp) (bl_rng c3) (nis_k (by omega) q1)) (cwV 2 hts gX3_last_X3_firstBeyond rfl rfl rfl (by decide +kernel) ⟨Nat.le_of_ble_eq_true rfl, Nat.le_of_ble_eq_true rfl⟩) ⟨rd_bl, va_recv hK hP (ci := 4) (q0 := 0) rfl rfl, rd_pre hK hN⟩ rfl rfl hl.1 rfl (lv_room (Nat.le_of_ble_eq_true rfl)) dX3_last_53 ⟨Nat.zero_le _, Nat.zero_le _⟩) hS (fun r5 locs hq6 hS => ?_)
            have hq6 : r5 = fbF g (blF g n fr ((nI i) * sp)) ((nI i) * sp) n 0 := hq6
            subst hq6
            refine lv_if_lt (tgt := 62) hx hb dX3_last_56 (by decide) (fun c4 => ?_) (fun c4 => ?_)
            · refine lv_iinc (v := nI (i + 1)) (lv' := [(4, .int (nI (i + 1))), (5, .int (blF g n fr ((nI i) * sp))), (0, .ref (Z 0)), (1, .long fr), (3, .int sp)]) hx hb dX3_last_62 hl (k := 4) rfl (nI_1 i) (by decide) rfl (fun ls hl => ?_)
              refine lv_goto (tgt := 8) hx hb dX3_last_65 (by decide) ?_
              exact ih (i + 1) _ _ (by omega) (by omega) (fun _ => by rw [hv q1, show 21 - i = (21 - (i + 1)) + 1 by omega, la_f c3 ((fb_lt hn).mp c4)]) hS (lv_sub hl [2, 3, 4, 0] rfl)
            · refine lv_iload hx hb dX3_last_59 (lv_at hl 4 rfl) ?_
              exact W.iret (v := (nI i)) hx hb hr (fun t9 ht9 hW9 => ⟨⟨_, ((g, n, hs, pe, pk, fo, mo), 0, fE, fK), rfl, (⟨by rw [hv q1, show 21 - i = (21 - (i + 1)) + 1 by omega, la_t c3 (fun h9 => c4 ((fb_lt hn).mpr h9))], rfl, rfl⟩), by dsimp only; rw [ht9]; exact hP⟩, hS.F ht9⟩) hS.2.2 dX3_last_61
          · refine lv_iconst (v := (-1)) hx hb dX3_last_44 (by decide) ?_
            exact W.iret (v := (-1)) hx hb hr (fun t9 ht9 hW9 => ⟨⟨_, ((g, n, hs, pe, pk, fo, mo), 0, fE, fK), rfl, (⟨by rw [hv q1, show 21 - i = (21 - (i + 1)) + 1 by omega, la_0 c3], rfl, rfl⟩), by dsimp only; rw [ht9]; exact hP⟩, hS.F ht9⟩) hS.2.2 dX3_last_45
        · have q1 : ¬ (rg sp 1 1000) := hq2
          refine lv_if_eq (tgt := 68) hx hb dX3_last_23 (by decide) (fun _ => ?_) (fun h9 => absurd h9 (by decide))
          refine lv_iconst (v := (-1)) hx hb dX3_last_68 (by decide) ?_
          exact W.iret (v := (-1)) hx hb hr (fun t9 ht9 hW9 => ⟨⟨_, ((g, n, hs, pe, pk, fo, mo), 0, fE, fK), rfl, (⟨by unfold lasF; rw [if_neg q1], rfl, rfl⟩), by dsimp only; rw [ht9]; exact hP⟩, hS.F ht9⟩) hS.2.2 dX3_last_69
  exact lp 22 0 _ _ (by omega) (by omega) (fun h9 => by unfold lasF; rw [if_pos h9]) hS (lv_sub hl [1, 2, 3, 0] rfl)

set_option maxRecDepth 20000 in
theorem miX3_count_X3 : ∀ w ∈ u_ws RX3 TX3 19, w ∈ wsX3_count := by decide +kernel
set_option maxRecDepth 20000 in
theorem mbX3_count_1 : (.fieldLink RX3 40 "SectionFibresModel" "thrown" "I" : Cond) ∈ wsX3_count := by decide +kernel
set_option maxRecDepth 20000 in
theorem mbX3_count_2 : (.fieldLink RX3 44 "SectionFibresModel" "fibres" "I" : Cond) ∈ wsX3_count := by decide +kernel
set_option maxRecDepth 20000 in
theorem mbX3_count_3 : (.fieldLink RX3 25 "SectionFibresModel" "points" "[I" : Cond) ∈ wsX3_count := by decide +kernel
set_option maxRecDepth 20000 in
theorem mbX3_count_4 : (.fieldLink RX3 7 "SectionFibresModel" "areas" "[I" : Cond) ∈ wsX3_count := by decide +kernel
set_option maxHeartbeats 4000000 in
set_option maxRecDepth 100000 in
theorem c_X3_count (l : Launch) (dC : Nat → ClassId) (dI : Nat → Nat → Nat) (cA : ClassId) (H : Heap) (Z : Nat → Nat) (g : Gg) (n : Nat) (th hs pe pk : Int32) (fo mo : Int64) (fE fK : Int32) (hP : va_P (dC, dI) vwCl (wR cA Z g n th hs pe pk fo mo fE fK) H) (hD : va_D (fun _ => True) (wR cA Z g n th hs pe pk fo mo fE fK)) (hg : InvG g) (hn : n ≤ 41) (wh : Int32) : Met l yX3_count wsX3_count ({ frames := 1, cells := 0, slots := 0, locals := 22 }) (rd_P [.ref (Z 0), .int wh] H (dC, dI) vwCl [(cA, .int)]) (va_Qi (fun (r : Int32) (u : Su) => r = couF g n wh ∧ u.1 = (g, n, hs, pe, pk, fo, mo) ∧ u.2.1 = 0) (fun u t => bR dC dI cA Z u t.heap) (va_A (wR cA Z g n th hs pe pk fo mo fE fK) H.size)) 0 0 (va_A (wR cA Z g n th hs pe pk fo mo fE fK) H.size) := by
  refine Met.ofW (cc := cX3_count) (maxL := 4) (ret := (some .int)) (by decide) rfl ?_
  intro p e s m args below meth c s₁ B hml hv
  obtain ⟨rfl, hH, hK, hN⟩ := hv
  subst hH
  have hx := B.exec
  have hb := B.bytes
  have hr := B.returns
  have hts := atoms_spec (ws := wsX3_count) B.pre
  have hown : s.vm.findClass RX3 = some m.cls := findClass_of_methodNamed B.named
  have hlocks := B.notSynchronized
  have hD := hD.self (sz := s.heap.size)
  generalize hAe : va_A (wR cA Z g n th hs pe pk fo mo fE fK) s.heap.size = Av at hD ⊢
  have hA : ∀ q : Nat, s.heap.size ≤ q → Av q := fun q h => by rw [← hAe]; exact Or.inr h
  have hS : va_S Av s.heap s.heap [] := va_S.rf
  have hl := lv_entry ([.ref (Z 0), .int wh]) (n := 4) (Nat.le_of_ble_eq_true rfl)
  rw [lg_entry_eq]
  generalize (lg_sl ([.ref (Z 0), .int wh]) ++ List.replicate (4 - (lg_sl ([.ref (Z 0), .int wh])).length) Slot.unset).toArray = ls at hl ⊢
  have hl : lv_has ls 4 [(0, .ref (Z 0)), (1, .int wh)] := hl
  refine lv_aload_n hx hb dX3_count_0 rfl (lv_at hl 0 rfl) ?_
  refine lv_iconst (v := 0) hx hb dX3_count_1 (by decide) ?_
  refine va_put (D := (dC, dI)) (ci := 4) (v := .int 0) (ty := .int) (C := RX3) (T := TX3) (N := 19) hx hb hts miX3_count_X3 tyX3 tyX3_ok nmX3 hown hK hP hD hS 0 rfl rfl 0 (by decide) (hts (.fieldLink RX3 40 "SectionFibresModel" "thrown" "I") mbX3_count_1) (fun _ h9 => h9) rfl (by decide +kernel) rfl rfl (Nat.le_of_ble_eq_true rfl) dX3_count_2 (fun H locs hP hD hS => ?_)
  have hP : va_P (dC, dI) vwCl (wR cA Z g n 0 hs pe pk fo mo fE fK) H := hP
  have hD : va_D Av (wR cA Z g n 0 hs pe pk fo mo fE fK) := hD
  refine lv_iload_n hx hb dX3_count_5 rfl (lv_at hl 1 rfl) ?_
  refine lv_iconst (v := 0) hx hb dX3_count_6 (by decide) ?_
  refine lv_iconst (v := 5) hx hb dX3_count_7 (by decide) ?_
  refine rd_i (va_runS (As := [.int wh, .int 0, .int 5]) (rest := []) ⟨hx, hb, hml, hown, hts⟩ (c_X3_within l dC dI cA H wh 0 5 0 5 (by decide) (by decide)) (va_cwS 3 hts gX3_count_X3_within rfl rfl rfl (by decide +kernel) ⟨Nat.le_of_ble_eq_true rfl, Nat.le_of_ble_eq_true rfl⟩) ⟨rd_bl, rd_pre hK hN⟩ rfl rfl hl.1 rfl (lv_room (Nat.le_of_ble_eq_true rfl)) dX3_count_8 ⟨Nat.zero_le _, Nat.zero_le _⟩) hS (fun r1 locs hq2 hS => ?_)
  rcases hq2 with ⟨hq2, rfl⟩ | ⟨hq2, rfl⟩
  · have q1 : rg wh 0 5 := hq2
    refine lv_if_ne (tgt := 16) hx hb dX3_count_11 (by decide) (fun _ => ?_) (fun h9 => absurd h9 (by decide))
    refine lv_iconst (v := 0) hx hb dX3_count_16 (by decide) ?_
    refine lv_istore_n (lv' := [(2, .int 0), (0, .ref (Z 0)), (1, .int wh)]) hx hb dX3_count_17 rfl hl (by decide) rfl (fun ls hl => ?_)
    refine lv_iconst (v := 0) hx hb dX3_count_18 (by decide) ?_
    refine tp_i (v := nI 0) (rfl) ?_
    refine lv_istore_n (lv' := [(3, .int (nI 0)), (2, .int 0), (0, .ref (Z 0)), (1, .int wh)]) hx hb dX3_count_19 rfl hl (by decide) rfl (fun ls hl => ?_)
    have lp : ∀ (z : Nat) (i : Nat) (locs : List Loc) (ls : Array Slot), i ≤ n → n + 1 ≤ i + z → va_S Av s.heap H locs → lv_has ls 4 [(0, .ref (Z 0)), (1, .int wh), (2, .int (arF g i)), (3, .int (nI i))] → W p l e (headSpec wsX3_count ({ frames := 1, cells := 0, slots := 0, locals := 22 })).room s m ([.ref (Z 0), .int wh]).toArray below meth c H locs 0 0 (MQ below (va_Qi (fun (r : Int32) (u : Su) => r = couF g n wh ∧ u.1 = (g, n, hs, pe, pk, fo, mo) ∧ u.2.1 = 0) (fun u t => bR dC dI cA Z u t.heap) Av) ([.ref (Z 0), .int wh]).toArray s 0 0 Av) (F0 m 20 ls []) := by
      intro z
      induction z with
      | zero =>
        intro i locs ls h1 h2 hS hl
        exact absurd h2 (by omega)
      | succ z ih =>
        intro i locs ls h1 h2 hS hl
        refine lv_iload_n hx hb dX3_count_20 rfl (lv_at hl 3 rfl) ?_
        refine lv_aload_n hx hb dX3_count_21 rfl (lv_at hl 0 rfl) ?_
        refine va_get (D := (dC, dI)) (ci := 4) (v := .int (nI n)) (C := RX3) (T := TX3) (N := 19) hx hb hts miX3_count_X3 hown hK hP 0 rfl rfl 1 (by decide) (hts (.fieldLink RX3 44 "SectionFibresModel" "fibres" "I") mbX3_count_2) (fun _ h9 => h9) rfl dX3_count_22 ?_
        refine lv_icmp_ge (tgt := 43) hx hb dX3_count_25 (by decide) (fun c1 => ?_) (fun c1 => ?_)
        · have hi : i = n := by have h9 := (nI_leI (by omega) (by omega)).mp c1; omega
          refine lv_iload_n hx hb dX3_count_43 rfl (lv_at hl 1 rfl) ?_
          refine lv_if_ne (tgt := 54) hx hb dX3_count_44 (by decide) (fun c2 => ?_) (fun c2 => ?_)
          · refine lv_iload_n hx hb dX3_count_54 rfl (lv_at hl 1 rfl) ?_
            refine lv_iconst (v := 1) hx hb dX3_count_55 (by decide) ?_
            refine lv_icmp_ne (tgt := 63) hx hb dX3_count_56 (by decide) (fun c3 => ?_) (fun c3 => ?_)
            · have q5 := ((rg05.mp q1).resolve_left c2).resolve_left c3
              refine lv_aload_n hx hb dX3_count_63 rfl (lv_at hl 0 rfl) ?_
              refine va_get (D := (dC, dI)) (ci := 4) (v := .ref (Z 6)) (C := RX3) (T := TX3) (N := 19) hx hb hts miX3_count_X3 hown hK hP 0 rfl rfl 7 (by decide) (hts (.fieldLink RX3 25 "SectionFibresModel" "points" "[I") mbX3_count_3) (fun _ h9 => h9) rfl dX3_count_64 ?_
              refine lv_iload_n hx hb dX3_count_67 rfl (lv_at hl 1 rfl) ?_
              refine lv_iconst (v := 2) hx hb dX3_count_68 (by decide) ?_
              refine lv_isub hx hb dX3_count_69 ?_
              refine tp_i (v := nI (wh.toNatClampNeg - 2)) (wh_2 q5) ?_
              refine ialn hx hb hK hP 6 0 rfl rfl (wh.toNatClampNeg - 2) (rfl) (by have h9 := q5.1; have h8 := q5.2; have h7 : wh.toInt.toNat = wh.toNatClampNeg := rfl; omega) (by decide) dX3_count_70 ?_
              exact W.iret (v := (g 7 (wh.toNatClampNeg - 2))) hx hb hr (fun t9 ht9 hW9 => ⟨⟨_, ((g, n, hs, pe, pk, fo, mo), 0, fE, fK), rfl, (⟨by unfold couF; rw [if_neg c2, if_neg c3, if_pos q5], rfl, rfl⟩), by dsimp only; rw [ht9]; exact hP⟩, hS.F ht9⟩) hS.2.2 dX3_count_71
            · refine lv_iload_n hx hb dX3_count_59 rfl (lv_at hl 2 rfl) ?_
              refine lv_goto (tgt := 71) hx hb dX3_count_60 (by decide) ?_
              exact W.iret (v := (arF g i)) hx hb hr (fun t9 ht9 hW9 => ⟨⟨_, ((g, n, hs, pe, pk, fo, mo), 0, fE, fK), rfl, (⟨by unfold couF; rw [if_neg c2, if_pos c3, hi], rfl, rfl⟩), by dsimp only; rw [ht9]; exact hP⟩, hS.F ht9⟩) hS.2.2 dX3_count_71
          · refine lv_aload_n hx hb dX3_count_47 rfl (lv_at hl 0 rfl) ?_
            refine va_get (D := (dC, dI)) (ci := 4) (v := .int (nI n)) (C := RX3) (T := TX3) (N := 19) hx hb hts miX3_count_X3 hown hK hP 0 rfl rfl 1 (by decide) (hts (.fieldLink RX3 44 "SectionFibresModel" "fibres" "I") mbX3_count_2) (fun _ h9 => h9) rfl dX3_count_48 ?_
            refine lv_goto (tgt := 71) hx hb dX3_count_51 (by decide) ?_
            exact W.iret (v := (nI n)) hx hb hr (fun t9 ht9 hW9 => ⟨⟨_, ((g, n, hs, pe, pk, fo, mo), 0, fE, fK), rfl, (⟨by unfold couF; rw [if_pos c2], rfl, rfl⟩), by dsimp only; rw [ht9]; exact hP⟩, hS.F ht9⟩) hS.2.2 dX3_count_71
        · have hi : i < n := by rcases Nat.lt_or_ge i n with h9 | h9; exact h9; exact absurd (nI_le h9 (by omega)) c1
          refine lv_iload_n hx hb dX3_count_28 rfl (lv_at hl 2 rfl) ?_
          refine lv_aload_n hx hb dX3_count_29 rfl (lv_at hl 0 rfl) ?_
          refine va_get (D := (dC, dI)) (ci := 4) (v := .ref (Z 1)) (C := RX3) (T := TX3) (N := 19) hx hb hts miX3_count_X3 hown hK hP 0 rfl rfl 2 (by decide) (hts (.fieldLink RX3 7 "SectionFibresModel" "areas" "[I") mbX3_count_4) (fun _ h9 => h9) rfl dX3_count_30 ?_
          refine lv_iload_n hx hb dX3_count_33 rfl (lv_at hl 3 rfl) ?_
          refine ialn hx hb hK hP 1 0 rfl rfl i (rfl) (by omega) (by decide) dX3_count_34 ?_
          refine lv_iadd hx hb dX3_count_35 ?_
          refine tp_i (v := arF g (i + 1)) (rfl) ?_
          refine lv_istore_n (lv' := [(2, .int (arF g (i + 1))), (0, .ref (Z 0)), (1, .int wh), (3, .int (nI i))]) hx hb dX3_count_36 rfl hl (by decide) rfl (fun ls hl => ?_)
          refine lv_iinc (v := nI (i + 1)) (lv' := [(3, .int (nI (i + 1))), (2, .int (arF g (i + 1))), (0, .ref (Z 0)), (1, .int wh)]) hx hb dX3_count_37 hl (k := 3) rfl (nI_1 i) (by decide) rfl (fun ls hl => ?_)
          refine lv_goto (tgt := 20) hx hb dX3_count_40 (by decide) ?_
          exact ih (i + 1) _ _ (by omega) (by omega) hS (lv_sub hl [2, 3, 1, 0] rfl)
    exact lp (n + 1) 0 _ _ (Nat.zero_le _) (by omega) hS (lv_sub hl [2, 3, 1, 0] rfl)
  · have q1 : ¬ (rg wh 0 5) := hq2
    refine lv_if_ne (tgt := 16) hx hb dX3_count_11 (by decide) (fun h9 => absurd h9 (by decide)) (fun _ => ?_)
    refine lv_iconst (v := (-1)) hx hb dX3_count_14 (by decide) ?_
    exact W.iret (v := (-1)) hx hb hr (fun t9 ht9 hW9 => ⟨⟨_, ((g, n, hs, pe, pk, fo, mo), 0, fE, fK), rfl, (⟨by unfold couF; rw [if_neg (fun h9 => q1 (rg05.mpr (Or.inl h9))), if_neg (fun h9 => q1 (rg05.mpr (Or.inr (Or.inl h9)))), if_neg (fun h9 => q1 (rg05.mpr (Or.inr (Or.inr h9))))], rfl, rfl⟩), by dsimp only; rw [ht9]; exact hP⟩, hS.F ht9⟩) hS.2.2 dX3_count_15
