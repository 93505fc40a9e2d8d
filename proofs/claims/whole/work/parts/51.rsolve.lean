set_option maxRecDepth 20000 in
theorem miX3_solve_X3 : ∀ w ∈ u_ws RX3 TX3 19, w ∈ wsX3_solve := by decide +kernel
set_option maxRecDepth 20000 in
theorem mbX3_solve_1 : (.fieldLink RX3 95 "SectionFibresModel" "foundK" "I" : Cond) ∈ wsX3_solve := by decide +kernel
set_option maxRecDepth 20000 in
theorem mbX3_solve_2 : (.fieldLink RX3 98 "SectionFibresModel" "foundE" "I" : Cond) ∈ wsX3_solve := by decide +kernel
set_option maxRecDepth 20000 in
theorem mbX3_solve_3 : (.constant RX3 64 (-1000000) : Cond) ∈ wsX3_solve := by decide +kernel
set_option maxHeartbeats 4000000 in
set_option maxRecDepth 100000 in
theorem c_X3_solve (l : Launch) (dC : Nat → ClassId) (dI : Nat → Nat → Nat) (cA : ClassId) (H : Heap) (Z : Nat → Nat) (g : Gg) (n : Nat) (th hs pe pk : Int32) (fo mo : Int64) (fE fK : Int32) (hP : va_P (dC, dI) vwCl (wR cA Z g n th hs pe pk fo mo fE fK) H) (hD : va_D (fun _ => True) (wR cA Z g n th hs pe pk fo mo fE fK)) (hg : InvG g) (hn : n ≤ 41) (fr mv : Int64) : Met l yX3_solve wsX3_solve ({ frames := 4, cells := 0, slots := 0, locals := 102 }) (rd_P [.ref (Z 0), .long fr, .long mv] H (dC, dI) vwCl [(cA, .int)]) (va_Qi (fun (r : Int32) (u : Su) => r = (slF g n fr mv).1 ∧ u.1 = (g, n, hs, pe, pk, fo, mo) ∧ u.2.1 = th ∧ (r = 0 → u.2.2.1 = blF g n fr (iI (slF g n fr mv).2) ∧ u.2.2.2 = iI (slF g n fr mv).2)) (fun u t => bR dC dI cA Z u t.heap) (va_A (wR cA Z g n th hs pe pk fo mo fE fK) H.size)) 0 0 (va_A (wR cA Z g n th hs pe pk fo mo fE fK) H.size) := by
  refine Met.ofW (cc := cX3_solve) (maxL := 9) (ret := (some .int)) (by decide) rfl ?_
  intro p e s m args below meth c s₁ B hml hv
  obtain ⟨rfl, hH, hK, hN⟩ := hv
  subst hH
  have hx := B.exec
  have hb := B.bytes
  have hr := B.returns
  have hts := atoms_spec (ws := wsX3_solve) B.pre
  have hown : s.vm.findClass RX3 = some m.cls := findClass_of_methodNamed B.named
  have hlocks := B.notSynchronized
  have hD := hD.self (sz := s.heap.size)
  generalize hAe : va_A (wR cA Z g n th hs pe pk fo mo fE fK) s.heap.size = Av at hD ⊢
  have hA : ∀ q : Nat, s.heap.size ≤ q → Av q := fun q h => by rw [← hAe]; exact Or.inr h
  have hS : va_S Av s.heap s.heap [] := va_S.rf
  have hl := lv_entry ([.ref (Z 0), .long fr, .long mv]) (n := 9) (Nat.le_of_ble_eq_true rfl)
  rw [lg_entry_eq]
  generalize (lg_sl ([.ref (Z 0), .long fr, .long mv]) ++ List.replicate (9 - (lg_sl ([.ref (Z 0), .long fr, .long mv])).length) Slot.unset).toArray = ls at hl ⊢
  have hl : lv_has ls 9 [(0, .ref (Z 0)), (1, .long fr), (3, .long mv)] := hl
  refine lv_sipush (v := (-20000)) hx hb dX3_solve_0 (by decide) ?_
  refine tp_i (v := iI (-20000)) (by decide) ?_
  refine lv_istore (lv' := [(5, .int (iI (-20000))), (0, .ref (Z 0)), (1, .long fr), (3, .long mv)]) hx hb dX3_solve_3 hl (by decide) rfl (fun ls hl => ?_)
  refine lv_sipush (v := 20000) hx hb dX3_solve_5 (by decide) ?_
  refine tp_i (v := iI 20000) (by decide) ?_
  refine lv_istore (lv' := [(6, .int (iI 20000)), (5, .int (iI (-20000))), (0, .ref (Z 0)), (1, .long fr), (3, .long mv)]) hx hb dX3_solve_8 hl (by decide) rfl (fun ls hl => ?_)
  have lp : ∀ (z : Nat) (a : Int) (b : Int) (u : Nat) (locs : List Loc) (ls : Array Slot), -20000 ≤ a → a ≤ 20000 → -20000 ≤ b → b ≤ 20000 → a ≤ b → b - a < z → b - a < 2 ^ u → slF g n fr mv = soF g n fr mv u a b → va_S Av s.heap s.heap locs → lv_has ls 9 [(0, .ref (Z 0)), (1, .long fr), (3, .long mv), (5, .int (iI a)), (6, .int (iI b))] → W p l e (headSpec wsX3_solve ({ frames := 4, cells := 0, slots := 0, locals := 102 })).room s m ([.ref (Z 0), .long fr, .long mv]).toArray below meth c s.heap locs 0 0 (MQ below (va_Qi (fun (r : Int32) (u : Su) => r = (slF g n fr mv).1 ∧ u.1 = (g, n, hs, pe, pk, fo, mo) ∧ u.2.1 = th ∧ (r = 0 → u.2.2.1 = blF g n fr (iI (slF g n fr mv).2) ∧ u.2.2.2 = iI (slF g n fr mv).2)) (fun u t => bR dC dI cA Z u t.heap) Av) ([.ref (Z 0), .long fr, .long mv]).toArray s 0 0 Av) (F0 m 10 ls []) := by
    intro z
    induction z with
    | zero =>
      intro a b u locs ls a1 a2 b1 b2 h1 h2 h3 hv hS hl
      exact absurd h2 (by omega)
    | succ z ih =>
      intro a b u locs ls a1 a2 b1 b2 h1 h2 h3 hv hS hl
      refine lv_iload hx hb dX3_solve_10 (lv_at hl 3 rfl) ?_
      refine lv_iload hx hb dX3_solve_12 (lv_at hl 4 rfl) ?_
      refine lv_icmp_ge (tgt := 77) hx hb dX3_solve_14 (by decide) (fun c3 => ?_) (fun c3 => ?_)
      · have hab : ¬ a < b := by have h9 := (iI_le (by omega) (by omega) (by omega) (by omega)).mp c3; omega
        have hv : slF g n fr mv = soE g n fr mv a := by rw [hv, so_end hab]
        refine lv_aload_n hx hb dX3_solve_77 rfl (lv_at hl 0 rfl) ?_
        refine lv_iload hx hb dX3_solve_78 (lv_at hl 3 rfl) ?_
        refine va_put (D := (dC, dI)) (ci := 4) (v := .int (iI a)) (ty := .int) (C := RX3) (T := TX3) (N := 19) hx hb hts miX3_solve_X3 tyX3 tyX3_ok nmX3 hown hK hP hD hS 0 rfl rfl 18 (by decide) (hts (.fieldLink RX3 95 "SectionFibresModel" "foundK" "I") mbX3_solve_1) (fun _ h9 => h9) rfl (by decide +kernel) rfl rfl (Nat.le_of_ble_eq_true rfl) dX3_solve_80 (fun H locs hP hD hS => ?_)
        have hP : va_P (dC, dI) vwCl (wR cA Z g n th hs pe pk fo mo fE (iI a)) H := hP
        have hD : va_D Av (wR cA Z g n th hs pe pk fo mo fE (iI a)) := hD
        refine lv_aload_n hx hb dX3_solve_83 rfl (lv_at hl 0 rfl) ?_
        refine lv_aload_n hx hb dX3_solve_84 rfl (lv_at hl 0 rfl) ?_
        refine lv_lload_n hx hb dX3_solve_85 rfl (lv_at hl 1 rfl) ?_
        refine lv_iload hx hb dX3_solve_86 (lv_at hl 3 rfl) ?_
        refine rd_i (va_runV (As := [.long fr, .int (iI a)]) (rest := [.ref (Z 0)]) ⟨hx, hb, hml, hown, hts⟩ (c_X3_balanceOf l dC dI cA H Z g n th hs pe pk fo mo fE (iI a) hP hg hn fr (iI a) (rgI (by omega) (by omega))) (cwV 2 hts gX3_solve_X3_balanceOf rfl rfl rfl (by decide +kernel) ⟨Nat.le_of_ble_eq_true rfl, Nat.le_of_ble_eq_true rfl⟩) ⟨rd_bl, va_recv hK hP (ci := 4) (q0 := 0) rfl rfl, rd_pre hK hN⟩ rfl rfl hl.1 rfl (lv_room (Nat.le_of_ble_eq_true rfl)) dX3_solve_88 ⟨Nat.zero_le _, Nat.zero_le _⟩) hS (fun r1 locs hq2 hS => ?_)
        have hq2 : r1 = blF g n fr (iI a) := hq2
        subst hq2
        refine va_put (D := (dC, dI)) (ci := 4) (v := .int (blF g n fr (iI a))) (ty := .int) (C := RX3) (T := TX3) (N := 19) hx hb hts miX3_solve_X3 tyX3 tyX3_ok nmX3 hown hK hP hD hS 0 rfl rfl 17 (by decide) (hts (.fieldLink RX3 98 "SectionFibresModel" "foundE" "I") mbX3_solve_2) (fun _ h9 => h9) rfl (by decide +kernel) rfl rfl (Nat.le_of_ble_eq_true rfl) dX3_solve_91 (fun H locs hP hD hS => ?_)
        have hP : va_P (dC, dI) vwCl (wR cA Z g n th hs pe pk fo mo (blF g n fr (iI a)) (iI a)) H := hP
        have hD : va_D Av (wR cA Z g n th hs pe pk fo mo (blF g n fr (iI a)) (iI a)) := hD
        refine lv_aload_n hx hb dX3_solve_94 rfl (lv_at hl 0 rfl) ?_
        refine va_get (D := (dC, dI)) (ci := 4) (v := .int (blF g n fr (iI a))) (C := RX3) (T := TX3) (N := 19) hx hb hts miX3_solve_X3 hown hK hP 0 rfl rfl 17 (by decide) (hts (.fieldLink RX3 98 "SectionFibresModel" "foundE" "I") mbX3_solve_2) (fun _ h9 => h9) rfl dX3_solve_95 ?_
        refine lv_ldc hx hb hown (hts (.constant RX3 64 (-1000000)) mbX3_solve_3) dX3_solve_98 ?_
        refine lv_icmp_ne (tgt := 107) hx hb dX3_solve_100 (by decide) (fun c6 => ?_) (fun c6 => ?_)
        · refine lv_aload_n hx hb dX3_solve_107 rfl (lv_at hl 0 rfl) ?_
          refine lv_aload_n hx hb dX3_solve_108 rfl (lv_at hl 0 rfl) ?_
          refine va_get (D := (dC, dI)) (ci := 4) (v := .int (blF g n fr (iI a))) (C := RX3) (T := TX3) (N := 19) hx hb hts miX3_solve_X3 hown hK hP 0 rfl rfl 17 (by decide) (hts (.fieldLink RX3 98 "SectionFibresModel" "foundE" "I") mbX3_solve_2) (fun _ h9 => h9) rfl dX3_solve_109 ?_
          refine lv_aload_n hx hb dX3_solve_112 rfl (lv_at hl 0 rfl) ?_
          refine va_get (D := (dC, dI)) (ci := 4) (v := .int (iI a)) (C := RX3) (T := TX3) (N := 19) hx hb hts miX3_solve_X3 hown hK hP 0 rfl rfl 18 (by decide) (hts (.fieldLink RX3 95 "SectionFibresModel" "foundK" "I") mbX3_solve_1) (fun _ h9 => h9) rfl dX3_solve_113 ?_
          refine lv_iconst (v := 1) hx hb dX3_solve_116 (by decide) ?_
          refine rd_l (va_runV (As := [.int (blF g n fr (iI a)), .int (iI a), .int 1]) (rest := []) ⟨hx, hb, hml, hown, hts⟩ (c_X3_sum l dC dI cA H Z g n th hs pe pk fo mo (blF g n fr (iI a)) (iI a) hP hg hn (blF g n fr (iI a)) (iI a) (bl_rng c6) (rgI (by omega) (by omega)) true 1 (by decide)) (cwV 3 hts gX3_solve_X3_sum rfl rfl rfl (by decide +kernel) ⟨Nat.le_of_ble_eq_true rfl, Nat.le_of_ble_eq_true rfl⟩) ⟨rd_bl, va_recv hK hP (ci := 4) (q0 := 0) rfl rfl, rd_pre hK hN⟩ rfl rfl hl.1 rfl (lv_room (Nat.le_of_ble_eq_true rfl)) dX3_solve_117 ⟨Nat.zero_le _, Nat.zero_le _⟩) hS (fun r3 locs hq4 hS => ?_)
          have hq4 : r3 = smF g true (blF g n fr (iI a)) (iI a) n := hq4
          subst hq4
          refine lv_lload_n hx hb dX3_solve_120 rfl (lv_at hl 2 rfl) ?_
          refine W.lcmp hx hb dX3_solve_121 ?_
          refine lv_if_ge (tgt := 129) hx hb dX3_solve_122 (by decide) (fun c7 => ?_) (fun c7 => ?_)
          · have c7 := (lg_cmp_ge _ _).mp c7
            refine lv_iconst (v := 0) hx hb dX3_solve_129 (by decide) ?_
            exact W.iret (v := 0) hx hb hr (fun t9 ht9 hW9 => ⟨⟨_, ((g, n, hs, pe, pk, fo, mo), th, blF g n fr (iI a), iI a), rfl, (⟨by rw [hv]; unfold soE; rw [if_neg c6, if_neg (le_nlt64 c7)], rfl, rfl, fun _ => by rw [hv]; unfold soE; rw [if_neg c6, if_neg (le_nlt64 c7)]; exact ⟨rfl, rfl⟩⟩), by dsimp only; rw [ht9]; exact hP⟩, hS.F ht9⟩) hS.2.2 dX3_solve_130
          · have c7 := mt (lg_cmp_ge _ _).mpr c7
            refine lv_iconst (v := 2) hx hb dX3_solve_125 (by decide) ?_
            refine lv_goto (tgt := 130) hx hb dX3_solve_126 (by decide) ?_
            exact W.iret (v := 2) hx hb hr (fun t9 ht9 hW9 => ⟨⟨_, ((g, n, hs, pe, pk, fo, mo), th, blF g n fr (iI a), iI a), rfl, (⟨by rw [hv]; unfold soE; rw [if_neg c6, if_pos (nle_lt64 c7)], rfl, rfl, fun h9 => absurd h9 (by decide)⟩), by dsimp only; rw [ht9]; exact hP⟩, hS.F ht9⟩) hS.2.2 dX3_solve_130
        · refine lv_iconst (v := 1) hx hb dX3_solve_103 (by decide) ?_
          refine lv_goto (tgt := 130) hx hb dX3_solve_104 (by decide) ?_
          exact W.iret (v := 1) hx hb hr (fun t9 ht9 hW9 => ⟨⟨_, ((g, n, hs, pe, pk, fo, mo), th, blF g n fr (iI a), iI a), rfl, (⟨by rw [hv]; unfold soE; rw [if_pos c6], rfl, rfl, fun h9 => absurd h9 (by decide)⟩), by dsimp only; rw [ht9]; exact hP⟩, hS.F ht9⟩) hS.2.2 dX3_solve_130
      · have hab : a < b := by rcases Int.lt_or_le a b with h9 | h9; exact h9; exact absurd ((iI_le (by omega) (by omega) (by omega) (by omega)).mpr h9) c3
        have hu : 0 < u := by
          rcases Nat.eq_zero_or_pos u with h9 | h9
          · rw [h9] at h3; have h8 : (2 : Int) ^ 0 = 1 := rfl; omega
          · exact h9
        obtain ⟨v, rfl⟩ : ∃ v, u = v + 1 := ⟨u - 1, by omega⟩
        rw [Int.pow_succ] at h3
        refine lv_iload hx hb dX3_solve_17 (lv_at hl 3 rfl) ?_
        refine lv_iload hx hb dX3_solve_19 (lv_at hl 4 rfl) ?_
        refine lv_iload hx hb dX3_solve_21 (lv_at hl 3 rfl) ?_
        refine lv_isub hx hb dX3_solve_23 ?_
        refine lv_iconst (v := 2) hx hb dX3_solve_24 (by decide) ?_
        refine lv_idiv hx hb dX3_solve_25 (by decide) ?_
        refine lv_iadd hx hb dX3_solve_26 ?_
        refine tp_i (v := iI ((a + b) / 2)) (midR a1 a2 b1 b2 hab) ?_
        refine lv_istore (lv' := [(7, .int (iI ((a + b) / 2))), (0, .ref (Z 0)), (1, .long fr), (3, .long mv), (5, .int (iI a)), (6, .int (iI b))]) hx hb dX3_solve_27 hl (by decide) rfl (fun ls hl => ?_)
        refine lv_aload_n hx hb dX3_solve_29 rfl (lv_at hl 1 rfl) ?_
        refine lv_lload_n hx hb dX3_solve_30 rfl (lv_at hl 2 rfl) ?_
        refine lv_iload hx hb dX3_solve_31 (lv_at hl 0 rfl) ?_
        refine rd_i (va_runV (As := [.long fr, .int (iI ((a + b) / 2))]) (rest := []) ⟨hx, hb, hml, hown, hts⟩ (c_X3_balanceOf l dC dI cA s.heap Z g n th hs pe pk fo mo fE fK hP hg hn fr (iI ((a + b) / 2)) (rgI (by omega) (by omega))) (cwV 2 hts gX3_solve_X3_balanceOf rfl rfl rfl (by decide +kernel) ⟨Nat.le_of_ble_eq_true rfl, Nat.le_of_ble_eq_true rfl⟩) ⟨rd_bl, va_recv hK hP (ci := 4) (q0 := 0) rfl rfl, rd_pre hK hN⟩ rfl rfl hl.1 rfl (lv_room (Nat.le_of_ble_eq_true rfl)) dX3_solve_33 ⟨Nat.zero_le _, Nat.zero_le _⟩) hS (fun r5 locs hq6 hS => ?_)
        have hq6 : r5 = blF g n fr (iI ((a + b) / 2)) := hq6
        subst hq6
        refine lv_istore (lv' := [(8, .int (blF g n fr (iI ((a + b) / 2)))), (7, .int (iI ((a + b) / 2))), (0, .ref (Z 0)), (1, .long fr), (3, .long mv), (5, .int (iI a)), (6, .int (iI b))]) hx hb dX3_solve_36 hl (by decide) rfl (fun ls hl => ?_)
        refine lv_iload hx hb dX3_solve_38 (lv_at hl 0 rfl) ?_
        refine lv_ldc hx hb hown (hts (.constant RX3 64 (-1000000)) mbX3_solve_3) dX3_solve_40 ?_
        refine lv_icmp_ne (tgt := 47) hx hb dX3_solve_42 (by decide) (fun c4 => ?_) (fun c4 => ?_)
        · refine lv_aload_n hx hb dX3_solve_47 rfl (lv_at hl 2 rfl) ?_
          refine lv_iload hx hb dX3_solve_48 (lv_at hl 0 rfl) ?_
          refine lv_iload hx hb dX3_solve_50 (lv_at hl 1 rfl) ?_
          refine lv_iconst (v := 1) hx hb dX3_solve_52 (by decide) ?_
          refine rd_l (va_runV (As := [.int (blF g n fr (iI ((a + b) / 2))), .int (iI ((a + b) / 2)), .int 1]) (rest := []) ⟨hx, hb, hml, hown, hts⟩ (c_X3_sum l dC dI cA s.heap Z g n th hs pe pk fo mo fE fK hP hg hn (blF g n fr (iI ((a + b) / 2))) (iI ((a + b) / 2)) (bl_rng c4) (rgI (by omega) (by omega)) true 1 (by decide)) (cwV 3 hts gX3_solve_X3_sum rfl rfl rfl (by decide +kernel) ⟨Nat.le_of_ble_eq_true rfl, Nat.le_of_ble_eq_true rfl⟩) ⟨rd_bl, va_recv hK hP (ci := 4) (q0 := 0) rfl rfl, rd_pre hK hN⟩ rfl rfl hl.1 rfl (lv_room (Nat.le_of_ble_eq_true rfl)) dX3_solve_53 ⟨Nat.zero_le _, Nat.zero_le _⟩) hS (fun r7 locs hq8 hS => ?_)
          have hq8 : r7 = smF g true (blF g n fr (iI ((a + b) / 2))) (iI ((a + b) / 2)) n := hq8
          subst hq8
          refine lv_lload_n hx hb dX3_solve_56 rfl (lv_at hl 4 rfl) ?_
          refine W.lcmp hx hb dX3_solve_57 ?_
          refine lv_if_lt (tgt := 68) hx hb dX3_solve_58 (by decide) (fun c5 => ?_) (fun c5 => ?_)
          · have c5 := (lg_cmp_lt _ _).mp c5
            refine lv_iload hx hb dX3_solve_68 (lv_at hl 1 rfl) ?_
            refine lv_iconst (v := 1) hx hb dX3_solve_70 (by decide) ?_
            refine lv_iadd hx hb dX3_solve_71 ?_
            refine tp_i (v := iI ((a + b) / 2 + 1)) (by rw [← iI_ad]; rfl) ?_
            refine lv_istore (lv' := [(5, .int (iI ((a + b) / 2 + 1))), (8, .int (blF g n fr (iI ((a + b) / 2)))), (7, .int (iI ((a + b) / 2))), (0, .ref (Z 0)), (1, .long fr), (3, .long mv), (6, .int (iI b))]) hx hb dX3_solve_72 hl (by decide) rfl (fun ls hl => ?_)
            refine lv_goto (tgt := 10) hx hb dX3_solve_74 (by decide) ?_
            exact ih ((a + b) / 2 + 1) b v _ _ (by omega) (by omega) b1 b2 (by omega) (by omega) (by omega) (by rw [hv, so_f hab c4 (lt_nle64 c5)]) hS (lv_sub hl [3, 4, 5, 0, 6] rfl)
          · have c5 := mt (lg_cmp_lt _ _).mpr c5
            refine lv_iload hx hb dX3_solve_61 (lv_at hl 1 rfl) ?_
            refine lv_istore (lv' := [(6, .int (iI ((a + b) / 2))), (8, .int (blF g n fr (iI ((a + b) / 2)))), (7, .int (iI ((a + b) / 2))), (0, .ref (Z 0)), (1, .long fr), (3, .long mv), (5, .int (iI a))]) hx hb dX3_solve_63 hl (by decide) rfl (fun ls hl => ?_)
            refine lv_goto (tgt := 74) hx hb dX3_solve_65 (by decide) ?_
            refine lv_goto (tgt := 10) hx hb dX3_solve_74 (by decide) ?_
            exact ih a ((a + b) / 2) v _ _ a1 a2 (by omega) (by omega) (by omega) (by omega) (by omega) (by rw [hv, so_t hab c4 (nlt_le64 c5)]) hS (lv_sub hl [3, 4, 5, 6, 0] rfl)
        · refine lv_iconst (v := 1) hx hb dX3_solve_45 (by decide) ?_
          exact W.iret (v := 1) hx hb hr (fun t9 ht9 hW9 => ⟨⟨_, ((g, n, hs, pe, pk, fo, mo), th, fE, fK), rfl, (⟨by rw [hv, so_0 hab c4], rfl, rfl, fun h9 => absurd h9 (by decide)⟩), by dsimp only; rw [ht9]; exact hP⟩, hS.F ht9⟩) hS.2.2 dX3_solve_46
  exact lp 40001 (-20000) 20000 32 _ _ (by omega) (by omega) (by omega) (by omega) (by omega) (by omega) (by decide) rfl hS (lv_sub hl [2, 3, 4, 1, 0] rfl)

set_option maxRecDepth 20000 in
theorem miX3_run_X3 : ∀ w ∈ u_ws RX3 TX3 19, w ∈ wsX3_run := by decide +kernel
set_option maxRecDepth 20000 in
theorem mbX3_run_1 : (.fieldLink RX3 40 "SectionFibresModel" "thrown" "I" : Cond) ∈ wsX3_run := by decide +kernel
set_option maxRecDepth 20000 in
theorem mbX3_run_2 : (.fieldLink RX3 60 "SectionFibresModel" "has" "Z" : Cond) ∈ wsX3_run := by decide +kernel
set_option maxRecDepth 20000 in
theorem mbX3_run_3 : (.fieldLink RX3 98 "SectionFibresModel" "foundE" "I" : Cond) ∈ wsX3_run := by decide +kernel
set_option maxRecDepth 20000 in
theorem mbX3_run_4 : (.fieldLink RX3 105 "SectionFibresModel" "e" "I" : Cond) ∈ wsX3_run := by decide +kernel
set_option maxRecDepth 20000 in
theorem mbX3_run_5 : (.fieldLink RX3 95 "SectionFibresModel" "foundK" "I" : Cond) ∈ wsX3_run := by decide +kernel
set_option maxRecDepth 20000 in
theorem mbX3_run_6 : (.fieldLink RX3 108 "SectionFibresModel" "k" "I" : Cond) ∈ wsX3_run := by decide +kernel
set_option maxRecDepth 20000 in
theorem mbX3_run_7 : (.fieldLink RX3 111 "SectionFibresModel" "wantedForce" "J" : Cond) ∈ wsX3_run := by decide +kernel
set_option maxRecDepth 20000 in
theorem mbX3_run_8 : (.fieldLink RX3 115 "SectionFibresModel" "wantedMoment" "J" : Cond) ∈ wsX3_run := by decide +kernel
set_option maxHeartbeats 4000000 in
set_option maxRecDepth 100000 in
theorem c_X3_run (l : Launch) (dC : Nat → ClassId) (dI : Nat → Nat → Nat) (cA : ClassId) (H : Heap) (Z : Nat → Nat) (g : Gg) (n : Nat) (th hs pe pk : Int32) (fo mo : Int64) (fE fK : Int32) (hP : va_P (dC, dI) vwCl (wR cA Z g n th hs pe pk fo mo fE fK) H) (hD : va_D (fun _ => True) (wR cA Z g n th hs pe pk fo mo fE fK)) (hg : InvG g) (hn : n ≤ 41) (fr mv : Int64) : Met l yX3_run wsX3_run ({ frames := 5, cells := 0, slots := 0, locals := 130 }) (rd_P [.ref (Z 0), .long fr, .long mv] H (dC, dI) vwCl [(cA, .int)]) (va_Qi (fun (r : Int32) (u : Su) => (r, u.1) = runF (g, n, hs, pe, pk, fo, mo) fr mv ∧ u.2.1 = 0) (fun u t => bR dC dI cA Z u t.heap) (va_A (wR cA Z g n th hs pe pk fo mo fE fK) H.size)) 0 0 (va_A (wR cA Z g n th hs pe pk fo mo fE fK) H.size) := by
  refine Met.ofW (cc := cX3_run) (maxL := 6) (ret := (some .int)) (by decide) rfl ?_
  intro p e s m args below meth c s₁ B hml hv
  obtain ⟨rfl, hH, hK, hN⟩ := hv
  subst hH
  have hx := B.exec
  have hb := B.bytes
  have hr := B.returns
  have hts := atoms_spec (ws := wsX3_run) B.pre
  have hown : s.vm.findClass RX3 = some m.cls := findClass_of_methodNamed B.named
  have hlocks := B.notSynchronized
  have hD := hD.self (sz := s.heap.size)
  generalize hAe : va_A (wR cA Z g n th hs pe pk fo mo fE fK) s.heap.size = Av at hD ⊢
  have hA : ∀ q : Nat, s.heap.size ≤ q → Av q := fun q h => by rw [← hAe]; exact Or.inr h
  have hS : va_S Av s.heap s.heap [] := va_S.rf
  have hl := lv_entry ([.ref (Z 0), .long fr, .long mv]) (n := 6) (Nat.le_of_ble_eq_true rfl)
  rw [lg_entry_eq]
  generalize (lg_sl ([.ref (Z 0), .long fr, .long mv]) ++ List.replicate (6 - (lg_sl ([.ref (Z 0), .long fr, .long mv])).length) Slot.unset).toArray = ls at hl ⊢
  have hl : lv_has ls 6 [(0, .ref (Z 0)), (1, .long fr), (3, .long mv)] := hl
  refine lv_aload_n hx hb dX3_run_0 rfl (lv_at hl 0 rfl) ?_
  refine lv_iconst (v := 0) hx hb dX3_run_1 (by decide) ?_
  refine va_put (D := (dC, dI)) (ci := 4) (v := .int 0) (ty := .int) (C := RX3) (T := TX3) (N := 19) hx hb hts miX3_run_X3 tyX3 tyX3_ok nmX3 hown hK hP hD hS 0 rfl rfl 0 (by decide) (hts (.fieldLink RX3 40 "SectionFibresModel" "thrown" "I") mbX3_run_1) (fun _ h9 => h9) rfl (by decide +kernel) rfl rfl (Nat.le_of_ble_eq_true rfl) dX3_run_2 (fun H locs hP hD hS => ?_)
  have hP : va_P (dC, dI) vwCl (wR cA Z g n 0 hs pe pk fo mo fE fK) H := hP
  have hD : va_D Av (wR cA Z g n 0 hs pe pk fo mo fE fK) := hD
  refine lv_aload_n hx hb dX3_run_5 rfl (lv_at hl 0 rfl) ?_
  refine lv_lload_n hx hb dX3_run_6 rfl (lv_at hl 1 rfl) ?_
  refine lv_lload_n hx hb dX3_run_7 rfl (lv_at hl 2 rfl) ?_
  have hFc := va_free (wc := (wR cA Z g n 0 hs pe pk fo mo fE fK)) hD hS hA [0, 1, 2, 3, 4, 5, 6, 7, 8, 9, 10] rfl
  refine mu_i (va_runV (As := [.long fr, .long mv]) (rest := []) ⟨hx, hb, hml, hown, hts⟩ (c_X3_solve l dC dI cA H Z g n 0 hs pe pk fo mo fE fK hP (hD.weaken (fun _ _ _ _ => trivial)) hg hn fr mv) (cwV 2 hts gX3_run_X3_solve rfl rfl rfl (by decide +kernel) ⟨Nat.le_of_ble_eq_true rfl, Nat.le_of_ble_eq_true rfl⟩) ⟨rd_bl, va_recv hK hP (ci := 4) (q0 := 0) rfl rfl, rd_pre hK hN⟩ rfl rfl hl.1 rfl (lv_room (Nat.le_of_ble_eq_true rfl)) dX3_run_8 ⟨Nat.zero_le _, Nat.zero_le _⟩) hS hFc (fun r1 u H locs hq hB hk hz hS => ?_)
  obtain ⟨u1, th1, fE2, fK2⟩ := u
  obtain ⟨hq1, hq2, hq3, hq4⟩ := hq
  dsimp only at hq2 hq3 hq4 hB
  subst hq2
  subst hq3
  subst hq1
  have hP : va_P (dC, dI) vwCl (wR cA Z g n 0 hs pe pk fo mo fE2 fK2) H := hB
  have hD : va_D Av (wR cA Z g n 0 hs pe pk fo mo fE2 fK2) := va_Dsame (by rfl) hD
  refine lv_istore (lv' := [(5, .int ((slF g n fr mv).1)), (0, .ref (Z 0)), (1, .long fr), (3, .long mv)]) hx hb dX3_run_11 hl (by decide) rfl (fun ls hl => ?_)
  refine lv_iload hx hb dX3_run_13 (lv_at hl 0 rfl) ?_
  refine lv_if_ne (tgt := 49) hx hb dX3_run_15 (by decide) (fun c1 => ?_) (fun c1 => ?_)
  · refine lv_iload hx hb dX3_run_49 (lv_at hl 0 rfl) ?_
    exact W.iret (v := ((slF g n fr mv).1)) hx hb hr (fun t9 ht9 hW9 => ⟨⟨_, ((g, n, hs, pe, pk, fo, mo), 0, fE2, fK2), rfl, (⟨(run_f c1).symm, rfl⟩), by dsimp only; rw [ht9]; exact hP⟩, hS.F ht9⟩) hS.2.2 dX3_run_51
  · refine lv_aload_n hx hb dX3_run_18 rfl (lv_at hl 1 rfl) ?_
    refine lv_iconst (v := 1) hx hb dX3_run_19 (by decide) ?_
    refine va_put (D := (dC, dI)) (ci := 4) (v := .int 1) (ty := .boolean) (C := RX3) (T := TX3) (N := 19) hx hb hts miX3_run_X3 tyX3 tyX3_ok nmX3 hown hK hP hD hS 0 rfl rfl 12 (by decide) (hts (.fieldLink RX3 60 "SectionFibresModel" "has" "Z") mbX3_run_2) (fun _ h9 => h9) rfl (by decide +kernel) rfl rfl (Nat.le_of_ble_eq_true rfl) dX3_run_20 (fun H locs hP hD hS => ?_)
    have hP : va_P (dC, dI) vwCl (wR cA Z g n 0 1 pe pk fo mo fE2 fK2) H := hP
    have hD : va_D Av (wR cA Z g n 0 1 pe pk fo mo fE2 fK2) := hD
    refine lv_aload_n hx hb dX3_run_23 rfl (lv_at hl 1 rfl) ?_
    refine lv_aload_n hx hb dX3_run_24 rfl (lv_at hl 1 rfl) ?_
    refine va_get (D := (dC, dI)) (ci := 4) (v := .int fE2) (C := RX3) (T := TX3) (N := 19) hx hb hts miX3_run_X3 hown hK hP 0 rfl rfl 17 (by decide) (hts (.fieldLink RX3 98 "SectionFibresModel" "foundE" "I") mbX3_run_3) (fun _ h9 => h9) rfl dX3_run_25 ?_
    refine va_put (D := (dC, dI)) (ci := 4) (v := .int fE2) (ty := .int) (C := RX3) (T := TX3) (N := 19) hx hb hts miX3_run_X3 tyX3 tyX3_ok nmX3 hown hK hP hD hS 0 rfl rfl 13 (by decide) (hts (.fieldLink RX3 105 "SectionFibresModel" "e" "I") mbX3_run_4) (fun _ h9 => h9) rfl (by decide +kernel) rfl rfl (Nat.le_of_ble_eq_true rfl) dX3_run_28 (fun H locs hP hD hS => ?_)
    have hP : va_P (dC, dI) vwCl (wR cA Z g n 0 1 fE2 pk fo mo fE2 fK2) H := hP
    have hD : va_D Av (wR cA Z g n 0 1 fE2 pk fo mo fE2 fK2) := hD
    refine lv_aload_n hx hb dX3_run_31 rfl (lv_at hl 1 rfl) ?_
    refine lv_aload_n hx hb dX3_run_32 rfl (lv_at hl 1 rfl) ?_
    refine va_get (D := (dC, dI)) (ci := 4) (v := .int fK2) (C := RX3) (T := TX3) (N := 19) hx hb hts miX3_run_X3 hown hK hP 0 rfl rfl 18 (by decide) (hts (.fieldLink RX3 95 "SectionFibresModel" "foundK" "I") mbX3_run_5) (fun _ h9 => h9) rfl dX3_run_33 ?_
    refine va_put (D := (dC, dI)) (ci := 4) (v := .int fK2) (ty := .int) (C := RX3) (T := TX3) (N := 19) hx hb hts miX3_run_X3 tyX3 tyX3_ok nmX3 hown hK hP hD hS 0 rfl rfl 14 (by decide) (hts (.fieldLink RX3 108 "SectionFibresModel" "k" "I") mbX3_run_6) (fun _ h9 => h9) rfl (by decide +kernel) rfl rfl (Nat.le_of_ble_eq_true rfl) dX3_run_36 (fun H locs hP hD hS => ?_)
    have hP : va_P (dC, dI) vwCl (wR cA Z g n 0 1 fE2 fK2 fo mo fE2 fK2) H := hP
    have hD : va_D Av (wR cA Z g n 0 1 fE2 fK2 fo mo fE2 fK2) := hD
    refine lv_aload_n hx hb dX3_run_39 rfl (lv_at hl 1 rfl) ?_
    refine lv_lload_n hx hb dX3_run_40 rfl (lv_at hl 2 rfl) ?_
    refine va_put (D := (dC, dI)) (ci := 4) (v := .long fr) (ty := .long) (C := RX3) (T := TX3) (N := 19) hx hb hts miX3_run_X3 tyX3 tyX3_ok nmX3 hown hK hP hD hS 0 rfl rfl 15 (by decide) (hts (.fieldLink RX3 111 "SectionFibresModel" "wantedForce" "J") mbX3_run_7) (fun _ h9 => h9) rfl (by decide +kernel) rfl rfl (Nat.le_of_ble_eq_true rfl) dX3_run_41 (fun H locs hP hD hS => ?_)
    have hP : va_P (dC, dI) vwCl (wR cA Z g n 0 1 fE2 fK2 fr mo fE2 fK2) H := hP
    have hD : va_D Av (wR cA Z g n 0 1 fE2 fK2 fr mo fE2 fK2) := hD
    refine lv_aload_n hx hb dX3_run_44 rfl (lv_at hl 1 rfl) ?_
    refine lv_lload_n hx hb dX3_run_45 rfl (lv_at hl 3 rfl) ?_
    refine va_put (D := (dC, dI)) (ci := 4) (v := .long mv) (ty := .long) (C := RX3) (T := TX3) (N := 19) hx hb hts miX3_run_X3 tyX3 tyX3_ok nmX3 hown hK hP hD hS 0 rfl rfl 16 (by decide) (hts (.fieldLink RX3 115 "SectionFibresModel" "wantedMoment" "J") mbX3_run_8) (fun _ h9 => h9) rfl (by decide +kernel) rfl rfl (Nat.le_of_ble_eq_true rfl) dX3_run_46 (fun H locs hP hD hS => ?_)
    have hP : va_P (dC, dI) vwCl (wR cA Z g n 0 1 fE2 fK2 fr mv fE2 fK2) H := hP
    have hD : va_D Av (wR cA Z g n 0 1 fE2 fK2 fr mv fE2 fK2) := hD
    refine lv_iload hx hb dX3_run_49 (lv_at hl 0 rfl) ?_
    exact W.iret (v := ((slF g n fr mv).1)) hx hb hr (fun t9 ht9 hW9 => ⟨⟨_, ((g, n, 1, fE2, fK2, fr, mv), 0, fE2, fK2), rfl, (⟨by rw [run_t c1, c1, (hq4 c1).1, (hq4 c1).2], rfl⟩), by dsimp only; rw [ht9]; exact hP⟩, hS.F ht9⟩) hS.2.2 dX3_run_51

set_option maxRecDepth 20000 in
theorem miX3_needed_X3 : ∀ w ∈ u_ws RX3 TX3 19, w ∈ wsX3_needed := by decide +kernel
set_option maxRecDepth 20000 in
theorem mbX3_needed_1 : (.fieldLink RX3 40 "SectionFibresModel" "thrown" "I" : Cond) ∈ wsX3_needed := by decide +kernel
set_option maxRecDepth 20000 in
theorem mbX3_needed_2 : (.fieldLink RX3 44 "SectionFibresModel" "fibres" "I" : Cond) ∈ wsX3_needed := by decide +kernel
set_option maxHeartbeats 4000000 in
set_option maxRecDepth 100000 in
theorem c_X3_needed (l : Launch) (dC : Nat → ClassId) (dI : Nat → Nat → Nat) (cA : ClassId) (H : Heap) (Z : Nat → Nat) (g : Gg) (n : Nat) (th hs pe pk : Int32) (fo mo : Int64) (fE fK : Int32) (hP : va_P (dC, dI) vwCl (wR cA Z g n th hs pe pk fo mo fE fK) H) (hD : va_D (fun _ => True) (wR cA Z g n th hs pe pk fo mo fE fK)) (hg : InvG g) (hn : n ≤ 40) (a b d : Int32) (fr mv : Int64) : Met l yX3_needed wsX3_needed ({ frames := 5, cells := 0, slots := 0, locals := 130 }) (rd_P [.ref (Z 0), .int a, .int b, .int d, .long fr, .long mv] H (dC, dI) vwCl [(cA, .int)]) (va_Qi (fun (r : Int32) (u : Su) => (r, u.1) = nedF (g, n, hs, pe, pk, fo, mo) a b d fr mv ∧ u.2.1 = 0) (fun u t => bR dC dI cA Z u t.heap) (va_A (wR cA Z g n th hs pe pk fo mo fE fK) H.size)) 0 0 (va_A (wR cA Z g n th hs pe pk fo mo fE fK) H.size) := by
  refine Met.ofW (cc := cX3_needed) (maxL := 10) (ret := (some .int)) (by decide) rfl ?_
  intro p e s m args below meth c s₁ B hml hv
  obtain ⟨rfl, hH, hK, hN⟩ := hv
  subst hH
  have hx := B.exec
  have hb := B.bytes
  have hr := B.returns
  have hts := atoms_spec (ws := wsX3_needed) B.pre
  have hown : s.vm.findClass RX3 = some m.cls := findClass_of_methodNamed B.named
  have hlocks := B.notSynchronized
  have hD := hD.self (sz := s.heap.size)
  generalize hAe : va_A (wR cA Z g n th hs pe pk fo mo fE fK) s.heap.size = Av at hD ⊢
  have hA : ∀ q : Nat, s.heap.size ≤ q → Av q := fun q h => by rw [← hAe]; exact Or.inr h
  have hS : va_S Av s.heap s.heap [] := va_S.rf
  have hl := lv_entry ([.ref (Z 0), .int a, .int b, .int d, .long fr, .long mv]) (n := 10) (Nat.le_of_ble_eq_true rfl)
  rw [lg_entry_eq]
  generalize (lg_sl ([.ref (Z 0), .int a, .int b, .int d, .long fr, .long mv]) ++ List.replicate (10 - (lg_sl ([.ref (Z 0), .int a, .int b, .int d, .long fr, .long mv])).length) Slot.unset).toArray = ls at hl ⊢
  have hl : lv_has ls 10 [(0, .ref (Z 0)), (1, .int a), (2, .int b), (3, .int d), (4, .long fr), (6, .long mv)] := hl
  refine lv_aload_n hx hb dX3_needed_0 rfl (lv_at hl 0 rfl) ?_
  refine lv_iconst (v := 0) hx hb dX3_needed_1 (by decide) ?_
  refine va_put (D := (dC, dI)) (ci := 4) (v := .int 0) (ty := .int) (C := RX3) (T := TX3) (N := 19) hx hb hts miX3_needed_X3 tyX3 tyX3_ok nmX3 hown hK hP hD hS 0 rfl rfl 0 (by decide) (hts (.fieldLink RX3 40 "SectionFibresModel" "thrown" "I") mbX3_needed_1) (fun _ h9 => h9) rfl (by decide +kernel) rfl rfl (Nat.le_of_ble_eq_true rfl) dX3_needed_2 (fun H locs hP hD hS => ?_)
  have hP : va_P (dC, dI) vwCl (wR cA Z g n 0 hs pe pk fo mo fE fK) H := hP
  have hD : va_D Av (wR cA Z g n 0 hs pe pk fo mo fE fK) := hD
  refine lv_iload_n hx hb dX3_needed_5 rfl (lv_at hl 1 rfl) ?_
  refine lv_sipush (v := (-2000)) hx hb dX3_needed_6 (by decide) ?_
  refine lv_sipush (v := 2000) hx hb dX3_needed_9 (by decide) ?_
  refine rd_i (va_runS (As := [.int a, .int (-2000), .int 2000]) (rest := []) ⟨hx, hb, hml, hown, hts⟩ (c_X3_within l dC dI cA H a (-2000) 2000 (-2000) 2000 (by decide) (by decide)) (va_cwS 3 hts gX3_needed_X3_within rfl rfl rfl (by decide +kernel) ⟨Nat.le_of_ble_eq_true rfl, Nat.le_of_ble_eq_true rfl⟩) ⟨rd_bl, rd_pre hK hN⟩ rfl rfl hl.1 rfl (lv_room (Nat.le_of_ble_eq_true rfl)) dX3_needed_12 ⟨Nat.zero_le _, Nat.zero_le _⟩) hS (fun r1 locs hq2 hS => ?_)
  rcases hq2 with ⟨hq2, rfl⟩ | ⟨hq2, rfl⟩
  · have q1 : rg a (-2000) 2000 := hq2
    refine lv_if_eq (tgt := 36) hx hb dX3_needed_15 (by decide) (fun h9 => absurd h9 (by decide)) (fun _ => ?_)
    refine lv_iload_n hx hb dX3_needed_18 rfl (lv_at hl 2 rfl) ?_
    refine rd_i (va_runS (As := [.int b]) (rest := []) ⟨hx, hb, hml, hown, hts⟩ (c_X3_isKind l dC dI cA H b) (va_cwS 1 hts gX3_needed_X3_isKind rfl rfl rfl (by decide +kernel) ⟨Nat.le_of_ble_eq_true rfl, Nat.le_of_ble_eq_true rfl⟩) ⟨rd_bl, rd_pre hK hN⟩ rfl rfl hl.1 rfl (lv_room (Nat.le_of_ble_eq_true rfl)) dX3_needed_19 ⟨Nat.zero_le _, Nat.zero_le _⟩) hS (fun r3 locs hq4 hS => ?_)
    rcases hq4 with ⟨hq4, rfl⟩ | ⟨hq4, rfl⟩
    · have q2 : rg b 0 3 := hq4
      refine lv_if_eq (tgt := 36) hx hb dX3_needed_22 (by decide) (fun h9 => absurd h9 (by decide)) (fun _ => ?_)
      refine lv_iload_n hx hb dX3_needed_25 rfl (lv_at hl 3 rfl) ?_
      refine lv_iconst (v := 1) hx hb dX3_needed_26 (by decide) ?_
      refine lv_sipush (v := 5000) hx hb dX3_needed_27 (by decide) ?_
      refine rd_i (va_runS (As := [.int d, .int 1, .int 5000]) (rest := []) ⟨hx, hb, hml, hown, hts⟩ (c_X3_within l dC dI cA H d 1 5000 1 5000 (by decide) (by decide)) (va_cwS 3 hts gX3_needed_X3_within rfl rfl rfl (by decide +kernel) ⟨Nat.le_of_ble_eq_true rfl, Nat.le_of_ble_eq_true rfl⟩) ⟨rd_bl, rd_pre hK hN⟩ rfl rfl hl.1 rfl (lv_room (Nat.le_of_ble_eq_true rfl)) dX3_needed_30 ⟨Nat.zero_le _, Nat.zero_le _⟩) hS (fun r5 locs hq6 hS => ?_)
      rcases hq6 with ⟨hq6, rfl⟩ | ⟨hq6, rfl⟩
      · have q3 : rg d 1 5000 := hq6
        refine lv_if_ne (tgt := 38) hx hb dX3_needed_33 (by decide) (fun _ => ?_) (fun h9 => absurd h9 (by decide))
        refine lv_iconst (v := (-1)) hx hb dX3_needed_38 (by decide) ?_
        refine lv_istore (lv' := [(8, .int (-1)), (0, .ref (Z 0)), (1, .int a), (2, .int b), (3, .int d), (4, .long fr), (6, .long mv)]) hx hb dX3_needed_39 hl (by decide) rfl (fun ls hl => ?_)
        refine lv_aload_n hx hb dX3_needed_41 rfl (lv_at hl 1 rfl) ?_
        refine lv_dup hx hb dX3_needed_42 rfl ?_
        refine va_get (D := (dC, dI)) (ci := 4) (v := .int (nI n)) (C := RX3) (T := TX3) (N := 19) hx hb hts miX3_needed_X3 hown hK hP 0 rfl rfl 1 (by decide) (hts (.fieldLink RX3 44 "SectionFibresModel" "fibres" "I") mbX3_needed_2) (fun _ h9 => h9) rfl dX3_needed_43 ?_
        refine lv_iconst (v := 1) hx hb dX3_needed_46 (by decide) ?_
        refine lv_iadd hx hb dX3_needed_47 ?_
        refine tp_i (v := nI (n + 1)) (nI_1 n) ?_
        refine va_put (D := (dC, dI)) (ci := 4) (v := .int (nI (n + 1))) (ty := .int) (C := RX3) (T := TX3) (N := 19) hx hb hts miX3_needed_X3 tyX3 tyX3_ok nmX3 hown hK hP hD hS 0 rfl rfl 1 (by decide) (hts (.fieldLink RX3 44 "SectionFibresModel" "fibres" "I") mbX3_needed_2) (fun _ h9 => h9) rfl (by decide +kernel) rfl rfl (Nat.le_of_ble_eq_true rfl) dX3_needed_48 (fun H locs hP hD hS => ?_)
        have hP : va_P (dC, dI) vwCl (wR cA Z g (n + 1) 0 hs pe pk fo mo fE fK) H := hP
        have hD : va_D Av (wR cA Z g (n + 1) 0 hs pe pk fo mo fE fK) := hD
        refine lv_iconst (v := 0) hx hb dX3_needed_51 (by decide) ?_
        refine tp_i (v := nI 0) (rfl) ?_
        refine lv_istore (lv' := [(9, .int (nI 0)), (8, .int (-1)), (0, .ref (Z 0)), (1, .int a), (2, .int b), (3, .int d), (4, .long fr), (6, .long mv)]) hx hb dX3_needed_52 hl (by decide) rfl (fun ls hl => ?_)
        have lp : ∀ (z : Nat) (i : Nat) (lv : Int32) (ar : Int32) (gg : Gg) (fE : Int32) (fK : Int32) (H : Heap) (locs : List Loc) (ls : Array Slot), i ≤ 21 → 22 ≤ i + z → (lv = -1 ∧ neF g n a b d fr mv 21 0 0 = neF g n a b d fr mv (21 - i) i ar ∧ (i = 0 ∨ gg = layG g n ar a b)) ∨ (0 ≤ lv ∧ neF g n a b d fr mv 21 0 0 = (lv, ar) ∧ gg = layG g n ar a b) → (∀ x : Int32, layG gg n x a b = layG g n x a b) → va_P (dC, dI) vwCl (wR cA Z gg (n + 1) 0 hs pe pk fo mo fE fK) H → va_D Av (wR cA Z gg (n + 1) 0 hs pe pk fo mo fE fK) → va_S Av s.heap H locs → lv_has ls 10 [(0, .ref (Z 0)), (1, .int a), (2, .int b), (3, .int d), (4, .long fr), (6, .long mv), (8, .int lv), (9, .int (nI i))] → W p l e (headSpec wsX3_needed ({ frames := 5, cells := 0, slots := 0, locals := 130 })).room s m ([.ref (Z 0), .int a, .int b, .int d, .long fr, .long mv]).toArray below meth c H locs 0 0 (MQ below (va_Qi (fun (r : Int32) (u : Su) => (r, u.1) = nedF (g, n, hs, pe, pk, fo, mo) a b d fr mv ∧ u.2.1 = 0) (fun u t => bR dC dI cA Z u t.heap) Av) ([.ref (Z 0), .int a, .int b, .int d, .long fr, .long mv]).toArray s 0 0 Av) (F0 m 54 ls []) := by
          intro z
          induction z with
          | zero =>
            intro i lv ar gg fE fK H locs ls h1 h2 hv hgg hP hD hS hl
            exact absurd h2 (by omega)
          | succ z ih =>
            intro i lv ar gg fE fK H locs ls h1 h2 hv hgg hP hD hS hl
            refine lv_iload hx hb dX3_needed_54 (lv_at hl 7 rfl) ?_
            refine lv_bipush (v := 21) hx hb dX3_needed_56 (by decide) ?_
            refine tp_i (v := nI 21) (rfl) ?_
            refine lv_icmp_ge (tgt := 109) hx hb dX3_needed_58 (by decide) (fun c1 => ?_) (fun c1 => ?_)
            · have hi : i = 21 := by have h9 := (nI_leI (by omega) (by omega)).mp c1; omega
              have hv : neF g n a b d fr mv 21 0 0 = (lv, ar) ∧ gg = layG g n ar a b := by
                rcases hv with ⟨h7, h8, h9⟩ | ⟨-, h8, h9⟩
                · exact ⟨by rw [h8, hi, h7]; rfl, h9.resolve_left (by omega)⟩
                · exact ⟨h8, h9⟩
              refine lv_aload_n hx hb dX3_needed_109 rfl (lv_at hl 0 rfl) ?_
              refine lv_dup hx hb dX3_needed_110 rfl ?_
              refine va_get (D := (dC, dI)) (ci := 4) (v := .int (nI (n + 1))) (C := RX3) (T := TX3) (N := 19) hx hb hts miX3_needed_X3 hown hK hP 0 rfl rfl 1 (by decide) (hts (.fieldLink RX3 44 "SectionFibresModel" "fibres" "I") mbX3_needed_2) (fun _ h9 => h9) rfl dX3_needed_111 ?_
              refine lv_iconst (v := 1) hx hb dX3_needed_114 (by decide) ?_
              refine lv_isub hx hb dX3_needed_115 ?_
              refine tp_i (v := nI n) (nI_pred n) ?_
              refine va_put (D := (dC, dI)) (ci := 4) (v := .int (nI n)) (ty := .int) (C := RX3) (T := TX3) (N := 19) hx hb hts miX3_needed_X3 tyX3 tyX3_ok nmX3 hown hK hP hD hS 0 rfl rfl 1 (by decide) (hts (.fieldLink RX3 44 "SectionFibresModel" "fibres" "I") mbX3_needed_2) (fun _ h9 => h9) rfl (by decide +kernel) rfl rfl (Nat.le_of_ble_eq_true rfl) dX3_needed_116 (fun H locs hP hD hS => ?_)
              have hP : va_P (dC, dI) vwCl (wR cA Z gg n 0 hs pe pk fo mo fE fK) H := hP
              have hD : va_D Av (wR cA Z gg n 0 hs pe pk fo mo fE fK) := hD
              refine lv_iload hx hb dX3_needed_119 (lv_at hl 6 rfl) ?_
              exact W.iret (v := lv) hx hb hr (fun t9 ht9 hW9 => ⟨⟨_, ((gg, n, hs, pe, pk, fo, mo), 0, fE, fK), rfl, (⟨((ned_t ⟨q1, q2, q3⟩).trans (by rw [hv.1, hv.2])).symm, rfl⟩), by dsimp only; rw [ht9]; exact hP⟩, hS.F ht9⟩) hS.2.2 dX3_needed_121
            · have hi : i < 21 := by rcases Nat.lt_or_ge i 21 with h9 | h9; exact h9; exact absurd (nI_le h9 (by omega)) c1
              refine lv_iload hx hb dX3_needed_61 (lv_at hl 6 rfl) ?_
              refine lv_if_ge (tgt := 109) hx hb dX3_needed_63 (by decide) (fun c2 => ?_) (fun c2 => ?_)
              · have hv : neF g n a b d fr mv 21 0 0 = (lv, ar) ∧ gg = layG g n ar a b := (hv.resolve_left (fun h9 => by rw [h9.1] at c2; exact absurd c2 (by decide))).2
                refine lv_aload_n hx hb dX3_needed_109 rfl (lv_at hl 0 rfl) ?_
                refine lv_dup hx hb dX3_needed_110 rfl ?_
                refine va_get (D := (dC, dI)) (ci := 4) (v := .int (nI (n + 1))) (C := RX3) (T := TX3) (N := 19) hx hb hts miX3_needed_X3 hown hK hP 0 rfl rfl 1 (by decide) (hts (.fieldLink RX3 44 "SectionFibresModel" "fibres" "I") mbX3_needed_2) (fun _ h9 => h9) rfl dX3_needed_111 ?_
                refine lv_iconst (v := 1) hx hb dX3_needed_114 (by decide) ?_
                refine lv_isub hx hb dX3_needed_115 ?_
                refine tp_i (v := nI n) (nI_pred n) ?_
                refine va_put (D := (dC, dI)) (ci := 4) (v := .int (nI n)) (ty := .int) (C := RX3) (T := TX3) (N := 19) hx hb hts miX3_needed_X3 tyX3 tyX3_ok nmX3 hown hK hP hD hS 0 rfl rfl 1 (by decide) (hts (.fieldLink RX3 44 "SectionFibresModel" "fibres" "I") mbX3_needed_2) (fun _ h9 => h9) rfl (by decide +kernel) rfl rfl (Nat.le_of_ble_eq_true rfl) dX3_needed_116 (fun H locs hP hD hS => ?_)
                have hP : va_P (dC, dI) vwCl (wR cA Z gg n 0 hs pe pk fo mo fE fK) H := hP
                have hD : va_D Av (wR cA Z gg n 0 hs pe pk fo mo fE fK) := hD
                refine lv_iload hx hb dX3_needed_119 (lv_at hl 6 rfl) ?_
                exact W.iret (v := lv) hx hb hr (fun t9 ht9 hW9 => ⟨⟨_, ((gg, n, hs, pe, pk, fo, mo), 0, fE, fK), rfl, (⟨((ned_t ⟨q1, q2, q3⟩).trans (by rw [hv.1, hv.2])).symm, rfl⟩), by dsimp only; rw [ht9]; exact hP⟩, hS.F ht9⟩) hS.2.2 dX3_needed_121
              · have hv : neF g n a b d fr mv 21 0 0 = neF g n a b d fr mv (21 - i) i ar := (hv.resolve_right (fun h9 => c2 h9.1)).2.1
                refine lv_aload_n hx hb dX3_needed_66 rfl (lv_at hl 0 rfl) ?_
                refine lv_aload_n hx hb dX3_needed_67 rfl (lv_at hl 0 rfl) ?_
                refine va_get (D := (dC, dI)) (ci := 4) (v := .int (nI (n + 1))) (C := RX3) (T := TX3) (N := 19) hx hb hts miX3_needed_X3 hown hK hP 0 rfl rfl 1 (by decide) (hts (.fieldLink RX3 44 "SectionFibresModel" "fibres" "I") mbX3_needed_2) (fun _ h9 => h9) rfl dX3_needed_68 ?_
                refine lv_iconst (v := 1) hx hb dX3_needed_71 (by decide) ?_
                refine lv_isub hx hb dX3_needed_72 ?_
                refine tp_i (v := nI n) (nI_pred n) ?_
                refine lv_iload hx hb dX3_needed_73 (lv_at hl 7 rfl) ?_
                refine lv_iload_n hx hb dX3_needed_75 rfl (lv_at hl 3 rfl) ?_
                refine lv_imul hx hb dX3_needed_76 ?_
                refine lv_iload_n hx hb dX3_needed_77 rfl (lv_at hl 1 rfl) ?_
                refine lv_iload_n hx hb dX3_needed_78 rfl (lv_at hl 2 rfl) ?_
                have hFc := va_free (wc := (wR cA Z gg (n + 1) 0 hs pe pk fo mo fE fK)) hD hS hA [0, 1, 2, 3, 4, 5, 6, 7, 8, 9, 10] rfl
                refine mu_v (va_runV (As := [.int (nI n), .int ((nI i) * d), .int a, .int b]) (rest := []) ⟨hx, hb, hml, hown, hts⟩ (c_X3_lay l dC dI cA H Z gg (n + 1) 0 hs pe pk fo mo fE fK hP (hD.weaken (fun _ _ _ _ => trivial)) n (by omega) ((nI i) * d) a b) (cwV 4 hts gX3_needed_X3_lay rfl rfl rfl (by decide +kernel) ⟨Nat.le_of_ble_eq_true rfl, Nat.le_of_ble_eq_true rfl⟩) ⟨rd_bl, va_recv hK hP (ci := 4) (q0 := 0) rfl rfl, rd_pre hK hN⟩ rfl rfl hl.1 rfl (lv_room (Nat.le_of_ble_eq_true rfl)) dX3_needed_79 ⟨Nat.zero_le _, Nat.zero_le _⟩) hS hFc (fun u H locs hq hB hk hz hS => ?_)
                subst hq
                have hB : va_P (dC, dI) vwCl (wR cA Z (layG gg n (nI i * d) a b) (n + 1) 0 hs pe pk fo mo fE fK) H := hB
                rw [hgg] at hB
                have hP : va_P (dC, dI) vwCl (wR cA Z (layG g n (nI i * d) a b) (n + 1) 0 hs pe pk fo mo fE fK) H := hB
                have hD : va_D Av (wR cA Z (layG g n (nI i * d) a b) (n + 1) 0 hs pe pk fo mo fE fK) := va_Dsame (by rfl) hD
                refine lv_aload_n hx hb dX3_needed_82 rfl (lv_at hl 0 rfl) ?_
                refine lv_lload hx hb dX3_needed_83 (lv_at hl 4 rfl) ?_
                refine lv_lload hx hb dX3_needed_85 (lv_at hl 5 rfl) ?_
                have hFc := va_free (wc := (wR cA Z (layG g n (nI i * d) a b) (n + 1) 0 hs pe pk fo mo fE fK)) hD hS hA [0, 1, 2, 3, 4, 5, 6, 7, 8, 9, 10] rfl
                refine mu_i (va_runV (As := [.long fr, .long mv]) (rest := []) ⟨hx, hb, hml, hown, hts⟩ (c_X3_solve l dC dI cA H Z (layG g n (nI i * d) a b) (n + 1) 0 hs pe pk fo mo fE fK hP (hD.weaken (fun _ _ _ _ => trivial)) (lay_inv hg q1.1 q1.2 (rg_in q2)) (by omega) fr mv) (cwV 2 hts gX3_needed_X3_solve rfl rfl rfl (by decide +kernel) ⟨Nat.le_of_ble_eq_true rfl, Nat.le_of_ble_eq_true rfl⟩) ⟨rd_bl, va_recv hK hP (ci := 4) (q0 := 0) rfl rfl, rd_pre hK hN⟩ rfl rfl hl.1 rfl (lv_room (Nat.le_of_ble_eq_true rfl)) dX3_needed_87 ⟨Nat.zero_le _, Nat.zero_le _⟩) hS hFc (fun r8 u H locs hq hB hk hz hS => ?_)
                obtain ⟨u1, th1, fE9, fK9⟩ := u
                obtain ⟨hq1, hq2, hq3, hq4⟩ := hq
                dsimp only at hq2 hq3 hq4 hB
                subst hq2
                subst hq3
                subst hq1
                have hP : va_P (dC, dI) vwCl (wR cA Z (layG g n (nI i * d) a b) (n + 1) 0 hs pe pk fo mo fE9 fK9) H := hB
                have hD : va_D Av (wR cA Z (layG g n (nI i * d) a b) (n + 1) 0 hs pe pk fo mo fE9 fK9) := va_Dsame (by rfl) hD
                refine lv_if_ne (tgt := 100) hx hb dX3_needed_90 (by decide) (fun c3 => ?_) (fun c3 => ?_)
                · refine lv_iconst (v := (-1)) hx hb dX3_needed_100 (by decide) ?_
                  refine lv_istore (lv' := [(8, .int (-1)), (0, .ref (Z 0)), (1, .int a), (2, .int b), (3, .int d), (4, .long fr), (6, .long mv), (9, .int (nI i))]) hx hb dX3_needed_101 hl (by decide) rfl (fun ls hl => ?_)
                  refine lv_iinc (v := nI (i + 1)) (lv' := [(9, .int (nI (i + 1))), (8, .int (-1)), (0, .ref (Z 0)), (1, .int a), (2, .int b), (3, .int d), (4, .long fr), (6, .long mv)]) hx hb dX3_needed_103 hl (k := 7) rfl (nI_1 i) (by decide) rfl (fun ls hl => ?_)
                  refine lv_goto (tgt := 54) hx hb dX3_needed_106 (by decide) ?_
                  exact ih (i + 1) (-1) (nI i * d) (layG g n (nI i * d) a b) fE9 fK9 H _ _ (by omega) (by omega) (Or.inl ⟨rfl, by rw [hv, show 21 - i = (21 - (i + 1)) + 1 by omega, ne_f c3], Or.inr rfl⟩) (fun x => lay_lay _ _ _ _ _ _) hP hD hS (lv_sub hl [2, 3, 4, 5, 6, 7, 1, 0] rfl)
                · refine lv_iload hx hb dX3_needed_93 (lv_at hl 7 rfl) ?_
                  refine lv_iload_n hx hb dX3_needed_95 rfl (lv_at hl 3 rfl) ?_
                  refine lv_imul hx hb dX3_needed_96 ?_
                  refine lv_goto (tgt := 101) hx hb dX3_needed_97 (by decide) ?_
                  refine lv_istore (lv' := [(8, .int ((nI i) * d)), (0, .ref (Z 0)), (1, .int a), (2, .int b), (3, .int d), (4, .long fr), (6, .long mv), (9, .int (nI i))]) hx hb dX3_needed_101 hl (by decide) rfl (fun ls hl => ?_)
                  refine lv_iinc (v := nI (i + 1)) (lv' := [(9, .int (nI (i + 1))), (8, .int ((nI i) * d)), (0, .ref (Z 0)), (1, .int a), (2, .int b), (3, .int d), (4, .long fr), (6, .long mv)]) hx hb dX3_needed_103 hl (k := 7) rfl (nI_1 i) (by decide) rfl (fun ls hl => ?_)
                  refine lv_goto (tgt := 54) hx hb dX3_needed_106 (by decide) ?_
                  exact ih (i + 1) (nI i * d) (nI i * d) (layG g n (nI i * d) a b) fE9 fK9 H _ _ (by omega) (by omega) (Or.inr ⟨by rw [Int32.le_iff_toInt_le]; exact (nis (A := 5000) (B := 100000) (by omega) q3.1 q3.2 (by omega) (by omega)).1, by rw [hv, show 21 - i = (21 - (i + 1)) + 1 by omega, ne_t c3], rfl⟩) (fun x => lay_lay _ _ _ _ _ _) hP hD hS (lv_sub hl [2, 3, 4, 5, 6, 7, 1, 0] rfl)
        exact lp 22 0 (-1) 0 g fE fK H _ _ (by omega) (by omega) (Or.inl ⟨rfl, rfl, Or.inl rfl⟩) (fun _ => rfl) hP hD hS (lv_sub hl [2, 3, 4, 5, 6, 7, 1, 0] rfl)
      · have q3 : ¬ (rg d 1 5000) := hq6
        refine lv_if_ne (tgt := 38) hx hb dX3_needed_33 (by decide) (fun h9 => absurd h9 (by decide)) (fun _ => ?_)
        refine lv_iconst (v := (-1)) hx hb dX3_needed_36 (by decide) ?_
        exact W.iret (v := (-1)) hx hb hr (fun t9 ht9 hW9 => ⟨⟨_, ((g, n, hs, pe, pk, fo, mo), 0, fE, fK), rfl, (⟨(ned_f (fun h9 => q3 h9.2.2)).symm, rfl⟩), by dsimp only; rw [ht9]; exact hP⟩, hS.F ht9⟩) hS.2.2 dX3_needed_37
    · have q2 : ¬ (rg b 0 3) := hq4
      refine lv_if_eq (tgt := 36) hx hb dX3_needed_22 (by decide) (fun _ => ?_) (fun h9 => absurd h9 (by decide))
      refine lv_iconst (v := (-1)) hx hb dX3_needed_36 (by decide) ?_
      exact W.iret (v := (-1)) hx hb hr (fun t9 ht9 hW9 => ⟨⟨_, ((g, n, hs, pe, pk, fo, mo), 0, fE, fK), rfl, (⟨(ned_f (fun h9 => q2 h9.2.1)).symm, rfl⟩), by dsimp only; rw [ht9]; exact hP⟩, hS.F ht9⟩) hS.2.2 dX3_needed_37
  · have q1 : ¬ (rg a (-2000) 2000) := hq2
    refine lv_if_eq (tgt := 36) hx hb dX3_needed_15 (by decide) (fun _ => ?_) (fun h9 => absurd h9 (by decide))
    refine lv_iconst (v := (-1)) hx hb dX3_needed_36 (by decide) ?_
    exact W.iret (v := (-1)) hx hb hr (fun t9 ht9 hW9 => ⟨⟨_, ((g, n, hs, pe, pk, fo, mo), 0, fE, fK), rfl, (⟨(ned_f (fun h9 => q1 h9.1)).symm, rfl⟩), by dsimp only; rw [ht9]; exact hP⟩, hS.F ht9⟩) hS.2.2 dX3_needed_37
