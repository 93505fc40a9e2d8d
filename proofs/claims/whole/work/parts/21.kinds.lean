set_option maxRecDepth 20000 in
theorem miX0_stressAt_X0 : ∀ w ∈ u_ws RX0 TX0 5, w ∈ wsX0_stressAt := by decide +kernel
set_option maxRecDepth 20000 in
theorem mbX0_stressAt_1 : (.fieldLink RX0 18 "SectionFibres$Kinds" "points" "[I" : Cond) ∈ wsX0_stressAt := by decide +kernel
set_option maxRecDepth 20000 in
theorem mbX0_stressAt_2 : (.fieldLink RX0 9 "SectionFibres$Kinds" "strains" "[I" : Cond) ∈ wsX0_stressAt := by decide +kernel
set_option maxRecDepth 20000 in
theorem mbX0_stressAt_3 : (.fieldLink RX0 15 "SectionFibres$Kinds" "stresses" "[I" : Cond) ∈ wsX0_stressAt := by decide +kernel
set_option maxRecDepth 20000 in
theorem mbX0_stressAt_4 : (.initialized RX2 : Cond) ∈ wsX0_stressAt := by decide +kernel
set_option maxRecDepth 20000 in
theorem mbX0_stressAt_5 : (.static yX2_share : Cond) ∈ wsX0_stressAt := by decide +kernel
set_option maxHeartbeats 4000000 in
set_option maxRecDepth 100000 in
theorem c_X0_stressAt (l : Launch) (dC : Nat → ClassId) (dI : Nat → Nat → Nat) (cA : ClassId) (H : Heap) (A : Nat → Nat) (g : Gg) (n : Nat) (hs pe pk : Int32) (fo mo : Int64) (hP : va_P (dC, dI) vwCl (wC cA A g n hs pe pk fo mo) H) (hg : InvG g) (kd t : Int32) (hkd : vp_in kd 4) : Met l yX0_stressAt wsX0_stressAt ({ frames := 1, cells := 0, slots := 0, locals := 25 }) (rd_P [.ref (A 2), .int kd, .int t] H (dC, dI) vwCl [(cA, .int)]) (rd_Qi H (fun r => r = rwF g kd t)) 0 0 nF := by
  obtain ⟨k, hk, rfl⟩ := vp_in_of hkd (by decide)
  obtain ⟨q, hq, hqe⟩ := vp_in_of (hg.2.2.2.2.2.1 k hk) (by decide)
  refine Met.ofW (cc := cX0_stressAt) (maxL := 7) (ret := (some .int)) (by decide) rfl ?_
  intro p e s m args below meth c s₁ B hml hv
  obtain ⟨rfl, hH, hK, hN⟩ := hv
  subst hH
  have hx := B.exec
  have hb := B.bytes
  have hr := B.returns
  have hts := atoms_spec (ws := wsX0_stressAt) B.pre
  have hown : s.vm.findClass RX0 = some m.cls := findClass_of_methodNamed B.named
  have hlocks := B.notSynchronized
  have hS : va_S nF s.heap s.heap [] := va_S.rf
  have hl := lv_entry ([.ref (A 2), .int (nI k), .int t]) (n := 7) (Nat.le_of_ble_eq_true rfl)
  rw [lg_entry_eq]
  generalize (lg_sl ([.ref (A 2), .int (nI k), .int t]) ++ List.replicate (7 - (lg_sl ([.ref (A 2), .int (nI k), .int t])).length) Slot.unset).toArray = ls at hl ⊢
  have hl : lv_has ls 7 [(0, .ref (A 2)), (1, .int (nI k)), (2, .int t)] := hl
  refine lv_aload_n hx hb dX0_stressAt_0 rfl (lv_at hl 0 rfl) ?_
  refine va_get (D := (dC, dI)) (ci := 1) (v := .ref (A 10)) (C := RX0) (T := TX0) (N := 5) hx hb hts miX0_stressAt_X0 hown hK hP 2 rfl rfl 2 (by decide) (hts (.fieldLink RX0 18 "SectionFibres$Kinds" "points" "[I") mbX0_stressAt_1) (fun _ h9 => h9) rfl dX0_stressAt_1 ?_
  refine lv_iload_n hx hb dX0_stressAt_4 rfl (lv_at hl 1 rfl) ?_
  refine ialn hx hb hK hP 10 0 rfl rfl k (rfl) (by omega) (by decide) dX0_stressAt_5 ?_
  refine tp_i (v := nI q) (hqe) ?_
  refine lv_if_ne (tgt := 11) hx hb dX0_stressAt_6 (by decide) (fun c1 => ?_) (fun c1 => ?_)
  · have hq0 : 0 < q := Nat.pos_of_ne_zero (fun h9 => c1 (by rw [h9]; rfl))
    refine lv_iload_n hx hb dX0_stressAt_11 rfl (lv_at hl 1 rfl) ?_
    refine lv_bipush (v := 8) hx hb dX0_stressAt_12 (by decide) ?_
    refine lv_imul hx hb dX0_stressAt_14 ?_
    refine tp_i (v := nI (8 * k)) ((pk_mul k 8).trans (by rw [Nat.mul_comm k 8])) ?_
    refine lv_istore_n (lv' := [(3, .int (nI (8 * k))), (0, .ref (A 2)), (1, .int (nI k)), (2, .int t)]) hx hb dX0_stressAt_15 rfl hl (by decide) rfl (fun ls hl => ?_)
    refine lv_iload_n hx hb dX0_stressAt_16 rfl (lv_at hl 0 rfl) ?_
    refine lv_aload_n hx hb dX0_stressAt_17 rfl (lv_at hl 1 rfl) ?_
    refine va_get (D := (dC, dI)) (ci := 1) (v := .ref (A 10)) (C := RX0) (T := TX0) (N := 5) hx hb hts miX0_stressAt_X0 hown hK hP 2 rfl rfl 2 (by decide) (hts (.fieldLink RX0 18 "SectionFibres$Kinds" "points" "[I") mbX0_stressAt_1) (fun _ h9 => h9) rfl dX0_stressAt_18 ?_
    refine lv_iload_n hx hb dX0_stressAt_21 rfl (lv_at hl 2 rfl) ?_
    refine ialn hx hb hK hP 10 0 rfl rfl k (rfl) (by omega) (by decide) dX0_stressAt_22 ?_
    refine tp_i (v := nI q) (hqe) ?_
    refine lv_iadd hx hb dX0_stressAt_23 ?_
    refine tp_i (v := nI (8 * k + q)) (nI_add _ _) ?_
    refine lv_iconst (v := 1) hx hb dX0_stressAt_24 (by decide) ?_
    refine lv_isub hx hb dX0_stressAt_25 ?_
    refine tp_i (v := nI (8 * k + q - 1)) (by have h9 := nI_pred (8 * k + q - 1); rwa [show 8 * k + q - 1 + 1 = 8 * k + q by omega] at h9) ?_
    refine lv_istore (lv' := [(4, .int (nI (8 * k + q - 1))), (3, .int (nI (8 * k))), (0, .ref (A 2)), (1, .int (nI k)), (2, .int t)]) hx hb dX0_stressAt_26 hl (by decide) rfl (fun ls hl => ?_)
    refine lv_iload_n hx hb dX0_stressAt_28 rfl (lv_at hl 4 rfl) ?_
    refine lv_aload_n hx hb dX0_stressAt_29 rfl (lv_at hl 2 rfl) ?_
    refine va_get (D := (dC, dI)) (ci := 1) (v := .ref (A 8)) (C := RX0) (T := TX0) (N := 5) hx hb hts miX0_stressAt_X0 hown hK hP 2 rfl rfl 0 (by decide) (hts (.fieldLink RX0 9 "SectionFibres$Kinds" "strains" "[I") mbX0_stressAt_2) (fun _ h9 => h9) rfl dX0_stressAt_30 ?_
    refine lv_iload_n hx hb dX0_stressAt_33 rfl (lv_at hl 1 rfl) ?_
    refine ialn hx hb hK hP 8 0 rfl rfl (8 * k) (rfl) (by omega) (by decide) dX0_stressAt_34 ?_
    refine lv_icmp_gt (tgt := 45) hx hb dX0_stressAt_35 (by decide) (fun c2 => ?_) (fun c2 => ?_)
    · refine lv_iload_n hx hb dX0_stressAt_45 rfl (lv_at hl 1 rfl) ?_
      refine lv_istore (lv' := [(5, .int (nI (8 * k))), (4, .int (nI (8 * k + q - 1))), (3, .int (nI (8 * k))), (0, .ref (A 2)), (1, .int (nI k)), (2, .int t)]) hx hb dX0_stressAt_46 hl (by decide) rfl (fun ls hl => ?_)
      have lp : ∀ (z : Nat) (i : Nat) (locs : List Loc) (ls : Array Slot), 8 * k ≤ i → i + 1 ≤ 8 * k + q → 8 * k + q ≤ i + z → rwF g (nI k) t = rwL (g 5) (g 6) t (8 * k + q - 1 - i) i → va_S nF s.heap s.heap locs → lv_has ls 7 [(0, .ref (A 2)), (1, .int (nI k)), (2, .int t), (3, .int (nI (8 * k))), (4, .int (nI (8 * k + q - 1))), (5, .int (nI i))] → W p l e (headSpec wsX0_stressAt ({ frames := 1, cells := 0, slots := 0, locals := 25 })).room s m ([.ref (A 2), .int (nI k), .int t]).toArray below meth c s.heap locs 0 0 (MQ below (rd_Qi s.heap (fun r => r = rwF g (nI k) t)) ([.ref (A 2), .int (nI k), .int t]).toArray s 0 0 nF) (F0 m 48 ls []) := by
        intro z
        induction z with
        | zero =>
          intro i locs ls h1 h2 h3 hv hS hl
          exact absurd h3 (by omega)
        | succ z ih =>
          intro i locs ls h1 h2 h3 hv hS hl
          refine lv_iload hx hb dX0_stressAt_48 (lv_at hl 5 rfl) ?_
          refine lv_iload hx hb dX0_stressAt_50 (lv_at hl 4 rfl) ?_
          refine lv_icmp_ge (tgt := 136) hx hb dX0_stressAt_52 (by decide) (fun c3 => ?_) (fun c3 => ?_)
          · have hi : i = 8 * k + q - 1 := by have h9 := (nI_leI (by omega) (by omega)).mp c3; omega
            refine lv_aload_n hx hb dX0_stressAt_136 rfl (lv_at hl 0 rfl) ?_
            refine va_get (D := (dC, dI)) (ci := 1) (v := .ref (A 9)) (C := RX0) (T := TX0) (N := 5) hx hb hts miX0_stressAt_X0 hown hK hP 2 rfl rfl 1 (by decide) (hts (.fieldLink RX0 15 "SectionFibres$Kinds" "stresses" "[I") mbX0_stressAt_3) (fun _ h9 => h9) rfl dX0_stressAt_137 ?_
            refine lv_iload hx hb dX0_stressAt_140 (lv_at hl 4 rfl) ?_
            refine ialn hx hb hK hP 9 0 rfl rfl (8 * k + q - 1) (rfl) (by omega) (by decide) dX0_stressAt_142 ?_
            exact W.iret (v := (g 6 (8 * k + q - 1))) hx hb hr (fun t9 ht9 hW9 => ⟨⟨_, (), rfl, (by rw [hv, hi, show 8 * k + q - 1 - (8 * k + q - 1) = 0 by omega, rwL_0]), ht9⟩, hS.F ht9⟩) hS.2.2 dX0_stressAt_143
          · have hi : i < 8 * k + q - 1 := by rcases Nat.lt_or_ge i (8 * k + q - 1) with h9 | h9; exact h9; exact absurd (nI_le h9 (by omega)) c3
            refine lv_iload_n hx hb dX0_stressAt_55 rfl (lv_at hl 2 rfl) ?_
            refine lv_aload_n hx hb dX0_stressAt_56 rfl (lv_at hl 0 rfl) ?_
            refine va_get (D := (dC, dI)) (ci := 1) (v := .ref (A 8)) (C := RX0) (T := TX0) (N := 5) hx hb hts miX0_stressAt_X0 hown hK hP 2 rfl rfl 0 (by decide) (hts (.fieldLink RX0 9 "SectionFibres$Kinds" "strains" "[I") mbX0_stressAt_2) (fun _ h9 => h9) rfl dX0_stressAt_57 ?_
            refine lv_iload hx hb dX0_stressAt_60 (lv_at hl 5 rfl) ?_
            refine lv_iconst (v := 1) hx hb dX0_stressAt_62 (by decide) ?_
            refine lv_iadd hx hb dX0_stressAt_63 ?_
            refine tp_i (v := nI (i + 1)) (nI_1 i) ?_
            refine ialn hx hb hK hP 8 0 rfl rfl (i + 1) (rfl) (by omega) (by decide) dX0_stressAt_64 ?_
            refine lv_icmp_ge (tgt := 130) hx hb dX0_stressAt_65 (by decide) (fun c4 => ?_) (fun c4 => ?_)
            · refine lv_iinc (v := nI (i + 1)) (lv' := [(5, .int (nI (i + 1))), (0, .ref (A 2)), (1, .int (nI k)), (2, .int t), (3, .int (nI (8 * k))), (4, .int (nI (8 * k + q - 1)))]) hx hb dX0_stressAt_130 hl (k := 5) rfl (nI_1 i) (by decide) rfl (fun ls hl => ?_)
              refine lv_goto (tgt := 48) hx hb dX0_stressAt_133 (by decide) ?_
              exact ih (i + 1) _ _ (by omega) (by omega) (by omega) (by rw [hv, show 8 * k + q - 1 - i = (8 * k + q - 1 - (i + 1)) + 1 by omega, rwL_s, if_neg (le_nlt c4)]) hS (lv_sub hl [1, 2, 3, 4, 5, 0] rfl)
            · refine lv_aload_n hx hb dX0_stressAt_68 rfl (lv_at hl 0 rfl) ?_
              refine va_get (D := (dC, dI)) (ci := 1) (v := .ref (A 9)) (C := RX0) (T := TX0) (N := 5) hx hb hts miX0_stressAt_X0 hown hK hP 2 rfl rfl 1 (by decide) (hts (.fieldLink RX0 15 "SectionFibres$Kinds" "stresses" "[I") mbX0_stressAt_3) (fun _ h9 => h9) rfl dX0_stressAt_69 ?_
              refine lv_iload hx hb dX0_stressAt_72 (lv_at hl 5 rfl) ?_
              refine lv_iconst (v := 1) hx hb dX0_stressAt_74 (by decide) ?_
              refine lv_iadd hx hb dX0_stressAt_75 ?_
              refine tp_i (v := nI (i + 1)) (nI_1 i) ?_
              refine ialn hx hb hK hP 9 0 rfl rfl (i + 1) (rfl) (by omega) (by decide) dX0_stressAt_76 ?_
              refine lv_aload_n hx hb dX0_stressAt_77 rfl (lv_at hl 0 rfl) ?_
              refine va_get (D := (dC, dI)) (ci := 1) (v := .ref (A 9)) (C := RX0) (T := TX0) (N := 5) hx hb hts miX0_stressAt_X0 hown hK hP 2 rfl rfl 1 (by decide) (hts (.fieldLink RX0 15 "SectionFibres$Kinds" "stresses" "[I") mbX0_stressAt_3) (fun _ h9 => h9) rfl dX0_stressAt_78 ?_
              refine lv_iload hx hb dX0_stressAt_81 (lv_at hl 5 rfl) ?_
              refine ialn hx hb hK hP 9 0 rfl rfl i (rfl) (by omega) (by decide) dX0_stressAt_83 ?_
              refine lv_isub hx hb dX0_stressAt_84 ?_
              refine lv_istore (lv' := [(6, .int ((g 6 (i + 1)) - (g 6 i))), (0, .ref (A 2)), (1, .int (nI k)), (2, .int t), (3, .int (nI (8 * k))), (4, .int (nI (8 * k + q - 1))), (5, .int (nI i))]) hx hb dX0_stressAt_85 hl (by decide) rfl (fun ls hl => ?_)
              refine lv_aload_n hx hb dX0_stressAt_87 rfl (lv_at hl 1 rfl) ?_
              refine va_get (D := (dC, dI)) (ci := 1) (v := .ref (A 9)) (C := RX0) (T := TX0) (N := 5) hx hb hts miX0_stressAt_X0 hown hK hP 2 rfl rfl 1 (by decide) (hts (.fieldLink RX0 15 "SectionFibres$Kinds" "stresses" "[I") mbX0_stressAt_3) (fun _ h9 => h9) rfl dX0_stressAt_88 ?_
              refine lv_iload hx hb dX0_stressAt_91 (lv_at hl 6 rfl) ?_
              refine ialn hx hb hK hP 9 0 rfl rfl i (rfl) (by omega) (by decide) dX0_stressAt_93 ?_
              refine lv_iload hx hb dX0_stressAt_94 (lv_at hl 0 rfl) ?_
              refine lv_i2l hx hb dX0_stressAt_96 rfl ?_
              refine lv_iload_n hx hb dX0_stressAt_97 rfl (lv_at hl 3 rfl) ?_
              refine lv_aload_n hx hb dX0_stressAt_98 rfl (lv_at hl 1 rfl) ?_
              refine va_get (D := (dC, dI)) (ci := 1) (v := .ref (A 8)) (C := RX0) (T := TX0) (N := 5) hx hb hts miX0_stressAt_X0 hown hK hP 2 rfl rfl 0 (by decide) (hts (.fieldLink RX0 9 "SectionFibres$Kinds" "strains" "[I") mbX0_stressAt_2) (fun _ h9 => h9) rfl dX0_stressAt_99 ?_
              refine lv_iload hx hb dX0_stressAt_102 (lv_at hl 6 rfl) ?_
              refine ialn hx hb hK hP 8 0 rfl rfl i (rfl) (by omega) (by decide) dX0_stressAt_104 ?_
              refine lv_isub hx hb dX0_stressAt_105 ?_
              refine lv_i2l hx hb dX0_stressAt_106 rfl ?_
              refine lv_aload_n hx hb dX0_stressAt_107 rfl (lv_at hl 1 rfl) ?_
              refine va_get (D := (dC, dI)) (ci := 1) (v := .ref (A 8)) (C := RX0) (T := TX0) (N := 5) hx hb hts miX0_stressAt_X0 hown hK hP 2 rfl rfl 0 (by decide) (hts (.fieldLink RX0 9 "SectionFibres$Kinds" "strains" "[I") mbX0_stressAt_2) (fun _ h9 => h9) rfl dX0_stressAt_108 ?_
              refine lv_iload hx hb dX0_stressAt_111 (lv_at hl 6 rfl) ?_
              refine lv_iconst (v := 1) hx hb dX0_stressAt_113 (by decide) ?_
              refine lv_iadd hx hb dX0_stressAt_114 ?_
              refine tp_i (v := nI (i + 1)) (nI_1 i) ?_
              refine ialn hx hb hK hP 8 0 rfl rfl (i + 1) (rfl) (by omega) (by decide) dX0_stressAt_115 ?_
              refine lv_aload_n hx hb dX0_stressAt_116 rfl (lv_at hl 1 rfl) ?_
              refine va_get (D := (dC, dI)) (ci := 1) (v := .ref (A 8)) (C := RX0) (T := TX0) (N := 5) hx hb hts miX0_stressAt_X0 hown hK hP 2 rfl rfl 0 (by decide) (hts (.fieldLink RX0 9 "SectionFibres$Kinds" "strains" "[I") mbX0_stressAt_2) (fun _ h9 => h9) rfl dX0_stressAt_117 ?_
              refine lv_iload hx hb dX0_stressAt_120 (lv_at hl 6 rfl) ?_
              refine ialn hx hb hK hP 8 0 rfl rfl i (rfl) (by omega) (by decide) dX0_stressAt_122 ?_
              refine lv_isub hx hb dX0_stressAt_123 ?_
              refine lv_i2l hx hb dX0_stressAt_124 rfl ?_
              refine rd_i (va_runSN (As := [.long (((g 6 (i + 1)) - (g 6 i)).toInt64), .long ((t - (g 5 i)).toInt64), .long (((g 5 (i + 1)) - (g 5 i)).toInt64)]) (rest := [.int (g 6 i)]) ⟨hx, hb, hml, hown, hts⟩ (c_X2_share l dC dI cA s.heap (((g 6 (i + 1)) - (g 6 i)).toInt64) ((t - (g 5 i)).toInt64) (((g 5 (i + 1)) - (g 5 i)).toInt64)) ⟨(va_cnB 3 hts gX0_stressAt_X2_share_n27 rfl rfl rfl (hN (.methodLinkNest RX0 27 yX2_share "SectionFibres") (List.mem_of_getElem? (i := 9) rfl)) (hts (.initialized RX2) mbX0_stressAt_4) (by decide +kernel) ⟨Nat.le_of_ble_eq_true rfl, Nat.le_of_ble_eq_true rfl⟩), hts (.static yX2_share) mbX0_stressAt_5, trivial⟩ ⟨rd_bl, rd_pre hK hN⟩ rfl rfl hl.1 rfl (lv_room (Nat.le_of_ble_eq_true rfl)) dX0_stressAt_125 ⟨Nat.zero_le _, Nat.zero_le _⟩) hS (fun r1 locs hq2 hS => ?_)
              have hq2 : r1 = sh (((g 6 (i + 1)) - (g 6 i)).toInt64) ((t - (g 5 i)).toInt64) (((g 5 (i + 1)) - (g 5 i)).toInt64) := hq2
              subst hq2
              refine lv_iadd hx hb dX0_stressAt_128 ?_
              exact W.iret (v := ((g 6 i) + (sh (((g 6 (i + 1)) - (g 6 i)).toInt64) ((t - (g 5 i)).toInt64) (((g 5 (i + 1)) - (g 5 i)).toInt64)))) hx hb hr (fun t9 ht9 hW9 => ⟨⟨_, (), rfl, (by rw [hv, show 8 * k + q - 1 - i = (8 * k + q - 1 - (i + 1)) + 1 by omega, rwL_s, if_pos (nle_lt c4)]), ht9⟩, hS.F ht9⟩) hS.2.2 dX0_stressAt_129
      exact lp (q + 1) (8 * k) _ _ (by omega) (by omega) (by omega) (by rw [rwF_k hk, hqe, if_neg c1, if_neg (lt_nle c2), nI_clamp (n := q) (by omega), show 8 * k + q - 1 - 8 * k = q - 1 by omega]) hS (lv_sub hl [3, 4, 5, 2, 1, 0] rfl)
    · refine lv_aload_n hx hb dX0_stressAt_38 rfl (lv_at hl 2 rfl) ?_
      refine va_get (D := (dC, dI)) (ci := 1) (v := .ref (A 9)) (C := RX0) (T := TX0) (N := 5) hx hb hts miX0_stressAt_X0 hown hK hP 2 rfl rfl 1 (by decide) (hts (.fieldLink RX0 15 "SectionFibres$Kinds" "stresses" "[I") mbX0_stressAt_3) (fun _ h9 => h9) rfl dX0_stressAt_39 ?_
      refine lv_iload_n hx hb dX0_stressAt_42 rfl (lv_at hl 1 rfl) ?_
      refine ialn hx hb hK hP 9 0 rfl rfl (8 * k) (rfl) (by omega) (by decide) dX0_stressAt_43 ?_
      exact W.iret (v := (g 6 (8 * k))) hx hb hr (fun t9 ht9 hW9 => ⟨⟨_, (), rfl, (by rw [rwF_k hk, hqe, if_neg c1, if_pos (nlt_le c2)]), ht9⟩, hS.F ht9⟩) hS.2.2 dX0_stressAt_44
  · refine lv_iconst (v := 0) hx hb dX0_stressAt_9 (by decide) ?_
    exact W.iret (v := 0) hx hb hr (fun t9 ht9 hW9 => ⟨⟨_, (), rfl, (by rw [rwF_k hk, hqe, if_pos c1]), ht9⟩, hS.F ht9⟩) hS.2.2 dX0_stressAt_10

set_option maxRecDepth 20000 in
theorem miX0_isBeyond_X0 : ∀ w ∈ u_ws RX0 TX0 5, w ∈ wsX0_isBeyond := by decide +kernel
set_option maxRecDepth 20000 in
theorem mbX0_isBeyond_1 : (.fieldLink RX0 18 "SectionFibres$Kinds" "points" "[I" : Cond) ∈ wsX0_isBeyond := by decide +kernel
set_option maxRecDepth 20000 in
theorem mbX0_isBeyond_2 : (.fieldLink RX0 9 "SectionFibres$Kinds" "strains" "[I" : Cond) ∈ wsX0_isBeyond := by decide +kernel
set_option maxHeartbeats 4000000 in
set_option maxRecDepth 100000 in
theorem c_X0_isBeyond (l : Launch) (dC : Nat → ClassId) (dI : Nat → Nat → Nat) (cA : ClassId) (H : Heap) (A : Nat → Nat) (g : Gg) (n : Nat) (hs pe pk : Int32) (fo mo : Int64) (hP : va_P (dC, dI) vwCl (wC cA A g n hs pe pk fo mo) H) (hg : InvG g) (kd t : Int32) (hkd : vp_in kd 4) : Met l yX0_isBeyond wsX0_isBeyond ({ frames := 0, cells := 0, slots := 0, locals := 0 }) (rd_P [.ref (A 2), .int kd, .int t] H (dC, dI) vwCl [(cA, .int)]) (rd_Qi H (fun r => (byF g kd t ∧ r = 1) ∨ (¬ (byF g kd t) ∧ r = 0))) 0 0 nF := by
  obtain ⟨k, hk, rfl⟩ := vp_in_of hkd (by decide)
  obtain ⟨q, hq, hqe⟩ := vp_in_of (hg.2.2.2.2.2.1 k hk) (by decide)
  refine Met.ofW (cc := cX0_isBeyond) (maxL := 4) (ret := (some .boolean)) (by decide) rfl ?_
  intro p e s m args below meth c s₁ B hml hv
  obtain ⟨rfl, hH, hK, hN⟩ := hv
  subst hH
  have hx := B.exec
  have hb := B.bytes
  have hr := B.returns
  have hts := atoms_spec (ws := wsX0_isBeyond) B.pre
  have hown : s.vm.findClass RX0 = some m.cls := findClass_of_methodNamed B.named
  have hlocks := B.notSynchronized
  have hS : va_S nF s.heap s.heap [] := va_S.rf
  have hl := lv_entry ([.ref (A 2), .int (nI k), .int t]) (n := 4) (Nat.le_of_ble_eq_true rfl)
  rw [lg_entry_eq]
  generalize (lg_sl ([.ref (A 2), .int (nI k), .int t]) ++ List.replicate (4 - (lg_sl ([.ref (A 2), .int (nI k), .int t])).length) Slot.unset).toArray = ls at hl ⊢
  have hl : lv_has ls 4 [(0, .ref (A 2)), (1, .int (nI k)), (2, .int t)] := hl
  refine lv_aload_n hx hb dX0_isBeyond_0 rfl (lv_at hl 0 rfl) ?_
  refine va_get (D := (dC, dI)) (ci := 1) (v := .ref (A 10)) (C := RX0) (T := TX0) (N := 5) hx hb hts miX0_isBeyond_X0 hown hK hP 2 rfl rfl 2 (by decide) (hts (.fieldLink RX0 18 "SectionFibres$Kinds" "points" "[I") mbX0_isBeyond_1) (fun _ h9 => h9) rfl dX0_isBeyond_1 ?_
  refine lv_iload_n hx hb dX0_isBeyond_4 rfl (lv_at hl 1 rfl) ?_
  refine ialn hx hb hK hP 10 0 rfl rfl k (rfl) (by omega) (by decide) dX0_isBeyond_5 ?_
  refine tp_i (v := nI q) (hqe) ?_
  refine lv_if_ne (tgt := 11) hx hb dX0_isBeyond_6 (by decide) (fun c1 => ?_) (fun c1 => ?_)
  · have hq0 : 0 < q := Nat.pos_of_ne_zero (fun h9 => c1 (by rw [h9]; rfl))
    refine lv_iload_n hx hb dX0_isBeyond_11 rfl (lv_at hl 1 rfl) ?_
    refine lv_bipush (v := 8) hx hb dX0_isBeyond_12 (by decide) ?_
    refine lv_imul hx hb dX0_isBeyond_14 ?_
    refine tp_i (v := nI (8 * k)) ((pk_mul k 8).trans (by rw [Nat.mul_comm k 8])) ?_
    refine lv_istore_n (lv' := [(3, .int (nI (8 * k))), (0, .ref (A 2)), (1, .int (nI k)), (2, .int t)]) hx hb dX0_isBeyond_15 rfl hl (by decide) rfl (fun ls hl => ?_)
    refine lv_iload_n hx hb dX0_isBeyond_16 rfl (lv_at hl 3 rfl) ?_
    refine lv_aload_n hx hb dX0_isBeyond_17 rfl (lv_at hl 1 rfl) ?_
    refine va_get (D := (dC, dI)) (ci := 1) (v := .ref (A 8)) (C := RX0) (T := TX0) (N := 5) hx hb hts miX0_isBeyond_X0 hown hK hP 2 rfl rfl 0 (by decide) (hts (.fieldLink RX0 9 "SectionFibres$Kinds" "strains" "[I") mbX0_isBeyond_2) (fun _ h9 => h9) rfl dX0_isBeyond_18 ?_
    refine lv_iload_n hx hb dX0_isBeyond_21 rfl (lv_at hl 0 rfl) ?_
    refine ialn hx hb hK hP 8 0 rfl rfl (8 * k) (rfl) (by omega) (by decide) dX0_isBeyond_22 ?_
    refine lv_icmp_lt (tgt := 45) hx hb dX0_isBeyond_23 (by decide) (fun c2 => ?_) (fun c2 => ?_)
    · refine lv_iconst (v := 1) hx hb dX0_isBeyond_45 (by decide) ?_
      refine lv_goto (tgt := 50) hx hb dX0_isBeyond_46 (by decide) ?_
      exact W.zret (ty := .boolean) (v := 1) hx hb hr (by decide) (fun t9 ht9 hW9 => ⟨⟨_, (), rfl, (Or.inl ⟨by rw [byF_k hk, hqe]; exact ⟨c1, Or.inl c2⟩, rfl⟩), ht9⟩, hS.F ht9⟩) hS.2.2 dX0_isBeyond_50
    · refine lv_iload_n hx hb dX0_isBeyond_26 rfl (lv_at hl 3 rfl) ?_
      refine lv_aload_n hx hb dX0_isBeyond_27 rfl (lv_at hl 1 rfl) ?_
      refine va_get (D := (dC, dI)) (ci := 1) (v := .ref (A 8)) (C := RX0) (T := TX0) (N := 5) hx hb hts miX0_isBeyond_X0 hown hK hP 2 rfl rfl 0 (by decide) (hts (.fieldLink RX0 9 "SectionFibres$Kinds" "strains" "[I") mbX0_isBeyond_2) (fun _ h9 => h9) rfl dX0_isBeyond_28 ?_
      refine lv_iload_n hx hb dX0_isBeyond_31 rfl (lv_at hl 0 rfl) ?_
      refine lv_aload_n hx hb dX0_isBeyond_32 rfl (lv_at hl 1 rfl) ?_
      refine va_get (D := (dC, dI)) (ci := 1) (v := .ref (A 10)) (C := RX0) (T := TX0) (N := 5) hx hb hts miX0_isBeyond_X0 hown hK hP 2 rfl rfl 2 (by decide) (hts (.fieldLink RX0 18 "SectionFibres$Kinds" "points" "[I") mbX0_isBeyond_1) (fun _ h9 => h9) rfl dX0_isBeyond_33 ?_
      refine lv_iload_n hx hb dX0_isBeyond_36 rfl (lv_at hl 2 rfl) ?_
      refine ialn hx hb hK hP 10 0 rfl rfl k (rfl) (by omega) (by decide) dX0_isBeyond_37 ?_
      refine tp_i (v := nI q) (hqe) ?_
      refine lv_iadd hx hb dX0_isBeyond_38 ?_
      refine tp_i (v := nI (8 * k + q)) (nI_add _ _) ?_
      refine lv_iconst (v := 1) hx hb dX0_isBeyond_39 (by decide) ?_
      refine lv_isub hx hb dX0_isBeyond_40 ?_
      refine tp_i (v := nI (8 * k + q - 1)) (by have h9 := nI_pred (8 * k + q - 1); rwa [show 8 * k + q - 1 + 1 = 8 * k + q by omega] at h9) ?_
      refine ialn hx hb hK hP 8 0 rfl rfl (8 * k + q - 1) (rfl) (by omega) (by decide) dX0_isBeyond_41 ?_
      refine lv_icmp_le (tgt := 49) hx hb dX0_isBeyond_42 (by decide) (fun c3 => ?_) (fun c3 => ?_)
      · refine lv_iconst (v := 0) hx hb dX0_isBeyond_49 (by decide) ?_
        exact W.zret (ty := .boolean) (v := 0) hx hb hr (by decide) (fun t9 ht9 hW9 => ⟨⟨_, (), rfl, (Or.inr ⟨fun h9 => by rw [byF_k hk, hqe, nI_clamp (n := q) (by omega)] at h9; exact h9.2.elim c2 (le_nlt c3), rfl⟩), ht9⟩, hS.F ht9⟩) hS.2.2 dX0_isBeyond_50
      · refine lv_iconst (v := 1) hx hb dX0_isBeyond_45 (by decide) ?_
        refine lv_goto (tgt := 50) hx hb dX0_isBeyond_46 (by decide) ?_
        exact W.zret (ty := .boolean) (v := 1) hx hb hr (by decide) (fun t9 ht9 hW9 => ⟨⟨_, (), rfl, (Or.inl ⟨by rw [byF_k hk, hqe, nI_clamp (n := q) (by omega)]; exact ⟨c1, Or.inr (nle_lt c3)⟩, rfl⟩), ht9⟩, hS.F ht9⟩) hS.2.2 dX0_isBeyond_50
  · refine lv_iconst (v := 0) hx hb dX0_isBeyond_9 (by decide) ?_
    exact W.zret (ty := .boolean) (v := 0) hx hb hr (by decide) (fun t9 ht9 hW9 => ⟨⟨_, (), rfl, (Or.inr ⟨fun h9 => by rw [byF_k hk, hqe] at h9; exact h9.1 c1, rfl⟩), ht9⟩, hS.F ht9⟩) hS.2.2 dX0_isBeyond_10
