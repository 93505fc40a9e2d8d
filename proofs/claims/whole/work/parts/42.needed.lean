set_option maxRecDepth 20000 in
theorem miX2_needed_X2 : ∀ w ∈ u_ws RX2 TX2 6, w ∈ wsX2_needed := by decide +kernel
set_option maxRecDepth 20000 in
theorem mbX2_needed_1 : (.fieldLink RX2 10 "SectionFibres" "section" "LSectionFibres$Section;" : Cond) ∈ wsX2_needed := by decide +kernel
set_option maxRecDepth 20000 in
theorem mbX2_needed_2 : (.initialized RX1 : Cond) ∈ wsX2_needed := by decide +kernel
set_option maxRecDepth 20000 in
theorem mbX2_needed_3 : (.instanceMethod yX1_add : Cond) ∈ wsX2_needed := by decide +kernel
set_option maxRecDepth 20000 in
theorem mbX2_needed_4 : (.selects RX1 yX1_add yX1_add : Cond) ∈ wsX2_needed := by decide +kernel
set_option maxRecDepth 20000 in
theorem mbX2_needed_5 : (.instanceMethod yX1_dropLast : Cond) ∈ wsX2_needed := by decide +kernel
set_option maxRecDepth 20000 in
theorem mbX2_needed_6 : (.selects RX1 yX1_dropLast yX1_dropLast : Cond) ∈ wsX2_needed := by decide +kernel
set_option maxRecDepth 20000 in
theorem mbX2_needed_7 : (.instanceMethod yX1_setLastArea : Cond) ∈ wsX2_needed := by decide +kernel
set_option maxRecDepth 20000 in
theorem mbX2_needed_8 : (.selects RX1 yX1_setLastArea yX1_setLastArea : Cond) ∈ wsX2_needed := by decide +kernel
set_option maxRecDepth 20000 in
theorem mbX2_needed_9 : (.instanceMethod yX1_bendFor : Cond) ∈ wsX2_needed := by decide +kernel
set_option maxRecDepth 20000 in
theorem mbX2_needed_10 : (.selects RX1 yX1_bendFor yX1_bendFor : Cond) ∈ wsX2_needed := by decide +kernel
set_option maxHeartbeats 4000000 in
set_option maxRecDepth 100000 in
theorem c_X2_needed (l : Launch) (dC : Nat → ClassId) (dI : Nat → Nat → Nat) (cA : ClassId) (H : Heap) (A : Nat → Nat) (g : Gg) (n : Nat) (hs pe pk : Int32) (fo mo : Int64) (hP : va_P (dC, dI) vwCl (wC cA A g n hs pe pk fo mo) H) (hD : va_D (fun _ => True) (wC cA A g n hs pe pk fo mo)) (hg : InvG g) (hn : n ≤ 40) (a b d : Int32) (fr mv : Int64) : Met l yX2_needed wsX2_needed ({ frames := 6, cells := 0, slots := 0, locals := 158 }) (rd_P [.ref (A 0), .int a, .int b, .int d, .long fr, .long mv] H (dC, dI) vwCl [(cA, .int)]) (va_Qi (fun (r : Int32) (u : St) => (r, u) = nedF (g, n, hs, pe, pk, fo, mo) a b d fr mv) (fun u t => bC dC dI cA A u t.heap) (va_A (wC cA A g n hs pe pk fo mo) H.size)) 0 0 (va_A (wC cA A g n hs pe pk fo mo) H.size) := by
  refine Met.ofW (cc := cX2_needed) (maxL := 10) (ret := (some .int)) (by decide) rfl ?_
  intro p e s m args below meth c s₁ B hml hv
  obtain ⟨rfl, hH, hK, hN⟩ := hv
  subst hH
  have hx := B.exec
  have hb := B.bytes
  have hr := B.returns
  have hts := atoms_spec (ws := wsX2_needed) B.pre
  have hown : s.vm.findClass RX2 = some m.cls := findClass_of_methodNamed B.named
  have hlocks := B.notSynchronized
  have hD := hD.self (sz := s.heap.size)
  generalize hAe : va_A (wC cA A g n hs pe pk fo mo) s.heap.size = Av at hD ⊢
  have hA : ∀ q : Nat, s.heap.size ≤ q → Av q := fun q h => by rw [← hAe]; exact Or.inr h
  have hS : va_S Av s.heap s.heap [] := va_S.rf
  have hl := lv_entry ([.ref (A 0), .int a, .int b, .int d, .long fr, .long mv]) (n := 10) (Nat.le_of_ble_eq_true rfl)
  rw [lg_entry_eq]
  generalize (lg_sl ([.ref (A 0), .int a, .int b, .int d, .long fr, .long mv]) ++ List.replicate (10 - (lg_sl ([.ref (A 0), .int a, .int b, .int d, .long fr, .long mv])).length) Slot.unset).toArray = ls at hl ⊢
  have hl : lv_has ls 10 [(0, .ref (A 0)), (1, .int a), (2, .int b), (3, .int d), (4, .long fr), (6, .long mv)] := hl
  refine lv_iload_n hx hb dX2_needed_0 rfl (lv_at hl 1 rfl) ?_
  refine rd_i (va_runS (As := [.int a]) (rest := []) ⟨hx, hb, hml, hown, hts⟩ (c_X2_isPlace l dC dI cA s.heap a) (va_cwS 1 hts gX2_needed_X2_isPlace rfl rfl rfl (by decide +kernel) ⟨Nat.le_of_ble_eq_true rfl, Nat.le_of_ble_eq_true rfl⟩) ⟨rd_bl, rd_pre hK hN⟩ rfl rfl hl.1 rfl (lv_room (Nat.le_of_ble_eq_true rfl)) dX2_needed_1 ⟨Nat.zero_le _, Nat.zero_le _⟩) hS (fun r1 locs hq2 hS => ?_)
  rcases hq2 with ⟨hq2, rfl⟩ | ⟨hq2, rfl⟩
  · have q1 : rg a (-2000) 2000 := hq2
    refine lv_if_eq (tgt := 25) hx hb dX2_needed_4 (by decide) (fun h9 => absurd h9 (by decide)) (fun _ => ?_)
    refine lv_iload_n hx hb dX2_needed_7 rfl (lv_at hl 2 rfl) ?_
    refine rd_i (va_runS (As := [.int b]) (rest := []) ⟨hx, hb, hml, hown, hts⟩ (c_X2_isKind l dC dI cA s.heap b) (va_cwS 1 hts gX2_needed_X2_isKind rfl rfl rfl (by decide +kernel) ⟨Nat.le_of_ble_eq_true rfl, Nat.le_of_ble_eq_true rfl⟩) ⟨rd_bl, rd_pre hK hN⟩ rfl rfl hl.1 rfl (lv_room (Nat.le_of_ble_eq_true rfl)) dX2_needed_8 ⟨Nat.zero_le _, Nat.zero_le _⟩) hS (fun r3 locs hq4 hS => ?_)
    rcases hq4 with ⟨hq4, rfl⟩ | ⟨hq4, rfl⟩
    · have q2 : rg b 0 3 := hq4
      refine lv_if_eq (tgt := 25) hx hb dX2_needed_11 (by decide) (fun h9 => absurd h9 (by decide)) (fun _ => ?_)
      refine lv_iload_n hx hb dX2_needed_14 rfl (lv_at hl 3 rfl) ?_
      refine lv_iconst (v := 1) hx hb dX2_needed_15 (by decide) ?_
      refine lv_sipush (v := 5000) hx hb dX2_needed_16 (by decide) ?_
      refine rd_i (va_runS (As := [.int d, .int 1, .int 5000]) (rest := []) ⟨hx, hb, hml, hown, hts⟩ (c_X2_within l dC dI cA s.heap d 1 5000 1 5000 (by decide) (by decide)) (va_cwS 3 hts gX2_needed_X2_within rfl rfl rfl (by decide +kernel) ⟨Nat.le_of_ble_eq_true rfl, Nat.le_of_ble_eq_true rfl⟩) ⟨rd_bl, rd_pre hK hN⟩ rfl rfl hl.1 rfl (lv_room (Nat.le_of_ble_eq_true rfl)) dX2_needed_19 ⟨Nat.zero_le _, Nat.zero_le _⟩) hS (fun r5 locs hq6 hS => ?_)
      rcases hq6 with ⟨hq6, rfl⟩ | ⟨hq6, rfl⟩
      · have q3 : rg d 1 5000 := hq6
        refine lv_if_ne (tgt := 27) hx hb dX2_needed_22 (by decide) (fun _ => ?_) (fun h9 => absurd h9 (by decide))
        refine lv_iconst (v := (-1)) hx hb dX2_needed_27 (by decide) ?_
        refine lv_istore (lv' := [(8, .int (-1)), (0, .ref (A 0)), (1, .int a), (2, .int b), (3, .int d), (4, .long fr), (6, .long mv)]) hx hb dX2_needed_28 hl (by decide) rfl (fun ls hl => ?_)
        refine lv_aload_n hx hb dX2_needed_30 rfl (lv_at hl 1 rfl) ?_
        refine va_get (D := (dC, dI)) (ci := 3) (v := .ref (A 1)) (C := RX2) (T := TX2) (N := 6) hx hb hts miX2_needed_X2 hown hK hP 0 rfl rfl 0 (by decide) (hts (.fieldLink RX2 10 "SectionFibres" "section" "LSectionFibres$Section;") mbX2_needed_1) (fun _ h9 => h9) rfl dX2_needed_31 ?_
        refine lv_iconst (v := 0) hx hb dX2_needed_34 (by decide) ?_
        refine lv_iload_n hx hb dX2_needed_35 rfl (lv_at hl 2 rfl) ?_
        refine lv_iload_n hx hb dX2_needed_36 rfl (lv_at hl 3 rfl) ?_
        have hFc := va_free (wc := (wC cA A g n hs pe pk fo mo)) hD hS hA [0, 1, 2, 3, 4, 5, 6, 7, 8, 9, 10, 11, 12] rfl
        refine mu_v (va_runVN (As := [.int 0, .int a, .int b]) (rest := []) ⟨hx, hb, hml, hown, hts⟩ (c_X1_add l dC dI cA s.heap A g n hs pe pk fo mo hP (hD.weaken (fun _ _ _ _ => trivial)) (by omega) 0 a b) ⟨(va_cnB 3 hts gX2_needed_X1_add_n32 rfl rfl rfl (hN (.methodLinkNest RX2 32 yX1_add "SectionFibres") (List.mem_of_getElem? (i := 2) rfl)) (hts (.initialized RX1) mbX2_needed_2) (by decide +kernel) ⟨Nat.le_of_ble_eq_true rfl, Nat.le_of_ble_eq_true rfl⟩), hts (.instanceMethod yX1_add) mbX2_needed_3, hts (.selects RX1 yX1_add yX1_add) mbX2_needed_4⟩ ⟨rd_bl, va_recv hK hP (ci := 2) (q0 := 1) rfl rfl, rd_pre hK hN⟩ rfl rfl hl.1 rfl (lv_room (Nat.le_of_ble_eq_true rfl)) dX2_needed_37 ⟨Nat.zero_le _, Nat.zero_le _⟩) hS hFc (fun u H locs hq hB hk hz hS => ?_)
        subst hq
        have hP : va_P (dC, dI) vwCl (wC cA A (layG g n 0 a b) (n + 1) hs pe pk fo mo) H := hB
        have hD : va_D Av (wC cA A (layG g n 0 a b) (n + 1) hs pe pk fo mo) := va_Dsame (by rfl) hD
        refine lv_iconst (v := 0) hx hb dX2_needed_40 (by decide) ?_
        refine tp_i (v := nI 0) (rfl) ?_
        refine lv_istore (lv' := [(9, .int (nI 0)), (8, .int (-1)), (0, .ref (A 0)), (1, .int a), (2, .int b), (3, .int d), (4, .long fr), (6, .long mv)]) hx hb dX2_needed_41 hl (by decide) rfl (fun ls hl => ?_)
        have lp : ∀ (z : Nat) (i : Nat) (lv : Int32) (ar : Int32) (H : Heap) (locs : List Loc) (ls : Array Slot), i ≤ 21 → 22 ≤ i + z → (lv = -1 ∧ neF g n a b d fr mv 21 0 0 = neF g n a b d fr mv (21 - i) i ar) ∨ (¬ lv = -1 ∧ neF g n a b d fr mv 21 0 0 = (lv, ar)) → va_P (dC, dI) vwCl (wC cA A (layG g n ar a b) (n + 1) hs pe pk fo mo) H → va_D Av (wC cA A (layG g n ar a b) (n + 1) hs pe pk fo mo) → va_S Av s.heap H locs → lv_has ls 10 [(0, .ref (A 0)), (1, .int a), (2, .int b), (3, .int d), (4, .long fr), (6, .long mv), (8, .int lv), (9, .int (nI i))] → W p l e (headSpec wsX2_needed ({ frames := 6, cells := 0, slots := 0, locals := 158 })).room s m ([.ref (A 0), .int a, .int b, .int d, .long fr, .long mv]).toArray below meth c H locs 0 0 (MQ below (va_Qi (fun (r : Int32) (u : St) => (r, u) = nedF (g, n, hs, pe, pk, fo, mo) a b d fr mv) (fun u t => bC dC dI cA A u t.heap) Av) ([.ref (A 0), .int a, .int b, .int d, .long fr, .long mv]).toArray s 0 0 Av) (F0 m 43 ls []) := by
          intro z
          induction z with
          | zero =>
            intro i lv ar H locs ls h1 h2 hv hP hD hS hl
            exact absurd h2 (by omega)
          | succ z ih =>
            intro i lv ar H locs ls h1 h2 hv hP hD hS hl
            refine lv_iload hx hb dX2_needed_43 (lv_at hl 7 rfl) ?_
            refine lv_bipush (v := 20) hx hb dX2_needed_45 (by decide) ?_
            refine tp_i (v := nI 20) (rfl) ?_
            refine lv_icmp_gt (tgt := 96) hx hb dX2_needed_47 (by decide) (fun c1 => ?_) (fun c1 => ?_)
            · have hi : i = 21 := by have h9 := (nI_ltI (by omega) (by omega)).mp c1; omega
              have hv : neF g n a b d fr mv 21 0 0 = (lv, ar) := by
                rcases hv with ⟨h8, h9⟩ | ⟨-, h9⟩
                · rw [h9, hi, h8]; rfl
                · exact h9
              refine lv_aload_n hx hb dX2_needed_96 rfl (lv_at hl 0 rfl) ?_
              refine va_get (D := (dC, dI)) (ci := 3) (v := .ref (A 1)) (C := RX2) (T := TX2) (N := 6) hx hb hts miX2_needed_X2 hown hK hP 0 rfl rfl 0 (by decide) (hts (.fieldLink RX2 10 "SectionFibres" "section" "LSectionFibres$Section;") mbX2_needed_1) (fun _ h9 => h9) rfl dX2_needed_97 ?_
              have hFc := va_free (wc := (wC cA A (layG g n ar a b) (n + 1) hs pe pk fo mo)) hD hS hA [0, 1, 2, 3, 4, 5, 6, 7, 8, 9, 10, 11, 12] rfl
              refine mu_v (va_runVN (As := []) (rest := []) ⟨hx, hb, hml, hown, hts⟩ (c_X1_dropLast l dC dI cA H A (layG g n ar a b) (n + 1) hs pe pk fo mo hP (hD.weaken (fun _ _ _ _ => trivial)) (by omega) (by omega)) ⟨(va_cnB 0 hts gX2_needed_X1_dropLast_n135 rfl rfl rfl (hN (.methodLinkNest RX2 135 yX1_dropLast "SectionFibres") (List.mem_of_getElem? (i := 15) rfl)) (hts (.initialized RX1) mbX2_needed_2) (by decide +kernel) ⟨Nat.le_of_ble_eq_true rfl, Nat.le_of_ble_eq_true rfl⟩), hts (.instanceMethod yX1_dropLast) mbX2_needed_5, hts (.selects RX1 yX1_dropLast yX1_dropLast) mbX2_needed_6⟩ ⟨rd_bl, va_recv hK hP (ci := 2) (q0 := 1) rfl rfl, rd_pre hK hN⟩ rfl rfl hl.1 rfl (lv_room (Nat.le_of_ble_eq_true rfl)) dX2_needed_100 ⟨Nat.zero_le _, Nat.zero_le _⟩) hS hFc (fun u H locs hq hB hk hz hS => ?_)
              subst hq
              have hP : va_P (dC, dI) vwCl (wC cA A (layG g n ar a b) n hs pe pk fo mo) H := hB
              have hD : va_D Av (wC cA A (layG g n ar a b) n hs pe pk fo mo) := va_Dsame (by rfl) hD
              refine lv_iload hx hb dX2_needed_103 (lv_at hl 6 rfl) ?_
              exact W.iret (v := lv) hx hb hr (fun t9 ht9 hW9 => ⟨⟨_, ((layG g n ar a b), n, hs, pe, pk, fo, mo), rfl, (((ned_t ⟨q1, q2, q3⟩).trans (by rw [hv])).symm), by dsimp only; rw [ht9]; exact hP⟩, hS.F ht9⟩) hS.2.2 dX2_needed_105
            · have hi : i ≤ 20 := by rcases Nat.lt_or_ge 20 i with h9 | h9; exact absurd (nI_lt h9 (by omega)) c1; exact h9
              refine lv_iload hx hb dX2_needed_50 (lv_at hl 6 rfl) ?_
              refine lv_iconst (v := (-1)) hx hb dX2_needed_52 (by decide) ?_
              refine lv_icmp_ne (tgt := 96) hx hb dX2_needed_53 (by decide) (fun c2 => ?_) (fun c2 => ?_)
              · have hv : neF g n a b d fr mv 21 0 0 = (lv, ar) := (hv.resolve_left (fun h9 => c2 h9.1)).2
                refine lv_aload_n hx hb dX2_needed_96 rfl (lv_at hl 0 rfl) ?_
                refine va_get (D := (dC, dI)) (ci := 3) (v := .ref (A 1)) (C := RX2) (T := TX2) (N := 6) hx hb hts miX2_needed_X2 hown hK hP 0 rfl rfl 0 (by decide) (hts (.fieldLink RX2 10 "SectionFibres" "section" "LSectionFibres$Section;") mbX2_needed_1) (fun _ h9 => h9) rfl dX2_needed_97 ?_
                have hFc := va_free (wc := (wC cA A (layG g n ar a b) (n + 1) hs pe pk fo mo)) hD hS hA [0, 1, 2, 3, 4, 5, 6, 7, 8, 9, 10, 11, 12] rfl
                refine mu_v (va_runVN (As := []) (rest := []) ⟨hx, hb, hml, hown, hts⟩ (c_X1_dropLast l dC dI cA H A (layG g n ar a b) (n + 1) hs pe pk fo mo hP (hD.weaken (fun _ _ _ _ => trivial)) (by omega) (by omega)) ⟨(va_cnB 0 hts gX2_needed_X1_dropLast_n135 rfl rfl rfl (hN (.methodLinkNest RX2 135 yX1_dropLast "SectionFibres") (List.mem_of_getElem? (i := 15) rfl)) (hts (.initialized RX1) mbX2_needed_2) (by decide +kernel) ⟨Nat.le_of_ble_eq_true rfl, Nat.le_of_ble_eq_true rfl⟩), hts (.instanceMethod yX1_dropLast) mbX2_needed_5, hts (.selects RX1 yX1_dropLast yX1_dropLast) mbX2_needed_6⟩ ⟨rd_bl, va_recv hK hP (ci := 2) (q0 := 1) rfl rfl, rd_pre hK hN⟩ rfl rfl hl.1 rfl (lv_room (Nat.le_of_ble_eq_true rfl)) dX2_needed_100 ⟨Nat.zero_le _, Nat.zero_le _⟩) hS hFc (fun u H locs hq hB hk hz hS => ?_)
                subst hq
                have hP : va_P (dC, dI) vwCl (wC cA A (layG g n ar a b) n hs pe pk fo mo) H := hB
                have hD : va_D Av (wC cA A (layG g n ar a b) n hs pe pk fo mo) := va_Dsame (by rfl) hD
                refine lv_iload hx hb dX2_needed_103 (lv_at hl 6 rfl) ?_
                exact W.iret (v := lv) hx hb hr (fun t9 ht9 hW9 => ⟨⟨_, ((layG g n ar a b), n, hs, pe, pk, fo, mo), rfl, (((ned_t ⟨q1, q2, q3⟩).trans (by rw [hv])).symm), by dsimp only; rw [ht9]; exact hP⟩, hS.F ht9⟩) hS.2.2 dX2_needed_105
              · have hv : neF g n a b d fr mv 21 0 0 = neF g n a b d fr mv (21 - i) i ar := (hv.resolve_right (fun h9 => h9.1 c2)).2
                refine lv_aload_n hx hb dX2_needed_56 rfl (lv_at hl 0 rfl) ?_
                refine va_get (D := (dC, dI)) (ci := 3) (v := .ref (A 1)) (C := RX2) (T := TX2) (N := 6) hx hb hts miX2_needed_X2 hown hK hP 0 rfl rfl 0 (by decide) (hts (.fieldLink RX2 10 "SectionFibres" "section" "LSectionFibres$Section;") mbX2_needed_1) (fun _ h9 => h9) rfl dX2_needed_57 ?_
                refine lv_iload hx hb dX2_needed_60 (lv_at hl 7 rfl) ?_
                refine lv_iload_n hx hb dX2_needed_62 rfl (lv_at hl 3 rfl) ?_
                refine lv_imul hx hb dX2_needed_63 ?_
                have hFc := va_free (wc := (wC cA A (layG g n ar a b) (n + 1) hs pe pk fo mo)) hD hS hA [0, 1, 2, 3, 4, 5, 6, 7, 8, 9, 10, 11, 12] rfl
                refine mu_v (va_runVN (As := [.int ((nI i) * d)]) (rest := []) ⟨hx, hb, hml, hown, hts⟩ (c_X1_setLastArea l dC dI cA H A (layG g n ar a b) (n + 1) hs pe pk fo mo hP (hD.weaken (fun _ _ _ _ => trivial)) (by omega) (by omega) ((nI i) * d)) ⟨(va_cnB 1 hts gX2_needed_X1_setLastArea_n131 rfl rfl rfl (hN (.methodLinkNest RX2 131 yX1_setLastArea "SectionFibres") (List.mem_of_getElem? (i := 14) rfl)) (hts (.initialized RX1) mbX2_needed_2) (by decide +kernel) ⟨Nat.le_of_ble_eq_true rfl, Nat.le_of_ble_eq_true rfl⟩), hts (.instanceMethod yX1_setLastArea) mbX2_needed_7, hts (.selects RX1 yX1_setLastArea yX1_setLastArea) mbX2_needed_8⟩ ⟨rd_bl, va_recv hK hP (ci := 2) (q0 := 1) rfl rfl, rd_pre hK hN⟩ rfl rfl hl.1 rfl (lv_room (Nat.le_of_ble_eq_true rfl)) dX2_needed_64 ⟨Nat.zero_le _, Nat.zero_le _⟩) hS hFc (fun u H locs hq hB hk hz hS => ?_)
                subst hq
                have hB : va_P (dC, dI) vwCl (wC cA A (setG (layG g n ar a b) 0 n (nI i * d)) (n + 1) hs pe pk fo mo) H := hB
                rw [lay_set] at hB
                have hP : va_P (dC, dI) vwCl (wC cA A (layG g n (nI i * d) a b) (n + 1) hs pe pk fo mo) H := hB
                have hD : va_D Av (wC cA A (layG g n (nI i * d) a b) (n + 1) hs pe pk fo mo) := va_Dsame (by rfl) hD
                refine lv_aload_n hx hb dX2_needed_67 rfl (lv_at hl 0 rfl) ?_
                refine va_get (D := (dC, dI)) (ci := 3) (v := .ref (A 1)) (C := RX2) (T := TX2) (N := 6) hx hb hts miX2_needed_X2 hown hK hP 0 rfl rfl 0 (by decide) (hts (.fieldLink RX2 10 "SectionFibres" "section" "LSectionFibres$Section;") mbX2_needed_1) (fun _ h9 => h9) rfl dX2_needed_68 ?_
                refine lv_lload hx hb dX2_needed_71 (lv_at hl 4 rfl) ?_
                refine lv_lload hx hb dX2_needed_73 (lv_at hl 5 rfl) ?_
                refine rd_i (va_runVN (As := [.long fr, .long mv]) (rest := []) ⟨hx, hb, hml, hown, hts⟩ (c_X1_bendFor l dC dI cA H A (layG g n (nI i * d) a b) (n + 1) hs pe pk fo mo hP (lay_inv hg q1.1 q1.2 (rg_in q2)) (by omega) fr mv) ⟨(va_cnB 2 hts gX2_needed_X1_bendFor_n97 rfl rfl rfl (hN (.methodLinkNest RX2 97 yX1_bendFor "SectionFibres") (List.mem_of_getElem? (i := 11) rfl)) (hts (.initialized RX1) mbX2_needed_2) (by decide +kernel) ⟨Nat.le_of_ble_eq_true rfl, Nat.le_of_ble_eq_true rfl⟩), hts (.instanceMethod yX1_bendFor) mbX2_needed_9, hts (.selects RX1 yX1_bendFor yX1_bendFor) mbX2_needed_10⟩ ⟨rd_bl, va_recv hK hP (ci := 2) (q0 := 1) rfl rfl, rd_pre hK hN⟩ rfl rfl hl.1 rfl (lv_room (Nat.le_of_ble_eq_true rfl)) dX2_needed_75 ⟨Nat.zero_le _, Nat.zero_le _⟩) hS (fun r11 locs hq12 hS => ?_)
                have hq12 : r11 = enF (slF (layG g n (nI i * d) a b) (n + 1) fr mv) := hq12
                subst hq12
                refine rd_i (va_runS (As := [.int (enF (slF (layG g n (nI i * d) a b) (n + 1) fr mv))]) (rest := []) ⟨hx, hb, hml, hown, hts⟩ (c_X2_isOfPlane l dC dI cA H (enF (slF (layG g n (nI i * d) a b) (n + 1) fr mv))) (va_cwS 1 hts gX2_needed_X2_isOfPlane rfl rfl rfl (by decide +kernel) ⟨Nat.le_of_ble_eq_true rfl, Nat.le_of_ble_eq_true rfl⟩) ⟨rd_bl, rd_pre hK hN⟩ rfl rfl hl.1 rfl (lv_room (Nat.le_of_ble_eq_true rfl)) dX2_needed_78 ⟨Nat.zero_le _, Nat.zero_le _⟩) hS (fun r13 locs hq14 hS => ?_)
                rcases hq14 with ⟨hq14, rfl⟩ | ⟨hq14, rfl⟩
                · have q4 : rg (enF (slF (layG g n (nI i * d) a b) (n + 1) fr mv)) (-20000) 20000 := hq14
                  refine lv_if_eq (tgt := 90) hx hb dX2_needed_81 (by decide) (fun h9 => absurd h9 (by decide)) (fun _ => ?_)
                  refine lv_iload hx hb dX2_needed_84 (lv_at hl 7 rfl) ?_
                  refine lv_iload_n hx hb dX2_needed_86 rfl (lv_at hl 3 rfl) ?_
                  refine lv_imul hx hb dX2_needed_87 ?_
                  refine lv_istore (lv' := [(8, .int ((nI i) * d)), (0, .ref (A 0)), (1, .int a), (2, .int b), (3, .int d), (4, .long fr), (6, .long mv), (9, .int (nI i))]) hx hb dX2_needed_88 hl (by decide) rfl (fun ls hl => ?_)
                  refine lv_iinc (v := nI (i + 1)) (lv' := [(9, .int (nI (i + 1))), (8, .int ((nI i) * d)), (0, .ref (A 0)), (1, .int a), (2, .int b), (3, .int d), (4, .long fr), (6, .long mv)]) hx hb dX2_needed_90 hl (k := 7) rfl (nI_1 i) (by decide) rfl (fun ls hl => ?_)
                  refine lv_goto (tgt := 43) hx hb dX2_needed_93 (by decide) ?_
                  exact ih (i + 1) (nI i * d) (nI i * d) H _ _ (by omega) (by omega) (Or.inr ⟨nis_1 (by omega) q3, by rw [hv, show 21 - i = (21 - (i + 1)) + 1 by omega, ne_t (en_rg.mp q4)]⟩) hP hD hS (lv_sub hl [2, 3, 4, 5, 6, 7, 1, 0] rfl)
                · have q4 : ¬ (rg (enF (slF (layG g n (nI i * d) a b) (n + 1) fr mv)) (-20000) 20000) := hq14
                  refine lv_if_eq (tgt := 90) hx hb dX2_needed_81 (by decide) (fun _ => ?_) (fun h9 => absurd h9 (by decide))
                  refine lv_iinc (v := nI (i + 1)) (lv' := [(9, .int (nI (i + 1))), (0, .ref (A 0)), (1, .int a), (2, .int b), (3, .int d), (4, .long fr), (6, .long mv), (8, .int lv)]) hx hb dX2_needed_90 hl (k := 7) rfl (nI_1 i) (by decide) rfl (fun ls hl => ?_)
                  refine lv_goto (tgt := 43) hx hb dX2_needed_93 (by decide) ?_
                  exact ih (i + 1) lv (nI i * d) H _ _ (by omega) (by omega) (Or.inl ⟨c2, by rw [hv, show 21 - i = (21 - (i + 1)) + 1 by omega, ne_f (fun h9 => q4 (en_rg.mpr h9))]⟩) hP hD hS (lv_sub hl [1, 2, 3, 4, 5, 6, 7, 0] rfl)
        exact lp 22 0 (-1) 0 H _ _ (by omega) (by omega) (Or.inl ⟨rfl, rfl⟩) hP hD hS (lv_sub hl [2, 3, 4, 5, 6, 7, 1, 0] rfl)
      · have q3 : ¬ (rg d 1 5000) := hq6
        refine lv_if_ne (tgt := 27) hx hb dX2_needed_22 (by decide) (fun h9 => absurd h9 (by decide)) (fun _ => ?_)
        refine lv_iconst (v := (-1)) hx hb dX2_needed_25 (by decide) ?_
        exact W.iret (v := (-1)) hx hb hr (fun t9 ht9 hW9 => ⟨⟨_, (g, n, hs, pe, pk, fo, mo), rfl, ((ned_f (fun h9 => q3 h9.2.2)).symm), by dsimp only; rw [ht9]; exact hP⟩, hS.F ht9⟩) hS.2.2 dX2_needed_26
    · have q2 : ¬ (rg b 0 3) := hq4
      refine lv_if_eq (tgt := 25) hx hb dX2_needed_11 (by decide) (fun _ => ?_) (fun h9 => absurd h9 (by decide))
      refine lv_iconst (v := (-1)) hx hb dX2_needed_25 (by decide) ?_
      exact W.iret (v := (-1)) hx hb hr (fun t9 ht9 hW9 => ⟨⟨_, (g, n, hs, pe, pk, fo, mo), rfl, ((ned_f (fun h9 => q2 h9.2.1)).symm), by dsimp only; rw [ht9]; exact hP⟩, hS.F ht9⟩) hS.2.2 dX2_needed_26
  · have q1 : ¬ (rg a (-2000) 2000) := hq2
    refine lv_if_eq (tgt := 25) hx hb dX2_needed_4 (by decide) (fun _ => ?_) (fun h9 => absurd h9 (by decide))
    refine lv_iconst (v := (-1)) hx hb dX2_needed_25 (by decide) ?_
    exact W.iret (v := (-1)) hx hb hr (fun t9 ht9 hW9 => ⟨⟨_, (g, n, hs, pe, pk, fo, mo), rfl, ((ned_f (fun h9 => q1 h9.1)).symm), by dsimp only; rw [ht9]; exact hP⟩, hS.F ht9⟩) hS.2.2 dX2_needed_26
