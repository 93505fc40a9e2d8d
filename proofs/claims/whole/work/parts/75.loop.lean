theorem lw_len {L j : Nat} (hL : L ≤ 4096) (hj : 8 * j ≤ 4096) : nI L - 8 < nI (8 * j) ↔ L < 8 * j + 8 := by
  have h1 : (nI L).toInt = (L : Int) := nI_toInt (by omega)
  have h2 : (nI (8 * j)).toInt = ((8 * j : Nat) : Int) := nI_toInt (by omega)
  have h3 : (8 : Int32).toInt = 8 := by decide
  rw [Int32.lt_iff_toInt_lt, sb32 (by rw [h1, h3]; omega) (by rw [h1, h3]; omega), h1, h2, h3]
  omega

set_option maxHeartbeats 4000000 in
set_option maxRecDepth 100000 in
theorem lw_loop {p : Program} {l : Launch} {e : Env} {s : State} {m : MethodId} {below : List Frame} {meth : Method} {c : Code} {b L : Nat} {xs : Nat → Int32} {dC : Nat → ClassId} {dI : Nat → Nat → Nat} {cA cL : ClassId} {A Z : Nat → Nat} {O : Nat} (X : LX p l s m meth c b L xs dC dI cA cL A Z O) : ∀ (z j : Nat) (u : St) (v : Int32 × Int32 × Int32) (f : Nat → Int64) (H : Heap) (locs : List Loc) (ls : Array Slot), 8 * j ≤ L → 513 ≤ j + z → LI s dC dI cA cL A Z O u v f H locs → lv_has ls 7 [(0, .ref b), (1, .ref (A 0)), (2, .ref (Z 0)), (3, .ref O), (4, .int (nI (8 * j)))] → W p l e room_1 s m #[Value.ref b] below meth c H locs (25 + j) (600 + 6 * j) (lw_Z below #[Value.ref b] s) (F0 m 23 ls []) := by
  obtain ⟨C0, hL, -, -, -, -, -, -, -, -, -⟩ := id X
  obtain ⟨hx, hb, hr, hml, hown, hts, hX, hbl, hlocks, hgv⟩ := C0
  have hbA : ¬ (fun q : Nat => s.heap.size ≤ q) b := Nat.not_le.mpr hbl
  intro z
  induction z with
  | zero =>
    intro j u v f H locs ls h1 h2
    exact absurd h2 (by omega)
  | succ z ih =>
    intro j u v f H locs ls h1 h2 I9 hl
    have hS := I9.2.2.2.2
    refine lv_iload hx hb dL_law_23 (lv_at hl 4 rfl) ?_
    refine lv_aload_n hx hb dL_law_25 rfl (lv_at hl 0 rfl) ?_
    refine va_slen hx hb hX hbl hbA hS dL_law_26 ?_
    refine lv_bipush (v := 8) hx hb dL_law_27 (by decide) ?_
    refine lv_isub hx hb dL_law_29 ?_
    refine lv_icmp_gt (tgt := 1100) hx hb dL_law_30 (by decide) (fun c1 => ?_) (fun c1 => ?_)
    · refine lv_iconst (v := 1) hx hb dL_law_1100 (by decide) ?_
      refine va_forget (fun q hq => hS.2.2 q hq) ?_
      refine W.widen (k := 1051) (n := 8804) (by omega) (by omega) ?_
      exact lw_ret hx hb hr hlocks dL_law_1101
    · have hj : 8 * j + 8 ≤ L := by
        rcases Nat.lt_or_ge L (8 * j + 8) with h9 | h9
        · exact absurd ((lw_len hL (by omega)).mpr h9) c1
        · exact h9
      refine lv_aload_n hx hb dL_law_33 rfl (lv_at hl 0 rfl) ?_
      refine lv_iload hx hb dL_law_34 (lv_at hl 4 rfl) ?_
      refine sldn hx hb hX hbl hbA hS (8 * j) rfl (by omega) (by omega) dL_law_36 ?_
      refine lv_bipush (v := 31) hx hb dL_law_37 (by decide) ?_
      refine lv_iand hx hb dL_law_39 ?_
      have K : ∀ (u : St) (v : Int32 × Int32 × Int32) (f : Nat → Int64) (H : Heap) (locs : List Loc) (ls : Array Slot), LI s dC dI cA cL A Z O u v f H locs → lv_has ls 7 [(0, .ref b), (1, .ref (A 0)), (2, .ref (Z 0)), (3, .ref O), (4, .int (nI (8 * j)))] → W p l e room_1 s m #[Value.ref b] below meth c H locs (25 + (j + 1)) (600 + 6 * (j + 1)) (lw_Z below #[Value.ref b] s) (F0 m 1094 ls []) := by
        intro u v f H locs ls I8 hl
        refine lv_iinc (v := nI (8 * (j + 1))) (lv' := [(4, .int (nI (8 * (j + 1)))), (0, .ref b), (1, .ref (A 0)), (2, .ref (Z 0)), (3, .ref O)]) hx hb dL_law_1094 hl (k := 4) rfl (by rw [show Int32.ofInt 8 = nI 8 by decide, nI_add, show 8 * j + 8 = 8 * (j + 1) by omega]) (by decide) rfl (fun ls hl => ?_)
        refine lv_goto (tgt := 23) hx hb dL_law_1097 (by decide) ?_
        exact ih (j + 1) u v f H locs ls (by omega) (by omega) I8 (lv_sub hl [1, 2, 3, 4, 0] rfl)
      generalize xs (8 * j) &&& 31 = x
      by_cases k0 : x = 0
      · refine lv_tableIn (tgt := 124) hx hb dL_law_40 (by rw [k0]; decide) (by rw [k0]; decide) (by rw [k0]; rfl) (by decide) ?_
        exact lw_c0 X hj I9 hl K
      by_cases k1 : x = 1
      · refine lv_tableIn (tgt := 173) hx hb dL_law_40 (by rw [k1]; decide) (by rw [k1]; decide) (by rw [k1]; rfl) (by decide) ?_
        exact lw_c1 X hj I9 hl K
      by_cases k2 : x = 2
      · refine lv_tableIn (tgt := 222) hx hb dL_law_40 (by rw [k2]; decide) (by rw [k2]; decide) (by rw [k2]; rfl) (by decide) ?_
        exact lw_c2 X hj I9 hl K
      by_cases k3 : x = 3
      · refine lv_tableIn (tgt := 259) hx hb dL_law_40 (by rw [k3]; decide) (by rw [k3]; decide) (by rw [k3]; rfl) (by decide) ?_
        exact lw_c3 X hj I9 hl K
      by_cases k4 : x = 4
      · refine lv_tableIn (tgt := 296) hx hb dL_law_40 (by rw [k4]; decide) (by rw [k4]; decide) (by rw [k4]; rfl) (by decide) ?_
        exact lw_c4 X hj I9 hl K
      by_cases k5 : x = 5
      · refine lv_tableIn (tgt := 333) hx hb dL_law_40 (by rw [k5]; decide) (by rw [k5]; decide) (by rw [k5]; rfl) (by decide) ?_
        exact lw_c5 X hj I9 hl K
      by_cases k6 : x = 6
      · refine lv_tableIn (tgt := 370) hx hb dL_law_40 (by rw [k6]; decide) (by rw [k6]; decide) (by rw [k6]; rfl) (by decide) ?_
        exact lw_c6 X hj I9 hl K
      by_cases k7 : x = 7
      · refine lv_tableIn (tgt := 438) hx hb dL_law_40 (by rw [k7]; decide) (by rw [k7]; decide) (by rw [k7]; rfl) (by decide) ?_
        exact lw_c7 X hj I9 hl K
      by_cases k8 : x = 8
      · refine lv_tableIn (tgt := 488) hx hb dL_law_40 (by rw [k8]; decide) (by rw [k8]; decide) (by rw [k8]; rfl) (by decide) ?_
        exact lw_c8 X hj I9 hl K
      by_cases k9 : x = 9
      · refine lv_tableIn (tgt := 557) hx hb dL_law_40 (by rw [k9]; decide) (by rw [k9]; decide) (by rw [k9]; rfl) (by decide) ?_
        exact lw_c9 X hj I9 hl K
      by_cases k10 : x = 10
      · refine lv_tableIn (tgt := 658) hx hb dL_law_40 (by rw [k10]; decide) (by rw [k10]; decide) (by rw [k10]; rfl) (by decide) ?_
        exact lw_c10 X hj I9 hl K
      by_cases k11 : x = 11
      · refine lv_tableIn (tgt := 683) hx hb dL_law_40 (by rw [k11]; decide) (by rw [k11]; decide) (by rw [k11]; rfl) (by decide) ?_
        exact lw_c11 X hj I9 hl K
      by_cases k12 : x = 12
      · refine lv_tableIn (tgt := 709) hx hb dL_law_40 (by rw [k12]; decide) (by rw [k12]; decide) (by rw [k12]; rfl) (by decide) ?_
        exact lw_c12 X hj I9 hl K
      by_cases k13 : x = 13
      · refine lv_tableIn (tgt := 777) hx hb dL_law_40 (by rw [k13]; decide) (by rw [k13]; decide) (by rw [k13]; rfl) (by decide) ?_
        exact lw_c13 X hj I9 hl K
      by_cases k14 : x = 14
      · refine lv_tableIn (tgt := 859) hx hb dL_law_40 (by rw [k14]; decide) (by rw [k14]; decide) (by rw [k14]; rfl) (by decide) ?_
        exact lw_c14 X hj I9 hl K
      by_cases k15 : x = 15
      · refine lv_tableIn (tgt := 928) hx hb dL_law_40 (by rw [k15]; decide) (by rw [k15]; decide) (by rw [k15]; rfl) (by decide) ?_
        exact lw_c15 X hj I9 hl K
      by_cases k16 : x = 16
      · refine lv_tableIn (tgt := 1069) hx hb dL_law_40 (by rw [k16]; decide) (by rw [k16]; decide) (by rw [k16]; rfl) (by decide) ?_
        exact lw_c16 X hj I9 hl K
      have n0 : x.toInt ≠ 0 := fun h9 => k0 (Int32.toInt_inj.1 h9)
      have n1 : x.toInt ≠ 1 := fun h9 => k1 (Int32.toInt_inj.1 h9)
      have n2 : x.toInt ≠ 2 := fun h9 => k2 (Int32.toInt_inj.1 h9)
      have n3 : x.toInt ≠ 3 := fun h9 => k3 (Int32.toInt_inj.1 h9)
      have n4 : x.toInt ≠ 4 := fun h9 => k4 (Int32.toInt_inj.1 h9)
      have n5 : x.toInt ≠ 5 := fun h9 => k5 (Int32.toInt_inj.1 h9)
      have n6 : x.toInt ≠ 6 := fun h9 => k6 (Int32.toInt_inj.1 h9)
      have n7 : x.toInt ≠ 7 := fun h9 => k7 (Int32.toInt_inj.1 h9)
      have n8 : x.toInt ≠ 8 := fun h9 => k8 (Int32.toInt_inj.1 h9)
      have n9 : x.toInt ≠ 9 := fun h9 => k9 (Int32.toInt_inj.1 h9)
      have n10 : x.toInt ≠ 10 := fun h9 => k10 (Int32.toInt_inj.1 h9)
      have n11 : x.toInt ≠ 11 := fun h9 => k11 (Int32.toInt_inj.1 h9)
      have n12 : x.toInt ≠ 12 := fun h9 => k12 (Int32.toInt_inj.1 h9)
      have n13 : x.toInt ≠ 13 := fun h9 => k13 (Int32.toInt_inj.1 h9)
      have n14 : x.toInt ≠ 14 := fun h9 => k14 (Int32.toInt_inj.1 h9)
      have n15 : x.toInt ≠ 15 := fun h9 => k15 (Int32.toInt_inj.1 h9)
      have n16 : x.toInt ≠ 16 := fun h9 => k16 (Int32.toInt_inj.1 h9)
      refine lv_tableOut (tgt := 1094) hx hb dL_law_40 (by omega) (by decide) ?_
      refine W.widen (k := 25 + (j + 1)) (n := 600 + 6 * (j + 1)) (by omega) (by omega) ?_
      exact K u v f H locs ls I9 hl
