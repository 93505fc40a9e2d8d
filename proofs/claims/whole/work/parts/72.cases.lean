set_option maxHeartbeats 4000000 in
set_option maxRecDepth 100000 in
theorem lw_c7 {p : Program} {l : Launch} {e : Env} {s : State} {m : MethodId} {below : List Frame} {meth : Method} {c : Code} {b L : Nat} {xs : Nat → Int32} {dC : Nat → ClassId} {dI : Nat → Nat → Nat} {cA cL : ClassId} {A Z : Nat → Nat} {O : Nat} (X : LX p l s m meth c b L xs dC dI cA cL A Z O) {j : Nat} (hj : 8 * j + 8 ≤ L) {u : St} {v : Int32 × Int32 × Int32} {f : Nat → Int64} {H : Heap} {locs : List Loc} {ls : Array Slot}
    (I : LI s dC dI cA cL A Z O u v f H locs) (hl : lv_has ls 7 [(0, .ref b), (1, .ref (A 0)), (2, .ref (Z 0)), (3, .ref O), (4, .int (nI (8 * j)))])
    (K : ∀ (u : St) (v : Int32 × Int32 × Int32) (f : Nat → Int64) (H : Heap) (locs : List Loc) (ls : Array Slot), LI s dC dI cA cL A Z O u v f H locs → lv_has ls 7 [(0, .ref b), (1, .ref (A 0)), (2, .ref (Z 0)), (3, .ref O), (4, .int (nI (8 * j)))] → W p l e room_1 s m #[Value.ref b] below meth c H locs (25 + (j + 1)) (600 + 6 * (j + 1)) (lw_Z below #[Value.ref b] s) (F0 m 1094 ls [])) :
    W p l e room_1 s m #[Value.ref b] below meth c H locs (25 + j) (600 + 6 * j) (lw_Z below #[Value.ref b] s) (F0 m 438 ls []) := by
  obtain ⟨C0, hL, hl9, hK, hN, hex, hdC, hdR, hdO, hdis1, hdis2⟩ := X
  obtain ⟨hx, hb, hr, hml, hown, hts, hX, hbl, hlocks, hgv⟩ := C0
  have hts : ∀ w ∈ wsL_law, w.before #[Value.ref b] s = true := fun w h => hts w (wsL_law_in w h)
  have hA : ∀ q : Nat, s.heap.size ≤ q → (fun q : Nat => s.heap.size ≤ q) q := fun _ h => h
  have hbA : ¬ (fun q : Nat => s.heap.size ≤ q) b := Nat.not_le.mpr hbl
  obtain ⟨g, n, hs, pe, pk, fo, mo⟩ := u
  obtain ⟨th, fE, fK⟩ := v
  obtain ⟨hI, hPC, hPR, hPO, hS⟩ := I
  have hg : InvG g := hI.1
  have hn : n ≤ 40 := hI.2.1
  have hpl : ¬ hs = 0 → rg pe (-20000) 20000 ∧ rg pk (-20000) 20000 := fun h9 => (hI.2.2.resolve_left h9).2
  have hPC : va_P (dC, dI) vwCl (wC cA A g n hs pe pk fo mo) H := hPC
  have hPR : va_P (dC, dI) vwCl (wR cA Z g n th hs pe pk fo mo fE fK) H := hPR
  have hKc := hK.sub (tys' := [(cA, .int)]) [0] rfl
  have hRC : ∀ x ∈ (wR cA Z g n th hs pe pk fo mo fE fK).map Prod.fst, x ∉ (wC cA A g n hs pe pk fo mo).map Prod.fst := fun x h9 => (in_app (b := (wO cL O (fun _ => 0)).map Prod.fst) (hdis1 x h9)).1
  have hCR : ∀ x ∈ (wC cA A g n hs pe pk fo mo).map Prod.fst, x ∉ (wR cA Z g n th hs pe pk fo mo fE fK).map Prod.fst := fun x h8 h9 => hRC x h9 h8
  have hOR : ∀ x ∈ (wO cL O f).map Prod.fst, x ∉ (wR cA Z g n th hs pe pk fo mo fE fK).map Prod.fst := fun x h8 h9 => (in_app (a := (wC cA A g0 0 0 0 0 0 0).map Prod.fst) (hdis1 x h9)).2 h8
  have hrc : 25 + j + 0 ≤ room_1.cells := by show 25 + j ≤ 1051; omega
  have hrs : 600 + 6 * j + 0 ≤ room_1.slots := by show 600 + 6 * j ≤ 8804; omega
  refine lv_aload_n hx hb dL_law_438 rfl (lv_at hl 1 rfl) ?_
  refine lv_aload_n hx hb dL_law_439 rfl (lv_at hl 0 rfl) ?_
  refine lv_iload hx hb dL_law_440 (lv_at hl 4 rfl) ?_
  refine lv_iconst (v := 1) hx hb dL_law_442 (by decide) ?_
  refine lv_iadd hx hb dL_law_443 ?_
  refine tp_i (v := nI (8 * j + 1)) (nI_add (8 * j) 1) ?_
  refine sldn hx hb hX hbl hbA hS (8 * j + 1) rfl (by omega) (by omega) dL_law_444 ?_
  refine lv_aload_n hx hb dL_law_445 rfl (lv_at hl 0 rfl) ?_
  refine lv_iload hx hb dL_law_446 (lv_at hl 4 rfl) ?_
  refine lv_iconst (v := 2) hx hb dL_law_448 (by decide) ?_
  refine lv_iadd hx hb dL_law_449 ?_
  refine tp_i (v := nI (8 * j + 2)) (nI_add (8 * j) 2) ?_
  refine sldn hx hb hX hbl hbA hS (8 * j + 2) rfl (by omega) (by omega) dL_law_450 ?_
  refine lv_aload_n hx hb dL_law_451 rfl (lv_at hl 0 rfl) ?_
  refine lv_iload hx hb dL_law_452 (lv_at hl 4 rfl) ?_
  refine lv_iconst (v := 3) hx hb dL_law_454 (by decide) ?_
  refine lv_iadd hx hb dL_law_455 ?_
  refine tp_i (v := nI (8 * j + 3)) (nI_add (8 * j) 3) ?_
  refine sldn hx hb hX hbl hbA hS (8 * j + 3) rfl (by omega) (by omega) dL_law_456 ?_
  refine rd_l (va_runV (As := [.int (xs (8 * j + 1)), .int (xs (8 * j + 2)), .int (xs (8 * j + 3))]) (rest := []) ⟨hx, hb, hml, hown, hts⟩ (c_X2_of l dC dI cA H A g n hs pe pk fo mo hPC hg (by omega) (xs (8 * j + 1)) (xs (8 * j + 2)) (xs (8 * j + 3))) (cwV 3 hts gL_law_X2_of rfl rfl rfl (by decide +kernel) ⟨Nat.le_of_ble_eq_true rfl, Nat.le_of_ble_eq_true rfl⟩) ⟨rd_bl, va_recv hKc hPC (ci := 3) (q0 := 0) rfl rfl, rd_pre hKc hN⟩ rfl rfl hl.1 rfl (lv_room (Nat.le_of_ble_eq_true rfl)) dL_law_457 ⟨hrc, hrs⟩) hS (fun r1 locs hq1 hS => ?_)
  refine lv_aload_n hx hb dL_law_460 rfl (lv_at hl 2 rfl) ?_
  refine lv_aload_n hx hb dL_law_461 rfl (lv_at hl 0 rfl) ?_
  refine lv_iload hx hb dL_law_462 (lv_at hl 4 rfl) ?_
  refine lv_iconst (v := 1) hx hb dL_law_464 (by decide) ?_
  refine lv_iadd hx hb dL_law_465 ?_
  refine tp_i (v := nI (8 * j + 1)) (nI_add (8 * j) 1) ?_
  refine sldn hx hb hX hbl hbA hS (8 * j + 1) rfl (by omega) (by omega) dL_law_466 ?_
  refine lv_aload_n hx hb dL_law_467 rfl (lv_at hl 0 rfl) ?_
  refine lv_iload hx hb dL_law_468 (lv_at hl 4 rfl) ?_
  refine lv_iconst (v := 2) hx hb dL_law_470 (by decide) ?_
  refine lv_iadd hx hb dL_law_471 ?_
  refine tp_i (v := nI (8 * j + 2)) (nI_add (8 * j) 2) ?_
  refine sldn hx hb hX hbl hbA hS (8 * j + 2) rfl (by omega) (by omega) dL_law_472 ?_
  refine lv_aload_n hx hb dL_law_473 rfl (lv_at hl 0 rfl) ?_
  refine lv_iload hx hb dL_law_474 (lv_at hl 4 rfl) ?_
  refine lv_iconst (v := 3) hx hb dL_law_476 (by decide) ?_
  refine lv_iadd hx hb dL_law_477 ?_
  refine tp_i (v := nI (8 * j + 3)) (nI_add (8 * j) 3) ?_
  refine sldn hx hb hX hbl hbA hS (8 * j + 3) rfl (by omega) (by omega) dL_law_478 ?_
  have hFr := va_free (wc := (wR cA Z g n th hs pe pk fo mo fE fK)) (hdR g n th hs pe pk fo mo fE fK) hS hA [0, 1, 2, 3, 4, 5, 6, 7, 8, 9, 10] rfl
  refine mu_l (va_runV (As := [.int (xs (8 * j + 1)), .int (xs (8 * j + 2)), .int (xs (8 * j + 3))]) (rest := [.long r1]) ⟨hx, hb, hml, hown, hts⟩ (c_X3_of l dC dI cA H Z g n th hs pe pk fo mo fE fK hPR ((hdR g n th hs pe pk fo mo fE fK).weaken (fun _ _ _ _ => trivial)) hg (by omega) (xs (8 * j + 1)) (xs (8 * j + 2)) (xs (8 * j + 3))) (cwV 3 hts gL_law_X3_of rfl rfl rfl (by decide +kernel) ⟨Nat.le_of_ble_eq_true rfl, Nat.le_of_ble_eq_true rfl⟩) ⟨rd_bl, va_recv hKc hPR (ci := 4) (q0 := 0) rfl rfl, rd_pre hKc hN⟩ rfl rfl hl.1 rfl (lv_room (Nat.le_of_ble_eq_true rfl)) dL_law_479 ⟨hrc, hrs⟩) hS hFr (fun r2 u2 H2 locs hq2 hB2 hk2 hz2 hS => ?_)
  obtain ⟨u2, v2⟩ := u2
  have hPO : va_P (dC, dI) vwCl (wO cL O f) H2 := keptL hPO hk2 hOR
  have hPC : bC dC dI cA A (g, n, hs, pe, pk, fo, mo) H2 := keptL hPC hk2 hCR
  obtain ⟨e3, e2, -⟩ := hq2
  have e2 : u2 = (g, n, hs, pe, pk, fo, mo) := e2
  subst e2
  have e1 : r1 = r2 := hq1.trans e3.symm
  have hI2 := hI
  refine W.lcmp hx hb dL_law_482 ?_
  refine lv_if_eq (tgt := 1094) hx hb dL_law_483 (by decide) (fun _ => ?_) (fun h9 => absurd h9 (fun h9 => h9 ((lg_cmp_eq _ _).mpr e1)))
  refine W.widen (k := 25 + (j + 1)) (n := 600 + 6 * (j + 1)) (by omega) (by omega) ?_
  exact K (g, n, hs, pe, pk, fo, mo) v2 f H2 _ ls ⟨hI2, hPC, hB2, hPO, hS⟩ hl

set_option maxRecDepth 20000 in
theorem mbL_law_0 : (.constantLong RL 64 (4294967295) : Cond) ∈ wsL_law := by decide +kernel
set_option maxHeartbeats 4000000 in
set_option maxRecDepth 100000 in
theorem lw_c8 {p : Program} {l : Launch} {e : Env} {s : State} {m : MethodId} {below : List Frame} {meth : Method} {c : Code} {b L : Nat} {xs : Nat → Int32} {dC : Nat → ClassId} {dI : Nat → Nat → Nat} {cA cL : ClassId} {A Z : Nat → Nat} {O : Nat} (X : LX p l s m meth c b L xs dC dI cA cL A Z O) {j : Nat} (hj : 8 * j + 8 ≤ L) {u : St} {v : Int32 × Int32 × Int32} {f : Nat → Int64} {H : Heap} {locs : List Loc} {ls : Array Slot}
    (I : LI s dC dI cA cL A Z O u v f H locs) (hl : lv_has ls 7 [(0, .ref b), (1, .ref (A 0)), (2, .ref (Z 0)), (3, .ref O), (4, .int (nI (8 * j)))])
    (K : ∀ (u : St) (v : Int32 × Int32 × Int32) (f : Nat → Int64) (H : Heap) (locs : List Loc) (ls : Array Slot), LI s dC dI cA cL A Z O u v f H locs → lv_has ls 7 [(0, .ref b), (1, .ref (A 0)), (2, .ref (Z 0)), (3, .ref O), (4, .int (nI (8 * j)))] → W p l e room_1 s m #[Value.ref b] below meth c H locs (25 + (j + 1)) (600 + 6 * (j + 1)) (lw_Z below #[Value.ref b] s) (F0 m 1094 ls [])) :
    W p l e room_1 s m #[Value.ref b] below meth c H locs (25 + j) (600 + 6 * j) (lw_Z below #[Value.ref b] s) (F0 m 488 ls []) := by
  obtain ⟨C0, hL, hl9, hK, hN, hex, hdC, hdR, hdO, hdis1, hdis2⟩ := X
  obtain ⟨hx, hb, hr, hml, hown, hts, hX, hbl, hlocks, hgv⟩ := C0
  have hts : ∀ w ∈ wsL_law, w.before #[Value.ref b] s = true := fun w h => hts w (wsL_law_in w h)
  have hA : ∀ q : Nat, s.heap.size ≤ q → (fun q : Nat => s.heap.size ≤ q) q := fun _ h => h
  have hbA : ¬ (fun q : Nat => s.heap.size ≤ q) b := Nat.not_le.mpr hbl
  obtain ⟨g, n, hs, pe, pk, fo, mo⟩ := u
  obtain ⟨th, fE, fK⟩ := v
  obtain ⟨hI, hPC, hPR, hPO, hS⟩ := I
  have hg : InvG g := hI.1
  have hn : n ≤ 40 := hI.2.1
  have hpl : ¬ hs = 0 → rg pe (-20000) 20000 ∧ rg pk (-20000) 20000 := fun h9 => (hI.2.2.resolve_left h9).2
  have hPC : va_P (dC, dI) vwCl (wC cA A g n hs pe pk fo mo) H := hPC
  have hPR : va_P (dC, dI) vwCl (wR cA Z g n th hs pe pk fo mo fE fK) H := hPR
  have hKc := hK.sub (tys' := [(cA, .int)]) [0] rfl
  have hRC : ∀ x ∈ (wR cA Z g n th hs pe pk fo mo fE fK).map Prod.fst, x ∉ (wC cA A g n hs pe pk fo mo).map Prod.fst := fun x h9 => (in_app (b := (wO cL O (fun _ => 0)).map Prod.fst) (hdis1 x h9)).1
  have hCR : ∀ x ∈ (wC cA A g n hs pe pk fo mo).map Prod.fst, x ∉ (wR cA Z g n th hs pe pk fo mo fE fK).map Prod.fst := fun x h8 h9 => hRC x h9 h8
  have hOR : ∀ x ∈ (wO cL O f).map Prod.fst, x ∉ (wR cA Z g n th hs pe pk fo mo fE fK).map Prod.fst := fun x h8 h9 => (in_app (a := (wC cA A g0 0 0 0 0 0 0).map Prod.fst) (hdis1 x h9)).2 h8
  have hrc : 25 + j + 0 ≤ room_1.cells := by show 25 + j ≤ 1051; omega
  have hrs : 600 + 6 * j + 0 ≤ room_1.slots := by show 600 + 6 * j ≤ 8804; omega
  refine lv_aload_n hx hb dL_law_488 rfl (lv_at hl 1 rfl) ?_
  refine lv_aload_n hx hb dL_law_489 rfl (lv_at hl 0 rfl) ?_
  refine lv_iload hx hb dL_law_490 (lv_at hl 4 rfl) ?_
  refine lv_iconst (v := 1) hx hb dL_law_492 (by decide) ?_
  refine lv_iadd hx hb dL_law_493 ?_
  refine tp_i (v := nI (8 * j + 1)) (nI_add (8 * j) 1) ?_
  refine sldn hx hb hX hbl hbA hS (8 * j + 1) rfl (by omega) (by omega) dL_law_494 ?_
  refine lv_i2l hx hb dL_law_495 rfl ?_
  refine lv_bipush (v := 32) hx hb dL_law_496 (by decide) ?_
  refine lv_lshl hx hb dL_law_498 rfl ?_
  refine lv_aload_n hx hb dL_law_499 rfl (lv_at hl 0 rfl) ?_
  refine lv_iload hx hb dL_law_500 (lv_at hl 4 rfl) ?_
  refine lv_iconst (v := 2) hx hb dL_law_502 (by decide) ?_
  refine lv_iadd hx hb dL_law_503 ?_
  refine tp_i (v := nI (8 * j + 2)) (nI_add (8 * j) 2) ?_
  refine sldn hx hb hX hbl hbA hS (8 * j + 2) rfl (by omega) (by omega) dL_law_504 ?_
  refine lv_i2l hx hb dL_law_505 rfl ?_
  refine lv_ldc2 hx hb hown (hts (.constantLong RL 64 (4294967295)) mbL_law_0) dL_law_506 ?_
  refine lv_land hx hb dL_law_509 ?_
  refine lv_lor hx hb dL_law_510 ?_
  refine lv_aload_n hx hb dL_law_511 rfl (lv_at hl 0 rfl) ?_
  refine lv_iload hx hb dL_law_512 (lv_at hl 4 rfl) ?_
  refine lv_iconst (v := 3) hx hb dL_law_514 (by decide) ?_
  refine lv_iadd hx hb dL_law_515 ?_
  refine tp_i (v := nI (8 * j + 3)) (nI_add (8 * j) 3) ?_
  refine sldn hx hb hX hbl hbA hS (8 * j + 3) rfl (by omega) (by omega) dL_law_516 ?_
  refine rd_i (va_runV (As := [.long ((((xs (8 * j + 1)).toInt64) <<< ((32 : Int32).toInt64 &&& 63)) ||| (((xs (8 * j + 2)).toInt64) &&& 4294967295)), .int (xs (8 * j + 3))]) (rest := []) ⟨hx, hb, hml, hown, hts⟩ (c_X2_balance l dC dI cA H A g n hs pe pk fo mo hPC hg (by omega) ((((xs (8 * j + 1)).toInt64) <<< ((32 : Int32).toInt64 &&& 63)) ||| (((xs (8 * j + 2)).toInt64) &&& 4294967295)) (xs (8 * j + 3))) (cwV 2 hts gL_law_X2_balance rfl rfl rfl (by decide +kernel) ⟨Nat.le_of_ble_eq_true rfl, Nat.le_of_ble_eq_true rfl⟩) ⟨rd_bl, va_recv hKc hPC (ci := 3) (q0 := 0) rfl rfl, rd_pre hKc hN⟩ rfl rfl hl.1 rfl (lv_room (Nat.le_of_ble_eq_true rfl)) dL_law_517 ⟨hrc, hrs⟩) hS (fun r1 locs hq1 hS => ?_)
  refine lv_aload_n hx hb dL_law_520 rfl (lv_at hl 2 rfl) ?_
  refine lv_aload_n hx hb dL_law_521 rfl (lv_at hl 0 rfl) ?_
  refine lv_iload hx hb dL_law_522 (lv_at hl 4 rfl) ?_
  refine lv_iconst (v := 1) hx hb dL_law_524 (by decide) ?_
  refine lv_iadd hx hb dL_law_525 ?_
  refine tp_i (v := nI (8 * j + 1)) (nI_add (8 * j) 1) ?_
  refine sldn hx hb hX hbl hbA hS (8 * j + 1) rfl (by omega) (by omega) dL_law_526 ?_
  refine lv_i2l hx hb dL_law_527 rfl ?_
  refine lv_bipush (v := 32) hx hb dL_law_528 (by decide) ?_
  refine lv_lshl hx hb dL_law_530 rfl ?_
  refine lv_aload_n hx hb dL_law_531 rfl (lv_at hl 0 rfl) ?_
  refine lv_iload hx hb dL_law_532 (lv_at hl 4 rfl) ?_
  refine lv_iconst (v := 2) hx hb dL_law_534 (by decide) ?_
  refine lv_iadd hx hb dL_law_535 ?_
  refine tp_i (v := nI (8 * j + 2)) (nI_add (8 * j) 2) ?_
  refine sldn hx hb hX hbl hbA hS (8 * j + 2) rfl (by omega) (by omega) dL_law_536 ?_
  refine lv_i2l hx hb dL_law_537 rfl ?_
  refine lv_ldc2 hx hb hown (hts (.constantLong RL 64 (4294967295)) mbL_law_0) dL_law_538 ?_
  refine lv_land hx hb dL_law_541 ?_
  refine lv_lor hx hb dL_law_542 ?_
  refine lv_aload_n hx hb dL_law_543 rfl (lv_at hl 0 rfl) ?_
  refine lv_iload hx hb dL_law_544 (lv_at hl 4 rfl) ?_
  refine lv_iconst (v := 3) hx hb dL_law_546 (by decide) ?_
  refine lv_iadd hx hb dL_law_547 ?_
  refine tp_i (v := nI (8 * j + 3)) (nI_add (8 * j) 3) ?_
  refine sldn hx hb hX hbl hbA hS (8 * j + 3) rfl (by omega) (by omega) dL_law_548 ?_
  have hFr := va_free (wc := (wR cA Z g n th hs pe pk fo mo fE fK)) (hdR g n th hs pe pk fo mo fE fK) hS hA [0, 1, 2, 3, 4, 5, 6, 7, 8, 9, 10] rfl
  refine mu_i (va_runV (As := [.long ((((xs (8 * j + 1)).toInt64) <<< ((32 : Int32).toInt64 &&& 63)) ||| (((xs (8 * j + 2)).toInt64) &&& 4294967295)), .int (xs (8 * j + 3))]) (rest := [.int r1]) ⟨hx, hb, hml, hown, hts⟩ (c_X3_balance l dC dI cA H Z g n th hs pe pk fo mo fE fK hPR ((hdR g n th hs pe pk fo mo fE fK).weaken (fun _ _ _ _ => trivial)) hg (by omega) ((((xs (8 * j + 1)).toInt64) <<< ((32 : Int32).toInt64 &&& 63)) ||| (((xs (8 * j + 2)).toInt64) &&& 4294967295)) (xs (8 * j + 3))) (cwV 2 hts gL_law_X3_balance rfl rfl rfl (by decide +kernel) ⟨Nat.le_of_ble_eq_true rfl, Nat.le_of_ble_eq_true rfl⟩) ⟨rd_bl, va_recv hKc hPR (ci := 4) (q0 := 0) rfl rfl, rd_pre hKc hN⟩ rfl rfl hl.1 rfl (lv_room (Nat.le_of_ble_eq_true rfl)) dL_law_549 ⟨hrc, hrs⟩) hS hFr (fun r2 u2 H2 locs hq2 hB2 hk2 hz2 hS => ?_)
  obtain ⟨u2, v2⟩ := u2
  have hPO : va_P (dC, dI) vwCl (wO cL O f) H2 := keptL hPO hk2 hOR
  have hPC : bC dC dI cA A (g, n, hs, pe, pk, fo, mo) H2 := keptL hPC hk2 hCR
  obtain ⟨e3, e2, -⟩ := hq2
  have e2 : u2 = (g, n, hs, pe, pk, fo, mo) := e2
  subst e2
  have e1 : r1 = r2 := hq1.trans e3.symm
  have hI2 := hI
  refine lv_icmp_eq (tgt := 1094) hx hb dL_law_552 (by decide) (fun _ => ?_) (fun h9 => absurd h9 (fun h9 => h9 e1))
  refine W.widen (k := 25 + (j + 1)) (n := 600 + 6 * (j + 1)) (by omega) (by omega) ?_
  exact K (g, n, hs, pe, pk, fo, mo) v2 f H2 _ ls ⟨hI2, hPC, hB2, hPO, hS⟩ hl

set_option maxHeartbeats 4000000 in
set_option maxRecDepth 100000 in
theorem lw_c9 {p : Program} {l : Launch} {e : Env} {s : State} {m : MethodId} {below : List Frame} {meth : Method} {c : Code} {b L : Nat} {xs : Nat → Int32} {dC : Nat → ClassId} {dI : Nat → Nat → Nat} {cA cL : ClassId} {A Z : Nat → Nat} {O : Nat} (X : LX p l s m meth c b L xs dC dI cA cL A Z O) {j : Nat} (hj : 8 * j + 8 ≤ L) {u : St} {v : Int32 × Int32 × Int32} {f : Nat → Int64} {H : Heap} {locs : List Loc} {ls : Array Slot}
    (I : LI s dC dI cA cL A Z O u v f H locs) (hl : lv_has ls 7 [(0, .ref b), (1, .ref (A 0)), (2, .ref (Z 0)), (3, .ref O), (4, .int (nI (8 * j)))])
    (K : ∀ (u : St) (v : Int32 × Int32 × Int32) (f : Nat → Int64) (H : Heap) (locs : List Loc) (ls : Array Slot), LI s dC dI cA cL A Z O u v f H locs → lv_has ls 7 [(0, .ref b), (1, .ref (A 0)), (2, .ref (Z 0)), (3, .ref O), (4, .int (nI (8 * j)))] → W p l e room_1 s m #[Value.ref b] below meth c H locs (25 + (j + 1)) (600 + 6 * (j + 1)) (lw_Z below #[Value.ref b] s) (F0 m 1094 ls [])) :
    W p l e room_1 s m #[Value.ref b] below meth c H locs (25 + j) (600 + 6 * j) (lw_Z below #[Value.ref b] s) (F0 m 557 ls []) := by
  obtain ⟨C0, hL, hl9, hK, hN, hex, hdC, hdR, hdO, hdis1, hdis2⟩ := X
  obtain ⟨hx, hb, hr, hml, hown, hts, hX, hbl, hlocks, hgv⟩ := C0
  have hts : ∀ w ∈ wsL_law, w.before #[Value.ref b] s = true := fun w h => hts w (wsL_law_in w h)
  have hA : ∀ q : Nat, s.heap.size ≤ q → (fun q : Nat => s.heap.size ≤ q) q := fun _ h => h
  have hbA : ¬ (fun q : Nat => s.heap.size ≤ q) b := Nat.not_le.mpr hbl
  obtain ⟨g, n, hs, pe, pk, fo, mo⟩ := u
  obtain ⟨th, fE, fK⟩ := v
  obtain ⟨hI, hPC, hPR, hPO, hS⟩ := I
  have hg : InvG g := hI.1
  have hn : n ≤ 40 := hI.2.1
  have hpl : ¬ hs = 0 → rg pe (-20000) 20000 ∧ rg pk (-20000) 20000 := fun h9 => (hI.2.2.resolve_left h9).2
  have hPC : va_P (dC, dI) vwCl (wC cA A g n hs pe pk fo mo) H := hPC
  have hPR : va_P (dC, dI) vwCl (wR cA Z g n th hs pe pk fo mo fE fK) H := hPR
  have hKc := hK.sub (tys' := [(cA, .int)]) [0] rfl
  have hRC : ∀ x ∈ (wR cA Z g n th hs pe pk fo mo fE fK).map Prod.fst, x ∉ (wC cA A g n hs pe pk fo mo).map Prod.fst := fun x h9 => (in_app (b := (wO cL O (fun _ => 0)).map Prod.fst) (hdis1 x h9)).1
  have hCR : ∀ x ∈ (wC cA A g n hs pe pk fo mo).map Prod.fst, x ∉ (wR cA Z g n th hs pe pk fo mo fE fK).map Prod.fst := fun x h8 h9 => hRC x h9 h8
  have hOR : ∀ x ∈ (wO cL O f).map Prod.fst, x ∉ (wR cA Z g n th hs pe pk fo mo fE fK).map Prod.fst := fun x h8 h9 => (in_app (a := (wC cA A g0 0 0 0 0 0 0).map Prod.fst) (hdis1 x h9)).2 h8
  have hrc : 25 + j + 0 ≤ room_1.cells := by show 25 + j ≤ 1051; omega
  have hrs : 600 + 6 * j + 0 ≤ room_1.slots := by show 600 + 6 * j ≤ 8804; omega
  refine lv_aload_n hx hb dL_law_557 rfl (lv_at hl 1 rfl) ?_
  refine lv_aload_n hx hb dL_law_558 rfl (lv_at hl 0 rfl) ?_
  refine lv_iload hx hb dL_law_559 (lv_at hl 4 rfl) ?_
  refine lv_iconst (v := 1) hx hb dL_law_561 (by decide) ?_
  refine lv_iadd hx hb dL_law_562 ?_
  refine tp_i (v := nI (8 * j + 1)) (nI_add (8 * j) 1) ?_
  refine sldn hx hb hX hbl hbA hS (8 * j + 1) rfl (by omega) (by omega) dL_law_563 ?_
  refine lv_i2l hx hb dL_law_564 rfl ?_
  refine lv_bipush (v := 32) hx hb dL_law_565 (by decide) ?_
  refine lv_lshl hx hb dL_law_567 rfl ?_
  refine lv_aload_n hx hb dL_law_568 rfl (lv_at hl 0 rfl) ?_
  refine lv_iload hx hb dL_law_569 (lv_at hl 4 rfl) ?_
  refine lv_iconst (v := 2) hx hb dL_law_571 (by decide) ?_
  refine lv_iadd hx hb dL_law_572 ?_
  refine tp_i (v := nI (8 * j + 2)) (nI_add (8 * j) 2) ?_
  refine sldn hx hb hX hbl hbA hS (8 * j + 2) rfl (by omega) (by omega) dL_law_573 ?_
  refine lv_i2l hx hb dL_law_574 rfl ?_
  refine lv_ldc2 hx hb hown (hts (.constantLong RL 64 (4294967295)) mbL_law_0) dL_law_575 ?_
  refine lv_land hx hb dL_law_578 ?_
  refine lv_lor hx hb dL_law_579 ?_
  refine lv_aload_n hx hb dL_law_580 rfl (lv_at hl 0 rfl) ?_
  refine lv_iload hx hb dL_law_581 (lv_at hl 4 rfl) ?_
  refine lv_iconst (v := 3) hx hb dL_law_583 (by decide) ?_
  refine lv_iadd hx hb dL_law_584 ?_
  refine tp_i (v := nI (8 * j + 3)) (nI_add (8 * j) 3) ?_
  refine sldn hx hb hX hbl hbA hS (8 * j + 3) rfl (by omega) (by omega) dL_law_585 ?_
  refine lv_i2l hx hb dL_law_586 rfl ?_
  refine lv_bipush (v := 32) hx hb dL_law_587 (by decide) ?_
  refine lv_lshl hx hb dL_law_589 rfl ?_
  refine lv_aload_n hx hb dL_law_590 rfl (lv_at hl 0 rfl) ?_
  refine lv_iload hx hb dL_law_591 (lv_at hl 4 rfl) ?_
  refine lv_iconst (v := 4) hx hb dL_law_593 (by decide) ?_
  refine lv_iadd hx hb dL_law_594 ?_
  refine tp_i (v := nI (8 * j + 4)) (nI_add (8 * j) 4) ?_
  refine sldn hx hb hX hbl hbA hS (8 * j + 4) rfl (by omega) (by omega) dL_law_595 ?_
  refine lv_i2l hx hb dL_law_596 rfl ?_
  refine lv_ldc2 hx hb hown (hts (.constantLong RL 64 (4294967295)) mbL_law_0) dL_law_597 ?_
  refine lv_land hx hb dL_law_600 ?_
  refine lv_lor hx hb dL_law_601 ?_
  have hFc := va_free (wc := (wC cA A g n hs pe pk fo mo)) (hdC g n hs pe pk fo mo) hS hA [0, 1, 2, 3, 4, 5, 6, 7, 8, 9, 10, 11, 12] rfl
  refine mu_i (va_runV (As := [.long ((((xs (8 * j + 1)).toInt64) <<< ((32 : Int32).toInt64 &&& 63)) ||| (((xs (8 * j + 2)).toInt64) &&& 4294967295)), .long ((((xs (8 * j + 3)).toInt64) <<< ((32 : Int32).toInt64 &&& 63)) ||| (((xs (8 * j + 4)).toInt64) &&& 4294967295))]) (rest := []) ⟨hx, hb, hml, hown, hts⟩ (c_X2_run l dC dI cA H A g n hs pe pk fo mo hPC ((hdC g n hs pe pk fo mo).weaken (fun _ _ _ _ => trivial)) hg (by omega) ((((xs (8 * j + 1)).toInt64) <<< ((32 : Int32).toInt64 &&& 63)) ||| (((xs (8 * j + 2)).toInt64) &&& 4294967295)) ((((xs (8 * j + 3)).toInt64) <<< ((32 : Int32).toInt64 &&& 63)) ||| (((xs (8 * j + 4)).toInt64) &&& 4294967295))) (cwV 2 hts gL_law_X2_run rfl rfl rfl (by decide +kernel) ⟨Nat.le_of_ble_eq_true rfl, Nat.le_of_ble_eq_true rfl⟩) ⟨rd_bl, va_recv hKc hPC (ci := 3) (q0 := 0) rfl rfl, rd_pre hKc hN⟩ rfl rfl hl.1 rfl (lv_room (Nat.le_of_ble_eq_true rfl)) dL_law_602 ⟨hrc, hrs⟩) hS hFc (fun r1 u1 H1 locs hq1 hB1 hk1 hz1 hS => ?_)
  have hPR : va_P (dC, dI) vwCl (wR cA Z g n th hs pe pk fo mo fE fK) H1 := keptL hPR hk1 hRC
  have hPO : va_P (dC, dI) vwCl (wO cL O f) H1 := keptL hPO hk1 hdis2
  refine lv_aload_n hx hb dL_law_605 rfl (lv_at hl 2 rfl) ?_
  refine lv_aload_n hx hb dL_law_606 rfl (lv_at hl 0 rfl) ?_
  refine lv_iload hx hb dL_law_607 (lv_at hl 4 rfl) ?_
  refine lv_iconst (v := 1) hx hb dL_law_609 (by decide) ?_
  refine lv_iadd hx hb dL_law_610 ?_
  refine tp_i (v := nI (8 * j + 1)) (nI_add (8 * j) 1) ?_
  refine sldn hx hb hX hbl hbA hS (8 * j + 1) rfl (by omega) (by omega) dL_law_611 ?_
  refine lv_i2l hx hb dL_law_612 rfl ?_
  refine lv_bipush (v := 32) hx hb dL_law_613 (by decide) ?_
  refine lv_lshl hx hb dL_law_615 rfl ?_
  refine lv_aload_n hx hb dL_law_616 rfl (lv_at hl 0 rfl) ?_
  refine lv_iload hx hb dL_law_617 (lv_at hl 4 rfl) ?_
  refine lv_iconst (v := 2) hx hb dL_law_619 (by decide) ?_
  refine lv_iadd hx hb dL_law_620 ?_
  refine tp_i (v := nI (8 * j + 2)) (nI_add (8 * j) 2) ?_
  refine sldn hx hb hX hbl hbA hS (8 * j + 2) rfl (by omega) (by omega) dL_law_621 ?_
  refine lv_i2l hx hb dL_law_622 rfl ?_
  refine lv_ldc2 hx hb hown (hts (.constantLong RL 64 (4294967295)) mbL_law_0) dL_law_623 ?_
  refine lv_land hx hb dL_law_626 ?_
  refine lv_lor hx hb dL_law_627 ?_
  refine lv_aload_n hx hb dL_law_628 rfl (lv_at hl 0 rfl) ?_
  refine lv_iload hx hb dL_law_629 (lv_at hl 4 rfl) ?_
  refine lv_iconst (v := 3) hx hb dL_law_631 (by decide) ?_
  refine lv_iadd hx hb dL_law_632 ?_
  refine tp_i (v := nI (8 * j + 3)) (nI_add (8 * j) 3) ?_
  refine sldn hx hb hX hbl hbA hS (8 * j + 3) rfl (by omega) (by omega) dL_law_633 ?_
  refine lv_i2l hx hb dL_law_634 rfl ?_
  refine lv_bipush (v := 32) hx hb dL_law_635 (by decide) ?_
  refine lv_lshl hx hb dL_law_637 rfl ?_
  refine lv_aload_n hx hb dL_law_638 rfl (lv_at hl 0 rfl) ?_
  refine lv_iload hx hb dL_law_639 (lv_at hl 4 rfl) ?_
  refine lv_iconst (v := 4) hx hb dL_law_641 (by decide) ?_
  refine lv_iadd hx hb dL_law_642 ?_
  refine tp_i (v := nI (8 * j + 4)) (nI_add (8 * j) 4) ?_
  refine sldn hx hb hX hbl hbA hS (8 * j + 4) rfl (by omega) (by omega) dL_law_643 ?_
  refine lv_i2l hx hb dL_law_644 rfl ?_
  refine lv_ldc2 hx hb hown (hts (.constantLong RL 64 (4294967295)) mbL_law_0) dL_law_645 ?_
  refine lv_land hx hb dL_law_648 ?_
  refine lv_lor hx hb dL_law_649 ?_
  have hFr := va_free (wc := (wR cA Z g n th hs pe pk fo mo fE fK)) (hdR g n th hs pe pk fo mo fE fK) hS hA [0, 1, 2, 3, 4, 5, 6, 7, 8, 9, 10] rfl
  refine mu_i (va_runV (As := [.long ((((xs (8 * j + 1)).toInt64) <<< ((32 : Int32).toInt64 &&& 63)) ||| (((xs (8 * j + 2)).toInt64) &&& 4294967295)), .long ((((xs (8 * j + 3)).toInt64) <<< ((32 : Int32).toInt64 &&& 63)) ||| (((xs (8 * j + 4)).toInt64) &&& 4294967295))]) (rest := [.int r1]) ⟨hx, hb, hml, hown, hts⟩ (c_X3_run l dC dI cA H1 Z g n th hs pe pk fo mo fE fK hPR ((hdR g n th hs pe pk fo mo fE fK).weaken (fun _ _ _ _ => trivial)) hg (by omega) ((((xs (8 * j + 1)).toInt64) <<< ((32 : Int32).toInt64 &&& 63)) ||| (((xs (8 * j + 2)).toInt64) &&& 4294967295)) ((((xs (8 * j + 3)).toInt64) <<< ((32 : Int32).toInt64 &&& 63)) ||| (((xs (8 * j + 4)).toInt64) &&& 4294967295))) (cwV 2 hts gL_law_X3_run rfl rfl rfl (by decide +kernel) ⟨Nat.le_of_ble_eq_true rfl, Nat.le_of_ble_eq_true rfl⟩) ⟨rd_bl, va_recv hKc hPR (ci := 4) (q0 := 0) rfl rfl, rd_pre hKc hN⟩ rfl rfl hl.1 rfl (lv_room (Nat.le_of_ble_eq_true rfl)) dL_law_650 ⟨hrc, hrs⟩) hS hFr (fun r2 u2 H2 locs hq2 hB2 hk2 hz2 hS => ?_)
  obtain ⟨u2, v2⟩ := u2
  have hPO : va_P (dC, dI) vwCl (wO cL O f) H2 := keptL hPO hk2 hOR
  have hPC : bC dC dI cA A u1 H2 := keptL hB1 hk2 hCR
  obtain ⟨e1, e2⟩ := Prod.mk.inj (hq1.trans hq2.1.symm)
  subst e2
  have hI2 : InvS u1 := by rw [show u1 = (runF _ _ _).2 from congrArg Prod.snd hq1]; exact run_inv hI _ _
  refine lv_icmp_eq (tgt := 1094) hx hb dL_law_653 (by decide) (fun _ => ?_) (fun h9 => absurd h9 (fun h9 => h9 e1))
  refine W.widen (k := 25 + (j + 1)) (n := 600 + 6 * (j + 1)) (by omega) (by omega) ?_
  exact K u1 v2 f H2 _ ls ⟨hI2, hPC, hB2, hPO, hS⟩ hl

set_option maxHeartbeats 4000000 in
set_option maxRecDepth 100000 in
theorem lw_c10 {p : Program} {l : Launch} {e : Env} {s : State} {m : MethodId} {below : List Frame} {meth : Method} {c : Code} {b L : Nat} {xs : Nat → Int32} {dC : Nat → ClassId} {dI : Nat → Nat → Nat} {cA cL : ClassId} {A Z : Nat → Nat} {O : Nat} (X : LX p l s m meth c b L xs dC dI cA cL A Z O) {j : Nat} (hj : 8 * j + 8 ≤ L) {u : St} {v : Int32 × Int32 × Int32} {f : Nat → Int64} {H : Heap} {locs : List Loc} {ls : Array Slot}
    (I : LI s dC dI cA cL A Z O u v f H locs) (hl : lv_has ls 7 [(0, .ref b), (1, .ref (A 0)), (2, .ref (Z 0)), (3, .ref O), (4, .int (nI (8 * j)))])
    (K : ∀ (u : St) (v : Int32 × Int32 × Int32) (f : Nat → Int64) (H : Heap) (locs : List Loc) (ls : Array Slot), LI s dC dI cA cL A Z O u v f H locs → lv_has ls 7 [(0, .ref b), (1, .ref (A 0)), (2, .ref (Z 0)), (3, .ref O), (4, .int (nI (8 * j)))] → W p l e room_1 s m #[Value.ref b] below meth c H locs (25 + (j + 1)) (600 + 6 * (j + 1)) (lw_Z below #[Value.ref b] s) (F0 m 1094 ls [])) :
    W p l e room_1 s m #[Value.ref b] below meth c H locs (25 + j) (600 + 6 * j) (lw_Z below #[Value.ref b] s) (F0 m 658 ls []) := by
  obtain ⟨C0, hL, hl9, hK, hN, hex, hdC, hdR, hdO, hdis1, hdis2⟩ := X
  obtain ⟨hx, hb, hr, hml, hown, hts, hX, hbl, hlocks, hgv⟩ := C0
  have hts : ∀ w ∈ wsL_law, w.before #[Value.ref b] s = true := fun w h => hts w (wsL_law_in w h)
  have hA : ∀ q : Nat, s.heap.size ≤ q → (fun q : Nat => s.heap.size ≤ q) q := fun _ h => h
  have hbA : ¬ (fun q : Nat => s.heap.size ≤ q) b := Nat.not_le.mpr hbl
  obtain ⟨g, n, hs, pe, pk, fo, mo⟩ := u
  obtain ⟨th, fE, fK⟩ := v
  obtain ⟨hI, hPC, hPR, hPO, hS⟩ := I
  have hg : InvG g := hI.1
  have hn : n ≤ 40 := hI.2.1
  have hpl : ¬ hs = 0 → rg pe (-20000) 20000 ∧ rg pk (-20000) 20000 := fun h9 => (hI.2.2.resolve_left h9).2
  have hPC : va_P (dC, dI) vwCl (wC cA A g n hs pe pk fo mo) H := hPC
  have hPR : va_P (dC, dI) vwCl (wR cA Z g n th hs pe pk fo mo fE fK) H := hPR
  have hKc := hK.sub (tys' := [(cA, .int)]) [0] rfl
  have hRC : ∀ x ∈ (wR cA Z g n th hs pe pk fo mo fE fK).map Prod.fst, x ∉ (wC cA A g n hs pe pk fo mo).map Prod.fst := fun x h9 => (in_app (b := (wO cL O (fun _ => 0)).map Prod.fst) (hdis1 x h9)).1
  have hCR : ∀ x ∈ (wC cA A g n hs pe pk fo mo).map Prod.fst, x ∉ (wR cA Z g n th hs pe pk fo mo fE fK).map Prod.fst := fun x h8 h9 => hRC x h9 h8
  have hOR : ∀ x ∈ (wO cL O f).map Prod.fst, x ∉ (wR cA Z g n th hs pe pk fo mo fE fK).map Prod.fst := fun x h8 h9 => (in_app (a := (wC cA A g0 0 0 0 0 0 0).map Prod.fst) (hdis1 x h9)).2 h8
  have hrc : 25 + j + 0 ≤ room_1.cells := by show 25 + j ≤ 1051; omega
  have hrs : 600 + 6 * j + 0 ≤ room_1.slots := by show 600 + 6 * j ≤ 8804; omega
  refine lv_aload_n hx hb dL_law_658 rfl (lv_at hl 1 rfl) ?_
  refine lv_aload_n hx hb dL_law_659 rfl (lv_at hl 0 rfl) ?_
  refine lv_iload hx hb dL_law_660 (lv_at hl 4 rfl) ?_
  refine lv_iconst (v := 1) hx hb dL_law_662 (by decide) ?_
  refine lv_iadd hx hb dL_law_663 ?_
  refine tp_i (v := nI (8 * j + 1)) (nI_add (8 * j) 1) ?_
  refine sldn hx hb hX hbl hbA hS (8 * j + 1) rfl (by omega) (by omega) dL_law_664 ?_
  refine rd_i (va_runV (As := [.int (xs (8 * j + 1))]) (rest := []) ⟨hx, hb, hml, hown, hts⟩ (c_X2_told l dC dI cA H A g n hs pe pk fo mo hPC hg (by omega) (xs (8 * j + 1))) (cwV 1 hts gL_law_X2_told rfl rfl rfl (by decide +kernel) ⟨Nat.le_of_ble_eq_true rfl, Nat.le_of_ble_eq_true rfl⟩) ⟨rd_bl, va_recv hKc hPC (ci := 3) (q0 := 0) rfl rfl, rd_pre hKc hN⟩ rfl rfl hl.1 rfl (lv_room (Nat.le_of_ble_eq_true rfl)) dL_law_665 ⟨hrc, hrs⟩) hS (fun r1 locs hq1 hS => ?_)
  refine lv_aload_n hx hb dL_law_668 rfl (lv_at hl 2 rfl) ?_
  refine lv_aload_n hx hb dL_law_669 rfl (lv_at hl 0 rfl) ?_
  refine lv_iload hx hb dL_law_670 (lv_at hl 4 rfl) ?_
  refine lv_iconst (v := 1) hx hb dL_law_672 (by decide) ?_
  refine lv_iadd hx hb dL_law_673 ?_
  refine tp_i (v := nI (8 * j + 1)) (nI_add (8 * j) 1) ?_
  refine sldn hx hb hX hbl hbA hS (8 * j + 1) rfl (by omega) (by omega) dL_law_674 ?_
  have hFr := va_free (wc := (wR cA Z g n th hs pe pk fo mo fE fK)) (hdR g n th hs pe pk fo mo fE fK) hS hA [0, 1, 2, 3, 4, 5, 6, 7, 8, 9, 10] rfl
  refine mu_i (va_runV (As := [.int (xs (8 * j + 1))]) (rest := [.int r1]) ⟨hx, hb, hml, hown, hts⟩ (c_X3_told l dC dI cA H Z g n th hs pe pk fo mo fE fK hPR ((hdR g n th hs pe pk fo mo fE fK).weaken (fun _ _ _ _ => trivial)) hg (by omega) hpl (xs (8 * j + 1))) (cwV 1 hts gL_law_X3_told rfl rfl rfl (by decide +kernel) ⟨Nat.le_of_ble_eq_true rfl, Nat.le_of_ble_eq_true rfl⟩) ⟨rd_bl, va_recv hKc hPR (ci := 4) (q0 := 0) rfl rfl, rd_pre hKc hN⟩ rfl rfl hl.1 rfl (lv_room (Nat.le_of_ble_eq_true rfl)) dL_law_675 ⟨hrc, hrs⟩) hS hFr (fun r2 u2 H2 locs hq2 hB2 hk2 hz2 hS => ?_)
  obtain ⟨u2, v2⟩ := u2
  have hPO : va_P (dC, dI) vwCl (wO cL O f) H2 := keptL hPO hk2 hOR
  have hPC : bC dC dI cA A (g, n, hs, pe, pk, fo, mo) H2 := keptL hPC hk2 hCR
  obtain ⟨e3, e2, -⟩ := hq2
  have e2 : u2 = (g, n, hs, pe, pk, fo, mo) := e2
  subst e2
  have e1 : r1 = r2 := hq1.trans e3.symm
  have hI2 := hI
  refine lv_icmp_eq (tgt := 1094) hx hb dL_law_678 (by decide) (fun _ => ?_) (fun h9 => absurd h9 (fun h9 => h9 e1))
  refine W.widen (k := 25 + (j + 1)) (n := 600 + 6 * (j + 1)) (by omega) (by omega) ?_
  exact K (g, n, hs, pe, pk, fo, mo) v2 f H2 _ ls ⟨hI2, hPC, hB2, hPO, hS⟩ hl

set_option maxHeartbeats 4000000 in
set_option maxRecDepth 100000 in
theorem lw_c11 {p : Program} {l : Launch} {e : Env} {s : State} {m : MethodId} {below : List Frame} {meth : Method} {c : Code} {b L : Nat} {xs : Nat → Int32} {dC : Nat → ClassId} {dI : Nat → Nat → Nat} {cA cL : ClassId} {A Z : Nat → Nat} {O : Nat} (X : LX p l s m meth c b L xs dC dI cA cL A Z O) {j : Nat} (hj : 8 * j + 8 ≤ L) {u : St} {v : Int32 × Int32 × Int32} {f : Nat → Int64} {H : Heap} {locs : List Loc} {ls : Array Slot}
    (I : LI s dC dI cA cL A Z O u v f H locs) (hl : lv_has ls 7 [(0, .ref b), (1, .ref (A 0)), (2, .ref (Z 0)), (3, .ref O), (4, .int (nI (8 * j)))])
    (K : ∀ (u : St) (v : Int32 × Int32 × Int32) (f : Nat → Int64) (H : Heap) (locs : List Loc) (ls : Array Slot), LI s dC dI cA cL A Z O u v f H locs → lv_has ls 7 [(0, .ref b), (1, .ref (A 0)), (2, .ref (Z 0)), (3, .ref O), (4, .int (nI (8 * j)))] → W p l e room_1 s m #[Value.ref b] below meth c H locs (25 + (j + 1)) (600 + 6 * (j + 1)) (lw_Z below #[Value.ref b] s) (F0 m 1094 ls [])) :
    W p l e room_1 s m #[Value.ref b] below meth c H locs (25 + j) (600 + 6 * j) (lw_Z below #[Value.ref b] s) (F0 m 683 ls []) := by
  obtain ⟨C0, hL, hl9, hK, hN, hex, hdC, hdR, hdO, hdis1, hdis2⟩ := X
  obtain ⟨hx, hb, hr, hml, hown, hts, hX, hbl, hlocks, hgv⟩ := C0
  have hts : ∀ w ∈ wsL_law, w.before #[Value.ref b] s = true := fun w h => hts w (wsL_law_in w h)
  have hA : ∀ q : Nat, s.heap.size ≤ q → (fun q : Nat => s.heap.size ≤ q) q := fun _ h => h
  have hbA : ¬ (fun q : Nat => s.heap.size ≤ q) b := Nat.not_le.mpr hbl
  obtain ⟨g, n, hs, pe, pk, fo, mo⟩ := u
  obtain ⟨th, fE, fK⟩ := v
  obtain ⟨hI, hPC, hPR, hPO, hS⟩ := I
  have hg : InvG g := hI.1
  have hn : n ≤ 40 := hI.2.1
  have hpl : ¬ hs = 0 → rg pe (-20000) 20000 ∧ rg pk (-20000) 20000 := fun h9 => (hI.2.2.resolve_left h9).2
  have hPC : va_P (dC, dI) vwCl (wC cA A g n hs pe pk fo mo) H := hPC
  have hPR : va_P (dC, dI) vwCl (wR cA Z g n th hs pe pk fo mo fE fK) H := hPR
  have hKc := hK.sub (tys' := [(cA, .int)]) [0] rfl
  have hRC : ∀ x ∈ (wR cA Z g n th hs pe pk fo mo fE fK).map Prod.fst, x ∉ (wC cA A g n hs pe pk fo mo).map Prod.fst := fun x h9 => (in_app (b := (wO cL O (fun _ => 0)).map Prod.fst) (hdis1 x h9)).1
  have hCR : ∀ x ∈ (wC cA A g n hs pe pk fo mo).map Prod.fst, x ∉ (wR cA Z g n th hs pe pk fo mo fE fK).map Prod.fst := fun x h8 h9 => hRC x h9 h8
  have hOR : ∀ x ∈ (wO cL O f).map Prod.fst, x ∉ (wR cA Z g n th hs pe pk fo mo fE fK).map Prod.fst := fun x h8 h9 => (in_app (a := (wC cA A g0 0 0 0 0 0 0).map Prod.fst) (hdis1 x h9)).2 h8
  have hrc : 25 + j + 0 ≤ room_1.cells := by show 25 + j ≤ 1051; omega
  have hrs : 600 + 6 * j + 0 ≤ room_1.slots := by show 600 + 6 * j ≤ 8804; omega
  refine lv_aload_n hx hb dL_law_683 rfl (lv_at hl 1 rfl) ?_
  refine lv_aload_n hx hb dL_law_684 rfl (lv_at hl 0 rfl) ?_
  refine lv_iload hx hb dL_law_685 (lv_at hl 4 rfl) ?_
  refine lv_iconst (v := 1) hx hb dL_law_687 (by decide) ?_
  refine lv_iadd hx hb dL_law_688 ?_
  refine tp_i (v := nI (8 * j + 1)) (nI_add (8 * j) 1) ?_
  refine sldn hx hb hX hbl hbA hS (8 * j + 1) rfl (by omega) (by omega) dL_law_689 ?_
  refine rd_l (va_runV (As := [.int (xs (8 * j + 1))]) (rest := []) ⟨hx, hb, hml, hown, hts⟩ (c_X2_residual l dC dI cA H A g n hs pe pk fo mo hPC hg (by omega) (xs (8 * j + 1))) (cwV 1 hts gL_law_X2_residual rfl rfl rfl (by decide +kernel) ⟨Nat.le_of_ble_eq_true rfl, Nat.le_of_ble_eq_true rfl⟩) ⟨rd_bl, va_recv hKc hPC (ci := 3) (q0 := 0) rfl rfl, rd_pre hKc hN⟩ rfl rfl hl.1 rfl (lv_room (Nat.le_of_ble_eq_true rfl)) dL_law_690 ⟨hrc, hrs⟩) hS (fun r1 locs hq1 hS => ?_)
  refine lv_aload_n hx hb dL_law_693 rfl (lv_at hl 2 rfl) ?_
  refine lv_aload_n hx hb dL_law_694 rfl (lv_at hl 0 rfl) ?_
  refine lv_iload hx hb dL_law_695 (lv_at hl 4 rfl) ?_
  refine lv_iconst (v := 1) hx hb dL_law_697 (by decide) ?_
  refine lv_iadd hx hb dL_law_698 ?_
  refine tp_i (v := nI (8 * j + 1)) (nI_add (8 * j) 1) ?_
  refine sldn hx hb hX hbl hbA hS (8 * j + 1) rfl (by omega) (by omega) dL_law_699 ?_
  have hFr := va_free (wc := (wR cA Z g n th hs pe pk fo mo fE fK)) (hdR g n th hs pe pk fo mo fE fK) hS hA [0, 1, 2, 3, 4, 5, 6, 7, 8, 9, 10] rfl
  refine mu_l (va_runV (As := [.int (xs (8 * j + 1))]) (rest := [.long r1]) ⟨hx, hb, hml, hown, hts⟩ (c_X3_residual l dC dI cA H Z g n th hs pe pk fo mo fE fK hPR ((hdR g n th hs pe pk fo mo fE fK).weaken (fun _ _ _ _ => trivial)) hg (by omega) hpl (xs (8 * j + 1))) (cwV 1 hts gL_law_X3_residual rfl rfl rfl (by decide +kernel) ⟨Nat.le_of_ble_eq_true rfl, Nat.le_of_ble_eq_true rfl⟩) ⟨rd_bl, va_recv hKc hPR (ci := 4) (q0 := 0) rfl rfl, rd_pre hKc hN⟩ rfl rfl hl.1 rfl (lv_room (Nat.le_of_ble_eq_true rfl)) dL_law_700 ⟨hrc, hrs⟩) hS hFr (fun r2 u2 H2 locs hq2 hB2 hk2 hz2 hS => ?_)
  obtain ⟨u2, v2⟩ := u2
  have hPO : va_P (dC, dI) vwCl (wO cL O f) H2 := keptL hPO hk2 hOR
  have hPC : bC dC dI cA A (g, n, hs, pe, pk, fo, mo) H2 := keptL hPC hk2 hCR
  obtain ⟨e3, e2, -⟩ := hq2
  have e2 : u2 = (g, n, hs, pe, pk, fo, mo) := e2
  subst e2
  have e1 : r1 = r2 := hq1.trans e3.symm
  have hI2 := hI
  refine W.lcmp hx hb dL_law_703 ?_
  refine lv_if_eq (tgt := 1094) hx hb dL_law_704 (by decide) (fun _ => ?_) (fun h9 => absurd h9 (fun h9 => h9 ((lg_cmp_eq _ _).mpr e1)))
  refine W.widen (k := 25 + (j + 1)) (n := 600 + 6 * (j + 1)) (by omega) (by omega) ?_
  exact K (g, n, hs, pe, pk, fo, mo) v2 f H2 _ ls ⟨hI2, hPC, hB2, hPO, hS⟩ hl
