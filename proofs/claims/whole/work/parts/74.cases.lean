theorem ex_bl {av : List Value} {H : Heap} {D : va_G} {cl : List vw_C} {tys : List (ClassId × FieldType)} {s0 : State} : FrameBlind (exP av H D cl tys s0) := fun a U g mk q => by
  obtain ⟨q0, q1, q2, q3, q4⟩ := q
  exact ⟨q0, q1, va_K.moved (u := U) (U := U.calling g mk a) (Vm.Alike.refl U.vm) q2, nsU_same (s := U) (U := U.calling g mk a) rfl q3, q4⟩

set_option maxHeartbeats 4000000 in
set_option maxRecDepth 100000 in
theorem lw_c6 {p : Program} {l : Launch} {e : Env} {s : State} {m : MethodId} {below : List Frame} {meth : Method} {c : Code} {b L : Nat} {xs : Nat → Int32} {dC : Nat → ClassId} {dI : Nat → Nat → Nat} {cA cL : ClassId} {A Z : Nat → Nat} {O : Nat} (X : LX p l s m meth c b L xs dC dI cA cL A Z O) {j : Nat} (hj : 8 * j + 8 ≤ L) {u : St} {v : Int32 × Int32 × Int32} {f : Nat → Int64} {H : Heap} {locs : List Loc} {ls : Array Slot}
    (I : LI s dC dI cA cL A Z O u v f H locs) (hl : lv_has ls 7 [(0, .ref b), (1, .ref (A 0)), (2, .ref (Z 0)), (3, .ref O), (4, .int (nI (8 * j)))])
    (K : ∀ (u : St) (v : Int32 × Int32 × Int32) (f : Nat → Int64) (H : Heap) (locs : List Loc) (ls : Array Slot), LI s dC dI cA cL A Z O u v f H locs → lv_has ls 7 [(0, .ref b), (1, .ref (A 0)), (2, .ref (Z 0)), (3, .ref O), (4, .int (nI (8 * j)))] → W p l e room_1 s m #[Value.ref b] below meth c H locs (25 + (j + 1)) (600 + 6 * (j + 1)) (lw_Z below #[Value.ref b] s) (F0 m 1094 ls [])) :
    W p l e room_1 s m #[Value.ref b] below meth c H locs (25 + j) (600 + 6 * j) (lw_Z below #[Value.ref b] s) (F0 m 370 ls []) := by
  obtain ⟨C0, hL, hl9, hK, hN, hex, hdC, hdR, hdO, hdis1, hdis2⟩ := X
  obtain ⟨hx, hb, hr, hml, hown, hts, hX, hbl, hlocks, hgv⟩ := C0
  have hts : ∀ w ∈ wsL_law, w.before #[Value.ref b] s = true := fun w h => hts w (wsL_law_in w h)
  have hA : ∀ q : Nat, s.heap.size ≤ q → (fun q : Nat => s.heap.size ≤ q) q := fun _ h => h
  have hbA : ¬ (fun q : Nat => s.heap.size ≤ q) b := Nat.not_le.mpr hbl
  obtain ⟨g, n, hs, pe, pk, fo, mo⟩ := u
  obtain ⟨th, fE, fK⟩ := v
  obtain ⟨hI, hPC, hPR, hPO, hS⟩ := I
  have hg : InvG g := hI.1
  have hn : n ≤ 40 := hI.2.1
  have hpl : ¬ hs = 0 → rg pe (-20000) 20000 ∧ rg pk (-20000) 20000 := fun h9 => (hI.2.2.resolve_left h9).2
  have hPC : va_P (dC, dI) vwCl (wC cA A g n hs pe pk fo mo) H := hPC
  have hPR : va_P (dC, dI) vwCl (wR cA Z g n th hs pe pk fo mo fE fK) H := hPR
  have hKc := hK.sub (tys' := [(cA, .int)]) [0] rfl
  have hRC : ∀ x ∈ (wR cA Z g n th hs pe pk fo mo fE fK).map Prod.fst, x ∉ (wC cA A g n hs pe pk fo mo).map Prod.fst := fun x h9 => (in_app (b := (wO cL O (fun _ => 0)).map Prod.fst) (hdis1 x h9)).1
  have hCR : ∀ x ∈ (wC cA A g n hs pe pk fo mo).map Prod.fst, x ∉ (wR cA Z g n th hs pe pk fo mo fE fK).map Prod.fst := fun x h8 h9 => hRC x h9 h8
  have hOR : ∀ x ∈ (wO cL O f).map Prod.fst, x ∉ (wR cA Z g n th hs pe pk fo mo fE fK).map Prod.fst := fun x h8 h9 => (in_app (a := (wC cA A g0 0 0 0 0 0 0).map Prod.fst) (hdis1 x h9)).2 h8
  have hrc : 25 + j + 0 ≤ room_1.cells := by show 25 + j ≤ 1051; omega
  have hrs : 600 + 6 * j + 0 ≤ room_1.slots := by show 600 + 6 * j ≤ 8804; omega
  have hrc1 : 25 + j + 1 ≤ room_1.cells := by show 25 + j + 1 ≤ 1051; omega
  have hrs1 : 600 + 6 * j + 6 ≤ room_1.slots := by show 600 + 6 * j + 6 ≤ 8804; omega
  refine lv_aload_n hx hb dL_law_370 rfl (lv_at hl 1 rfl) ?_
  refine lv_aload_n hx hb dL_law_371 rfl (lv_at hl 0 rfl) ?_
  refine lv_iload hx hb dL_law_372 (lv_at hl 4 rfl) ?_
  refine lv_iconst (v := 1) hx hb dL_law_374 (by decide) ?_
  refine lv_iadd hx hb dL_law_375 ?_
  refine tp_i (v := nI (8 * j + 1)) (nI_add (8 * j) 1) ?_
  refine sldn hx hb hX hbl hbA hS (8 * j + 1) rfl (by omega) (by omega) dL_law_376 ?_
  refine lv_aload_n hx hb dL_law_377 rfl (lv_at hl 0 rfl) ?_
  refine lv_iload hx hb dL_law_378 (lv_at hl 4 rfl) ?_
  refine lv_iconst (v := 2) hx hb dL_law_380 (by decide) ?_
  refine lv_iadd hx hb dL_law_381 ?_
  refine tp_i (v := nI (8 * j + 2)) (nI_add (8 * j) 2) ?_
  refine sldn hx hb hX hbl hbA hS (8 * j + 2) rfl (by omega) (by omega) dL_law_382 ?_
  refine lv_aload_n hx hb dL_law_383 rfl (lv_at hl 3 rfl) ?_
  have hFc := va_free (wc := (wC cA A g n hs pe pk fo mo ++ [(O, .inl (cL, 1, .inr (.inl f)))])) (hdO g n hs pe pk fo mo f) hS hA [0, 1, 2, 3, 4, 5, 6, 7, 8, 9, 10, 11, 12, 13] rfl
  refine va_calli (sw_run (n := 4) (As := [.ref (A 0), .int (xs (8 * j + 1)), .int (xs (8 * j + 2)), .ref O]) (rest := []) ⟨hx, hb, hml, hown, hts⟩ (c_L_row l dC dI cA cL H A g n hs pe pk fo mo O f (hPC.app hPO) ((hdO g n hs pe pk fo mo f).weaken (fun _ _ _ _ => trivial)) hl9 s #[Value.ref b] hex (fun q hq => hS.2.1 q hq (Nat.not_le.mpr hq)) hg (xs (8 * j + 1)) (xs (8 * j + 2))) gL_law_L_row rfl rfl rfl (by decide +kernel) ⟨Nat.le_of_ble_eq_true rfl, Nat.le_of_ble_eq_true rfl⟩ ⟨ex_bl, fun U hU hW => ⟨rfl, hU, va_K.moved hW.alike hK, nsU_warm hW hN, hW⟩⟩ rfl rfl hl.1 rfl (lv_room (Nat.le_of_ble_eq_true rfl)) dL_law_384 ⟨hrc1, hrs1⟩) hS (fun q _ h => hFc q h) hFc (fun r1 f1 t H1 locs ht hvm hw hB hz1 hk1 hS => ?_)
  have hB : va_P (dC, dI) vwCl (wC cA A g n hs pe pk fo mo ++ [(O, .inl (cL, 1, .inr (.inl f1)))]) H1 := by rw [← ht]; exact hB
  have hPC := hB.sub (ws' := wC cA A g n hs pe pk fo mo) [0, 1, 2, 3, 4, 5, 6, 7, 8, 9, 10, 11, 12] rfl
  have hPO := hB.sub (ws' := wO cL O f1) [13] rfl
  have hPR : va_P (dC, dI) vwCl (wR cA Z g n th hs pe pk fo mo fE fK) H1 := keptL hPR hk1 hdis1
  refine lv_istore (lv' := [(5, .int r1), (0, .ref b), (1, .ref (A 0)), (2, .ref (Z 0)), (3, .ref O), (4, .int (nI (8 * j)))]) hx hb dL_law_387 hl (by decide) rfl (fun ls hl => ?_)
  refine lv_aload_n hx hb dL_law_389 rfl (lv_at hl 3 rfl) ?_
  refine lv_aload_n hx hb dL_law_390 rfl (lv_at hl 1 rfl) ?_
  refine lv_iload hx hb dL_law_391 (lv_at hl 5 rfl) ?_
  refine lv_iconst (v := 1) hx hb dL_law_393 (by decide) ?_
  refine lv_iadd hx hb dL_law_394 ?_
  refine tp_i (v := nI (8 * j + 1)) (nI_add (8 * j) 1) ?_
  refine sldn hx hb hX hbl hbA hS (8 * j + 1) rfl (by omega) (by omega) dL_law_395 ?_
  refine lv_aload_n hx hb dL_law_396 rfl (lv_at hl 1 rfl) ?_
  refine lv_iload hx hb dL_law_397 (lv_at hl 5 rfl) ?_
  refine lv_iconst (v := 2) hx hb dL_law_399 (by decide) ?_
  refine lv_iadd hx hb dL_law_400 ?_
  refine tp_i (v := nI (8 * j + 2)) (nI_add (8 * j) 2) ?_
  refine sldn hx hb hX hbl hbA hS (8 * j + 2) rfl (by omega) (by omega) dL_law_401 ?_
  have hFr := va_free (wc := (wR cA Z g n th hs pe pk fo mo fE fK)) (hdR g n th hs pe pk fo mo fE fK) hS hA [0, 1, 2, 3, 4, 5, 6, 7, 8, 9, 10] rfl
  refine mu_i (va_runV (As := [.int (xs (8 * j + 1)), .int (xs (8 * j + 2))]) (rest := []) ⟨hx, hb, hml, hown, hts⟩ (c_X3_row l dC dI cA H1 Z g n th hs pe pk fo mo fE fK hPR ((hdR g n th hs pe pk fo mo fE fK).weaken (fun _ _ _ _ => trivial)) hg (xs (8 * j + 1)) (xs (8 * j + 2))) (cwV 2 hts gL_law_X3_row rfl rfl rfl (by decide +kernel) ⟨Nat.le_of_ble_eq_true rfl, Nat.le_of_ble_eq_true rfl⟩) ⟨rd_bl, va_recv hKc hPR (ci := 4) (q0 := 0) rfl rfl, rd_pre hKc hN⟩ rfl rfl hl.1 rfl (lv_room (Nat.le_of_ble_eq_true rfl)) dL_law_402 ⟨hrc1, hrs1⟩) hS hFr (fun r2 u2 H2 locs hq2 hB2 hk2 hz2 hS => ?_)
  obtain ⟨u2, th2, fE2, fK2⟩ := u2
  obtain ⟨e2, hq2⟩ := hq2
  have e2 : u2 = (g, n, hs, pe, pk, fo, mo) := e2
  subst e2
  have hPR2 : va_P (dC, dI) vwCl (wR cA Z g n th2 hs pe pk fo mo fE2 fK2) H2 := hB2
  have hPC : va_P (dC, dI) vwCl (wC cA A g n hs pe pk fo mo) H2 := keptL hPC hk2 hCR
  have hPO : va_P (dC, dI) vwCl (wO cL O f1) H2 := keptL hPO hk2 hOR
  refine lv_istore (lv' := [(6, .int r2), (5, .int r1), (0, .ref b), (1, .ref (A 0)), (2, .ref (Z 0)), (3, .ref O), (4, .int (nI (8 * j)))]) hx hb dL_law_405 hl (by decide) rfl (fun ls hl => ?_)
  refine lv_aload_n hx hb dL_law_407 rfl (lv_at hl 4 rfl) ?_
  refine rd_i (va_runV (As := []) (rest := []) ⟨hx, hb, hml, hown, hts⟩ (c_X3_thrown l dC dI cA H2 Z g n th2 hs pe pk fo mo fE2 fK2 hPR2) (cwV 0 hts gL_law_X3_thrown rfl rfl rfl (by decide +kernel) ⟨Nat.le_of_ble_eq_true rfl, Nat.le_of_ble_eq_true rfl⟩) ⟨rd_bl, va_recv hKc hPR2 (ci := 4) (q0 := 0) rfl rfl, rd_pre hKc hN⟩ rfl rfl hl.1 rfl (lv_room (Nat.le_of_ble_eq_true rfl)) dL_law_408 ⟨hrc1, hrs1⟩) hS (fun r3 locs hq3 hS => ?_)
  have hq3 : r3 = th2 := hq3
  have hq2 : (rg (xs (8 * j + 1)) 0 3 ∧ th2 = 0 ∧ r2 = rwF g (xs (8 * j + 1)) (xs (8 * j + 2))) ∨ (¬ rg (xs (8 * j + 1)) 0 3 ∧ th2 = 1) := hq2
  refine lv_iload hx hb dL_law_411 (lv_at hl 1 rfl) ?_
  have hl9 : lv_has ls 7 [(0, .ref b), (1, .ref (A 0)), (2, .ref (Z 0)), (3, .ref O), (4, .int (nI (8 * j)))] := lv_sub hl [2, 3, 4, 5, 6] rfl
  rcases hw with ⟨hc, e4, e5⟩ | ⟨hc, e4⟩
  · obtain ⟨-, e6, e7⟩ := hq2.resolve_right (fun h9 => h9.1 hc)
    refine lv_icmp_eq (tgt := 418) hx hb dL_law_413 (by decide) (fun _ => ?_) (fun h9 => absurd (by rw [hq3, e6, e4]) h9)
    refine lv_iload hx hb dL_law_418 (lv_at hl 1 rfl) ?_
    refine lv_if_ne (tgt := 435) hx hb dL_law_420 (by decide) (fun h9 => absurd e4 h9) (fun _ => ?_)
    refine lv_aload_n hx hb dL_law_423 rfl (lv_at hl 5 rfl) ?_
    refine lv_iconst (v := 0) hx hb dL_law_424 (by decide) ?_
    refine va_lald hx hb hK hPO 0 1 rfl rfl (vp_in_iff.mpr (by decide)) dL_law_425 ?_
    refine lv_iload hx hb dL_law_426 (lv_at hl 0 rfl) ?_
    refine lv_i2l hx hb dL_law_428 rfl ?_
    refine W.lcmp hx hb dL_law_429 ?_
    refine lv_if_eq (tgt := 435) hx hb dL_law_430 (by decide) (fun _ => ?_) (fun h9 => absurd ((lg_cmp_eq _ _).mpr (by show f1 0 = r2.toInt64; rw [e5, e7])) h9)
    refine lv_goto (tgt := 1094) hx hb dL_law_435 (by decide) ?_
    refine W.widen (k := 25 + (j + 1)) (n := 600 + 6 * (j + 1)) (by omega) (by omega) ?_
    exact K (g, n, hs, pe, pk, fo, mo) (th2, fE2, fK2) f1 H2 _ ls ⟨hI, hPC, hPR2, hPO, hS⟩ hl9
  · have e6 := (hq2.resolve_left (fun h9 => hc h9.1)).2
    refine lv_icmp_eq (tgt := 418) hx hb dL_law_413 (by decide) (fun _ => ?_) (fun h9 => absurd (by rw [hq3, e6, e4]) h9)
    refine lv_iload hx hb dL_law_418 (lv_at hl 1 rfl) ?_
    refine lv_if_ne (tgt := 435) hx hb dL_law_420 (by decide) (fun _ => ?_) (fun h9 => absurd (e4.symm.trans h9) (by decide))
    refine lv_goto (tgt := 1094) hx hb dL_law_435 (by decide) ?_
    refine W.widen (k := 25 + (j + 1)) (n := 600 + 6 * (j + 1)) (by omega) (by omega) ?_
    exact K (g, n, hs, pe, pk, fo, mo) (th2, fE2, fK2) f1 H2 _ ls ⟨hI, hPC, hPR2, hPO, hS⟩ hl9

set_option maxHeartbeats 4000000 in
set_option maxRecDepth 100000 in
theorem lw_c12 {p : Program} {l : Launch} {e : Env} {s : State} {m : MethodId} {below : List Frame} {meth : Method} {c : Code} {b L : Nat} {xs : Nat → Int32} {dC : Nat → ClassId} {dI : Nat → Nat → Nat} {cA cL : ClassId} {A Z : Nat → Nat} {O : Nat} (X : LX p l s m meth c b L xs dC dI cA cL A Z O) {j : Nat} (hj : 8 * j + 8 ≤ L) {u : St} {v : Int32 × Int32 × Int32} {f : Nat → Int64} {H : Heap} {locs : List Loc} {ls : Array Slot}
    (I : LI s dC dI cA cL A Z O u v f H locs) (hl : lv_has ls 7 [(0, .ref b), (1, .ref (A 0)), (2, .ref (Z 0)), (3, .ref O), (4, .int (nI (8 * j)))])
    (K : ∀ (u : St) (v : Int32 × Int32 × Int32) (f : Nat → Int64) (H : Heap) (locs : List Loc) (ls : Array Slot), LI s dC dI cA cL A Z O u v f H locs → lv_has ls 7 [(0, .ref b), (1, .ref (A 0)), (2, .ref (Z 0)), (3, .ref O), (4, .int (nI (8 * j)))] → W p l e room_1 s m #[Value.ref b] below meth c H locs (25 + (j + 1)) (600 + 6 * (j + 1)) (lw_Z below #[Value.ref b] s) (F0 m 1094 ls [])) :
    W p l e room_1 s m #[Value.ref b] below meth c H locs (25 + j) (600 + 6 * j) (lw_Z below #[Value.ref b] s) (F0 m 709 ls []) := by
  obtain ⟨C0, hL, hl9, hK, hN, hex, hdC, hdR, hdO, hdis1, hdis2⟩ := X
  obtain ⟨hx, hb, hr, hml, hown, hts, hX, hbl, hlocks, hgv⟩ := C0
  have hts : ∀ w ∈ wsL_law, w.before #[Value.ref b] s = true := fun w h => hts w (wsL_law_in w h)
  have hA : ∀ q : Nat, s.heap.size ≤ q → (fun q : Nat => s.heap.size ≤ q) q := fun _ h => h
  have hbA : ¬ (fun q : Nat => s.heap.size ≤ q) b := Nat.not_le.mpr hbl
  obtain ⟨g, n, hs, pe, pk, fo, mo⟩ := u
  obtain ⟨th, fE, fK⟩ := v
  obtain ⟨hI, hPC, hPR, hPO, hS⟩ := I
  have hg : InvG g := hI.1
  have hn : n ≤ 40 := hI.2.1
  have hpl : ¬ hs = 0 → rg pe (-20000) 20000 ∧ rg pk (-20000) 20000 := fun h9 => (hI.2.2.resolve_left h9).2
  have hPC : va_P (dC, dI) vwCl (wC cA A g n hs pe pk fo mo) H := hPC
  have hPR : va_P (dC, dI) vwCl (wR cA Z g n th hs pe pk fo mo fE fK) H := hPR
  have hKc := hK.sub (tys' := [(cA, .int)]) [0] rfl
  have hRC : ∀ x ∈ (wR cA Z g n th hs pe pk fo mo fE fK).map Prod.fst, x ∉ (wC cA A g n hs pe pk fo mo).map Prod.fst := fun x h9 => (in_app (b := (wO cL O (fun _ => 0)).map Prod.fst) (hdis1 x h9)).1
  have hCR : ∀ x ∈ (wC cA A g n hs pe pk fo mo).map Prod.fst, x ∉ (wR cA Z g n th hs pe pk fo mo fE fK).map Prod.fst := fun x h8 h9 => hRC x h9 h8
  have hOR : ∀ x ∈ (wO cL O f).map Prod.fst, x ∉ (wR cA Z g n th hs pe pk fo mo fE fK).map Prod.fst := fun x h8 h9 => (in_app (a := (wC cA A g0 0 0 0 0 0 0).map Prod.fst) (hdis1 x h9)).2 h8
  have hrc : 25 + j + 0 ≤ room_1.cells := by show 25 + j ≤ 1051; omega
  have hrs : 600 + 6 * j + 0 ≤ room_1.slots := by show 600 + 6 * j ≤ 8804; omega
  have hrc1 : 25 + j + 1 ≤ room_1.cells := by show 25 + j + 1 ≤ 1051; omega
  have hrs1 : 600 + 6 * j + 6 ≤ room_1.slots := by show 600 + 6 * j + 6 ≤ 8804; omega
  refine lv_aload_n hx hb dL_law_709 rfl (lv_at hl 1 rfl) ?_
  refine lv_aload_n hx hb dL_law_710 rfl (lv_at hl 0 rfl) ?_
  refine lv_iload hx hb dL_law_711 (lv_at hl 4 rfl) ?_
  refine lv_iconst (v := 1) hx hb dL_law_713 (by decide) ?_
  refine lv_iadd hx hb dL_law_714 ?_
  refine tp_i (v := nI (8 * j + 1)) (nI_add (8 * j) 1) ?_
  refine sldn hx hb hX hbl hbA hS (8 * j + 1) rfl (by omega) (by omega) dL_law_715 ?_
  refine lv_aload_n hx hb dL_law_716 rfl (lv_at hl 0 rfl) ?_
  refine lv_iload hx hb dL_law_717 (lv_at hl 4 rfl) ?_
  refine lv_iconst (v := 2) hx hb dL_law_719 (by decide) ?_
  refine lv_iadd hx hb dL_law_720 ?_
  refine tp_i (v := nI (8 * j + 2)) (nI_add (8 * j) 2) ?_
  refine sldn hx hb hX hbl hbA hS (8 * j + 2) rfl (by omega) (by omega) dL_law_721 ?_
  refine lv_aload_n hx hb dL_law_722 rfl (lv_at hl 3 rfl) ?_
  have hFc := va_free (wc := (wC cA A g n hs pe pk fo mo ++ [(O, .inl (cL, 1, .inr (.inl f)))])) (hdO g n hs pe pk fo mo f) hS hA [0, 1, 2, 3, 4, 5, 6, 7, 8, 9, 10, 11, 12, 13] rfl
  refine va_calli (sw_run (n := 4) (As := [.ref (A 0), .int (xs (8 * j + 1)), .int (xs (8 * j + 2)), .ref O]) (rest := []) ⟨hx, hb, hml, hown, hts⟩ (c_L_in l dC dI cA cL H A g n hs pe pk fo mo O f (hPC.app hPO) ((hdO g n hs pe pk fo mo f).weaken (fun _ _ _ _ => trivial)) hl9 s #[Value.ref b] hex (fun q hq => hS.2.1 q hq (Nat.not_le.mpr hq)) hg hn (xs (8 * j + 1)) (xs (8 * j + 2))) gL_law_L_in rfl rfl rfl (by decide +kernel) ⟨Nat.le_of_ble_eq_true rfl, Nat.le_of_ble_eq_true rfl⟩ ⟨ex_bl, fun U hU hW => ⟨rfl, hU, va_K.moved hW.alike hK, nsU_warm hW hN, hW⟩⟩ rfl rfl hl.1 rfl (lv_room (Nat.le_of_ble_eq_true rfl)) dL_law_723 ⟨hrc1, hrs1⟩) hS (fun q _ h => hFc q h) hFc (fun r1 f1 t H1 locs ht hvm hw hB hz1 hk1 hS => ?_)
  have hB : va_P (dC, dI) vwCl (wC cA A g n hs pe pk fo mo ++ [(O, .inl (cL, 1, .inr (.inl f1)))]) H1 := by rw [← ht]; exact hB
  have hPC := hB.sub (ws' := wC cA A g n hs pe pk fo mo) [0, 1, 2, 3, 4, 5, 6, 7, 8, 9, 10, 11, 12] rfl
  have hPO := hB.sub (ws' := wO cL O f1) [13] rfl
  have hPR : va_P (dC, dI) vwCl (wR cA Z g n th hs pe pk fo mo fE fK) H1 := keptL hPR hk1 hdis1
  refine lv_istore (lv' := [(5, .int r1), (0, .ref b), (1, .ref (A 0)), (2, .ref (Z 0)), (3, .ref O), (4, .int (nI (8 * j)))]) hx hb dL_law_726 hl (by decide) rfl (fun ls hl => ?_)
  refine lv_aload_n hx hb dL_law_728 rfl (lv_at hl 3 rfl) ?_
  refine lv_aload_n hx hb dL_law_729 rfl (lv_at hl 1 rfl) ?_
  refine lv_iload hx hb dL_law_730 (lv_at hl 5 rfl) ?_
  refine lv_iconst (v := 1) hx hb dL_law_732 (by decide) ?_
  refine lv_iadd hx hb dL_law_733 ?_
  refine tp_i (v := nI (8 * j + 1)) (nI_add (8 * j) 1) ?_
  refine sldn hx hb hX hbl hbA hS (8 * j + 1) rfl (by omega) (by omega) dL_law_734 ?_
  refine lv_aload_n hx hb dL_law_735 rfl (lv_at hl 1 rfl) ?_
  refine lv_iload hx hb dL_law_736 (lv_at hl 5 rfl) ?_
  refine lv_iconst (v := 2) hx hb dL_law_738 (by decide) ?_
  refine lv_iadd hx hb dL_law_739 ?_
  refine tp_i (v := nI (8 * j + 2)) (nI_add (8 * j) 2) ?_
  refine sldn hx hb hX hbl hbA hS (8 * j + 2) rfl (by omega) (by omega) dL_law_740 ?_
  have hFr := va_free (wc := (wR cA Z g n th hs pe pk fo mo fE fK)) (hdR g n th hs pe pk fo mo fE fK) hS hA [0, 1, 2, 3, 4, 5, 6, 7, 8, 9, 10] rfl
  refine mu_i (va_runV (As := [.int (xs (8 * j + 1)), .int (xs (8 * j + 2))]) (rest := []) ⟨hx, hb, hml, hown, hts⟩ (c_X3_in l dC dI cA H1 Z g n th hs pe pk fo mo fE fK hPR ((hdR g n th hs pe pk fo mo fE fK).weaken (fun _ _ _ _ => trivial)) hg hn hpl (xs (8 * j + 1)) (xs (8 * j + 2))) (cwV 2 hts gL_law_X3_in rfl rfl rfl (by decide +kernel) ⟨Nat.le_of_ble_eq_true rfl, Nat.le_of_ble_eq_true rfl⟩) ⟨rd_bl, va_recv hKc hPR (ci := 4) (q0 := 0) rfl rfl, rd_pre hKc hN⟩ rfl rfl hl.1 rfl (lv_room (Nat.le_of_ble_eq_true rfl)) dL_law_741 ⟨hrc1, hrs1⟩) hS hFr (fun r2 u2 H2 locs hq2 hB2 hk2 hz2 hS => ?_)
  obtain ⟨u2, th2, fE2, fK2⟩ := u2
  obtain ⟨e2, hq2⟩ := hq2
  have e2 : u2 = (g, n, hs, pe, pk, fo, mo) := e2
  subst e2
  have hPR2 : va_P (dC, dI) vwCl (wR cA Z g n th2 hs pe pk fo mo fE2 fK2) H2 := hB2
  have hPC : va_P (dC, dI) vwCl (wC cA A g n hs pe pk fo mo) H2 := keptL hPC hk2 hCR
  have hPO : va_P (dC, dI) vwCl (wO cL O f1) H2 := keptL hPO hk2 hOR
  refine lv_istore (lv' := [(6, .int r2), (5, .int r1), (0, .ref b), (1, .ref (A 0)), (2, .ref (Z 0)), (3, .ref O), (4, .int (nI (8 * j)))]) hx hb dL_law_744 hl (by decide) rfl (fun ls hl => ?_)
  refine lv_aload_n hx hb dL_law_746 rfl (lv_at hl 4 rfl) ?_
  refine rd_i (va_runV (As := []) (rest := []) ⟨hx, hb, hml, hown, hts⟩ (c_X3_thrown l dC dI cA H2 Z g n th2 hs pe pk fo mo fE2 fK2 hPR2) (cwV 0 hts gL_law_X3_thrown rfl rfl rfl (by decide +kernel) ⟨Nat.le_of_ble_eq_true rfl, Nat.le_of_ble_eq_true rfl⟩) ⟨rd_bl, va_recv hKc hPR2 (ci := 4) (q0 := 0) rfl rfl, rd_pre hKc hN⟩ rfl rfl hl.1 rfl (lv_room (Nat.le_of_ble_eq_true rfl)) dL_law_747 ⟨hrc1, hrs1⟩) hS (fun r3 locs hq3 hS => ?_)
  have hq3 : r3 = th2 := hq3
  have hq2 : (rg (xs (8 * j + 1)) 0 ((n : Int) - 1) ∧ th2 = 0 ∧ r2 = inF g hs pe pk (xs (8 * j + 1)) (xs (8 * j + 2))) ∨ (¬ rg (xs (8 * j + 1)) 0 ((n : Int) - 1) ∧ th2 = 1) := hq2
  refine lv_iload hx hb dL_law_750 (lv_at hl 1 rfl) ?_
  have hl9 : lv_has ls 7 [(0, .ref b), (1, .ref (A 0)), (2, .ref (Z 0)), (3, .ref O), (4, .int (nI (8 * j)))] := lv_sub hl [2, 3, 4, 5, 6] rfl
  rcases hw with ⟨hc, e4, e5⟩ | ⟨hc, e4⟩
  · obtain ⟨-, e6, e7⟩ := hq2.resolve_right (fun h9 => h9.1 hc)
    refine lv_icmp_eq (tgt := 757) hx hb dL_law_752 (by decide) (fun _ => ?_) (fun h9 => absurd (by rw [hq3, e6, e4]) h9)
    refine lv_iload hx hb dL_law_757 (lv_at hl 1 rfl) ?_
    refine lv_if_ne (tgt := 774) hx hb dL_law_759 (by decide) (fun h9 => absurd e4 h9) (fun _ => ?_)
    refine lv_aload_n hx hb dL_law_762 rfl (lv_at hl 5 rfl) ?_
    refine lv_iconst (v := 0) hx hb dL_law_763 (by decide) ?_
    refine va_lald hx hb hK hPO 0 1 rfl rfl (vp_in_iff.mpr (by decide)) dL_law_764 ?_
    refine lv_iload hx hb dL_law_765 (lv_at hl 0 rfl) ?_
    refine lv_i2l hx hb dL_law_767 rfl ?_
    refine W.lcmp hx hb dL_law_768 ?_
    refine lv_if_eq (tgt := 774) hx hb dL_law_769 (by decide) (fun _ => ?_) (fun h9 => absurd ((lg_cmp_eq _ _).mpr (by show f1 0 = r2.toInt64; rw [e5, e7])) h9)
    refine lv_goto (tgt := 1094) hx hb dL_law_774 (by decide) ?_
    refine W.widen (k := 25 + (j + 1)) (n := 600 + 6 * (j + 1)) (by omega) (by omega) ?_
    exact K (g, n, hs, pe, pk, fo, mo) (th2, fE2, fK2) f1 H2 _ ls ⟨hI, hPC, hPR2, hPO, hS⟩ hl9
  · have e6 := (hq2.resolve_left (fun h9 => hc h9.1)).2
    refine lv_icmp_eq (tgt := 757) hx hb dL_law_752 (by decide) (fun _ => ?_) (fun h9 => absurd (by rw [hq3, e6, e4]) h9)
    refine lv_iload hx hb dL_law_757 (lv_at hl 1 rfl) ?_
    refine lv_if_ne (tgt := 774) hx hb dL_law_759 (by decide) (fun _ => ?_) (fun h9 => absurd (e4.symm.trans h9) (by decide))
    refine lv_goto (tgt := 1094) hx hb dL_law_774 (by decide) ?_
    refine W.widen (k := 25 + (j + 1)) (n := 600 + 6 * (j + 1)) (by omega) (by omega) ?_
    exact K (g, n, hs, pe, pk, fo, mo) (th2, fE2, fK2) f1 H2 _ ls ⟨hI, hPC, hPR2, hPO, hS⟩ hl9
