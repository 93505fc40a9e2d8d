set_option maxHeartbeats 4000000 in
set_option maxRecDepth 100000 in
theorem lw_c13 {p : Program} {l : Launch} {e : Env} {s : State} {m : MethodId} {below : List Frame} {meth : Method} {c : Code} {b L : Nat} {xs : Nat → Int32} {dC : Nat → ClassId} {dI : Nat → Nat → Nat} {cA cL : ClassId} {A Z : Nat → Nat} {O : Nat} (X : LX p l s m meth c b L xs dC dI cA cL A Z O) {j : Nat} (hj : 8 * j + 8 ≤ L) {u : St} {v : Int32 × Int32 × Int32} {f : Nat → Int64} {H : Heap} {locs : List Loc} {ls : Array Slot}
    (I : LI s dC dI cA cL A Z O u v f H locs) (hl : lv_has ls 7 [(0, .ref b), (1, .ref (A 0)), (2, .ref (Z 0)), (3, .ref O), (4, .int (nI (8 * j)))])
    (K : ∀ (u : St) (v : Int32 × Int32 × Int32) (f : Nat → Int64) (H : Heap) (locs : List Loc) (ls : Array Slot), LI s dC dI cA cL A Z O u v f H locs → lv_has ls 7 [(0, .ref b), (1, .ref (A 0)), (2, .ref (Z 0)), (3, .ref O), (4, .int (nI (8 * j)))] → W p l e room_1 s m #[Value.ref b] below meth c H locs (25 + (j + 1)) (600 + 6 * (j + 1)) (lw_Z below #[Value.ref b] s) (F0 m 1094 ls [])) :
    W p l e room_1 s m #[Value.ref b] below meth c H locs (25 + j) (600 + 6 * j) (lw_Z below #[Value.ref b] s) (F0 m 777 ls []) := by
  obtain ⟨C0, hL, hl9, hK, hN, hex, hdC, hdR, hdO, hdis1, hdis2⟩ := X
  obtain ⟨hx, hb, hr, hml, hown, hts, hX, hbl, hlocks, hgv⟩ := C0
  have hts : ∀ w ∈ wsL_law, w.before #[Value.ref b] s = true := fun w h => hts w (wsL_law_in w h)
  have hA : ∀ q : Nat, s.heap.size ≤ q → (fun q : Nat => s.heap.size ≤ q) q := fun _ h => h
  have hbA : ¬ (fun q : Nat => s.heap.size ≤ q) b := Nat.not_le.mpr hbl
  obtain ⟨g, n, hs, pe, pk, fo, mo⟩ := u
  obtain ⟨th, fE, fK⟩ := v
  obtain ⟨hI, hPC, hPR, hPO, hS⟩ := I
  have hg : InvG g := hI.1
  have hn : n ≤ 40 := hI.2.1
  have hpl : ¬ hs = 0 → rg pe (-20000) 20000 ∧ rg pk (-20000) 20000 := fun h9 => (hI.2.2.resolve_left h9).2
  have hPC : va_P (dC, dI) vwCl (wC cA A g n hs pe pk fo mo) H := hPC
  have hPR : va_P (dC, dI) vwCl (wR cA Z g n th hs pe pk fo mo fE fK) H := hPR
  have hKc := hK.sub (tys' := [(cA, .int)]) [0] rfl
  have hRC : ∀ x ∈ (wR cA Z g n th hs pe pk fo mo fE fK).map Prod.fst, x ∉ (wC cA A g n hs pe pk fo mo).map Prod.fst := fun x h9 => (in_app (b := (wO cL O (fun _ => 0)).map Prod.fst) (hdis1 x h9)).1
  have hCR : ∀ x ∈ (wC cA A g n hs pe pk fo mo).map Prod.fst, x ∉ (wR cA Z g n th hs pe pk fo mo fE fK).map Prod.fst := fun x h8 h9 => hRC x h9 h8
  have hOR : ∀ x ∈ (wO cL O f).map Prod.fst, x ∉ (wR cA Z g n th hs pe pk fo mo fE fK).map Prod.fst := fun x h8 h9 => (in_app (a := (wC cA A g0 0 0 0 0 0 0).map Prod.fst) (hdis1 x h9)).2 h8
  have hrc : 25 + j + 0 ≤ room_1.cells := by show 25 + j ≤ 1051; omega
  have hrs : 600 + 6 * j + 0 ≤ room_1.slots := by show 600 + 6 * j ≤ 8804; omega
  refine lv_aload_n hx hb dL_law_777 rfl (lv_at hl 1 rfl) ?_
  refine lv_aload_n hx hb dL_law_778 rfl (lv_at hl 0 rfl) ?_
  refine lv_iload hx hb dL_law_779 (lv_at hl 4 rfl) ?_
  refine lv_iconst (v := 1) hx hb dL_law_781 (by decide) ?_
  refine lv_iadd hx hb dL_law_782 ?_
  refine tp_i (v := nI (8 * j + 1)) (nI_add (8 * j) 1) ?_
  refine sldn hx hb hX hbl hbA hS (8 * j + 1) rfl (by omega) (by omega) dL_law_783 ?_
  refine lv_i2l hx hb dL_law_784 rfl ?_
  refine lv_bipush (v := 32) hx hb dL_law_785 (by decide) ?_
  refine lv_lshl hx hb dL_law_787 rfl ?_
  refine lv_aload_n hx hb dL_law_788 rfl (lv_at hl 0 rfl) ?_
  refine lv_iload hx hb dL_law_789 (lv_at hl 4 rfl) ?_
  refine lv_iconst (v := 2) hx hb dL_law_791 (by decide) ?_
  refine lv_iadd hx hb dL_law_792 ?_
  refine tp_i (v := nI (8 * j + 2)) (nI_add (8 * j) 2) ?_
  refine sldn hx hb hX hbl hbA hS (8 * j + 2) rfl (by omega) (by omega) dL_law_793 ?_
  refine lv_i2l hx hb dL_law_794 rfl ?_
  refine lv_ldc2 hx hb hown (hts (.constantLong RL 64 (4294967295)) mbL_law_0) dL_law_795 ?_
  refine lv_land hx hb dL_law_798 ?_
  refine lv_lor hx hb dL_law_799 ?_
  refine lv_aload_n hx hb dL_law_800 rfl (lv_at hl 0 rfl) ?_
  refine lv_iload hx hb dL_law_801 (lv_at hl 4 rfl) ?_
  refine lv_iconst (v := 3) hx hb dL_law_803 (by decide) ?_
  refine lv_iadd hx hb dL_law_804 ?_
  refine tp_i (v := nI (8 * j + 3)) (nI_add (8 * j) 3) ?_
  refine sldn hx hb hX hbl hbA hS (8 * j + 3) rfl (by omega) (by omega) dL_law_805 ?_
  refine lv_aload_n hx hb dL_law_806 rfl (lv_at hl 0 rfl) ?_
  refine lv_iload hx hb dL_law_807 (lv_at hl 4 rfl) ?_
  refine lv_iconst (v := 4) hx hb dL_law_809 (by decide) ?_
  refine lv_iadd hx hb dL_law_810 ?_
  refine tp_i (v := nI (8 * j + 4)) (nI_add (8 * j) 4) ?_
  refine sldn hx hb hX hbl hbA hS (8 * j + 4) rfl (by omega) (by omega) dL_law_811 ?_
  refine rd_l (va_runV (As := [.long ((((xs (8 * j + 1)).toInt64) <<< ((32 : Int32).toInt64 &&& 63)) ||| (((xs (8 * j + 2)).toInt64) &&& 4294967295)), .int (xs (8 * j + 3)), .int (xs (8 * j + 4))]) (rest := []) ⟨hx, hb, hml, hown, hts⟩ (c_X2_curve l dC dI cA H A g n hs pe pk fo mo hPC hg (by omega) ((((xs (8 * j + 1)).toInt64) <<< ((32 : Int32).toInt64 &&& 63)) ||| (((xs (8 * j + 2)).toInt64) &&& 4294967295)) (xs (8 * j + 3)) (xs (8 * j + 4))) (cwV 3 hts gL_law_X2_curve rfl rfl rfl (by decide +kernel) ⟨Nat.le_of_ble_eq_true rfl, Nat.le_of_ble_eq_true rfl⟩) ⟨rd_bl, va_recv hKc hPC (ci := 3) (q0 := 0) rfl rfl, rd_pre hKc hN⟩ rfl rfl hl.1 rfl (lv_room (Nat.le_of_ble_eq_true rfl)) dL_law_812 ⟨hrc, hrs⟩) hS (fun r1 locs hq1 hS => ?_)
  refine lv_aload_n hx hb dL_law_815 rfl (lv_at hl 2 rfl) ?_
  refine lv_aload_n hx hb dL_law_816 rfl (lv_at hl 0 rfl) ?_
  refine lv_iload hx hb dL_law_817 (lv_at hl 4 rfl) ?_
  refine lv_iconst (v := 1) hx hb dL_law_819 (by decide) ?_
  refine lv_iadd hx hb dL_law_820 ?_
  refine tp_i (v := nI (8 * j + 1)) (nI_add (8 * j) 1) ?_
  refine sldn hx hb hX hbl hbA hS (8 * j + 1) rfl (by omega) (by omega) dL_law_821 ?_
  refine lv_i2l hx hb dL_law_822 rfl ?_
  refine lv_bipush (v := 32) hx hb dL_law_823 (by decide) ?_
  refine lv_lshl hx hb dL_law_825 rfl ?_
  refine lv_aload_n hx hb dL_law_826 rfl (lv_at hl 0 rfl) ?_
  refine lv_iload hx hb dL_law_827 (lv_at hl 4 rfl) ?_
  refine lv_iconst (v := 2) hx hb dL_law_829 (by decide) ?_
  refine lv_iadd hx hb dL_law_830 ?_
  refine tp_i (v := nI (8 * j + 2)) (nI_add (8 * j) 2) ?_
  refine sldn hx hb hX hbl hbA hS (8 * j + 2) rfl (by omega) (by omega) dL_law_831 ?_
  refine lv_i2l hx hb dL_law_832 rfl ?_
  refine lv_ldc2 hx hb hown (hts (.constantLong RL 64 (4294967295)) mbL_law_0) dL_law_833 ?_
  refine lv_land hx hb dL_law_836 ?_
  refine lv_lor hx hb dL_law_837 ?_
  refine lv_aload_n hx hb dL_law_838 rfl (lv_at hl 0 rfl) ?_
  refine lv_iload hx hb dL_law_839 (lv_at hl 4 rfl) ?_
  refine lv_iconst (v := 3) hx hb dL_law_841 (by decide) ?_
  refine lv_iadd hx hb dL_law_842 ?_
  refine tp_i (v := nI (8 * j + 3)) (nI_add (8 * j) 3) ?_
  refine sldn hx hb hX hbl hbA hS (8 * j + 3) rfl (by omega) (by omega) dL_law_843 ?_
  refine lv_aload_n hx hb dL_law_844 rfl (lv_at hl 0 rfl) ?_
  refine lv_iload hx hb dL_law_845 (lv_at hl 4 rfl) ?_
  refine lv_iconst (v := 4) hx hb dL_law_847 (by decide) ?_
  refine lv_iadd hx hb dL_law_848 ?_
  refine tp_i (v := nI (8 * j + 4)) (nI_add (8 * j) 4) ?_
  refine sldn hx hb hX hbl hbA hS (8 * j + 4) rfl (by omega) (by omega) dL_law_849 ?_
  have hFr := va_free (wc := (wR cA Z g n th hs pe pk fo mo fE fK)) (hdR g n th hs pe pk fo mo fE fK) hS hA [0, 1, 2, 3, 4, 5, 6, 7, 8, 9, 10] rfl
  refine mu_l (va_runV (As := [.long ((((xs (8 * j + 1)).toInt64) <<< ((32 : Int32).toInt64 &&& 63)) ||| (((xs (8 * j + 2)).toInt64) &&& 4294967295)), .int (xs (8 * j + 3)), .int (xs (8 * j + 4))]) (rest := [.long r1]) ⟨hx, hb, hml, hown, hts⟩ (c_X3_curve l dC dI cA H Z g n th hs pe pk fo mo fE fK hPR ((hdR g n th hs pe pk fo mo fE fK).weaken (fun _ _ _ _ => trivial)) hg (by omega) ((((xs (8 * j + 1)).toInt64) <<< ((32 : Int32).toInt64 &&& 63)) ||| (((xs (8 * j + 2)).toInt64) &&& 4294967295)) (xs (8 * j + 3)) (xs (8 * j + 4))) (cwV 3 hts gL_law_X3_curve rfl rfl rfl (by decide +kernel) ⟨Nat.le_of_ble_eq_true rfl, Nat.le_of_ble_eq_true rfl⟩) ⟨rd_bl, va_recv hKc hPR (ci := 4) (q0 := 0) rfl rfl, rd_pre hKc hN⟩ rfl rfl hl.1 rfl (lv_room (Nat.le_of_ble_eq_true rfl)) dL_law_850 ⟨hrc, hrs⟩) hS hFr (fun r2 u2 H2 locs hq2 hB2 hk2 hz2 hS => ?_)
  obtain ⟨u2, v2⟩ := u2
  have hPO : va_P (dC, dI) vwCl (wO cL O f) H2 := keptL hPO hk2 hOR
  have hPC : bC dC dI cA A (g, n, hs, pe, pk, fo, mo) H2 := keptL hPC hk2 hCR
  obtain ⟨e3, e2, -⟩ := hq2
  have e2 : u2 = (g, n, hs, pe, pk, fo, mo) := e2
  subst e2
  have e1 : r1 = r2 := hq1.trans e3.symm
  have hI2 := hI
  refine W.lcmp hx hb dL_law_853 ?_
  refine lv_if_eq (tgt := 1094) hx hb dL_law_854 (by decide) (fun _ => ?_) (fun h9 => absurd h9 (fun h9 => h9 ((lg_cmp_eq _ _).mpr e1)))
  refine W.widen (k := 25 + (j + 1)) (n := 600 + 6 * (j + 1)) (by omega) (by omega) ?_
  exact K (g, n, hs, pe, pk, fo, mo) v2 f H2 _ ls ⟨hI2, hPC, hB2, hPO, hS⟩ hl

set_option maxHeartbeats 4000000 in
set_option maxRecDepth 100000 in
theorem lw_c14 {p : Program} {l : Launch} {e : Env} {s : State} {m : MethodId} {below : List Frame} {meth : Method} {c : Code} {b L : Nat} {xs : Nat → Int32} {dC : Nat → ClassId} {dI : Nat → Nat → Nat} {cA cL : ClassId} {A Z : Nat → Nat} {O : Nat} (X : LX p l s m meth c b L xs dC dI cA cL A Z O) {j : Nat} (hj : 8 * j + 8 ≤ L) {u : St} {v : Int32 × Int32 × Int32} {f : Nat → Int64} {H : Heap} {locs : List Loc} {ls : Array Slot}
    (I : LI s dC dI cA cL A Z O u v f H locs) (hl : lv_has ls 7 [(0, .ref b), (1, .ref (A 0)), (2, .ref (Z 0)), (3, .ref O), (4, .int (nI (8 * j)))])
    (K : ∀ (u : St) (v : Int32 × Int32 × Int32) (f : Nat → Int64) (H : Heap) (locs : List Loc) (ls : Array Slot), LI s dC dI cA cL A Z O u v f H locs → lv_has ls 7 [(0, .ref b), (1, .ref (A 0)), (2, .ref (Z 0)), (3, .ref O), (4, .int (nI (8 * j)))] → W p l e room_1 s m #[Value.ref b] below meth c H locs (25 + (j + 1)) (600 + 6 * (j + 1)) (lw_Z below #[Value.ref b] s) (F0 m 1094 ls [])) :
    W p l e room_1 s m #[Value.ref b] below meth c H locs (25 + j) (600 + 6 * j) (lw_Z below #[Value.ref b] s) (F0 m 859 ls []) := by
  obtain ⟨C0, hL, hl9, hK, hN, hex, hdC, hdR, hdO, hdis1, hdis2⟩ := X
  obtain ⟨hx, hb, hr, hml, hown, hts, hX, hbl, hlocks, hgv⟩ := C0
  have hts : ∀ w ∈ wsL_law, w.before #[Value.ref b] s = true := fun w h => hts w (wsL_law_in w h)
  have hA : ∀ q : Nat, s.heap.size ≤ q → (fun q : Nat => s.heap.size ≤ q) q := fun _ h => h
  have hbA : ¬ (fun q : Nat => s.heap.size ≤ q) b := Nat.not_le.mpr hbl
  obtain ⟨g, n, hs, pe, pk, fo, mo⟩ := u
  obtain ⟨th, fE, fK⟩ := v
  obtain ⟨hI, hPC, hPR, hPO, hS⟩ := I
  have hg : InvG g := hI.1
  have hn : n ≤ 40 := hI.2.1
  have hpl : ¬ hs = 0 → rg pe (-20000) 20000 ∧ rg pk (-20000) 20000 := fun h9 => (hI.2.2.resolve_left h9).2
  have hPC : va_P (dC, dI) vwCl (wC cA A g n hs pe pk fo mo) H := hPC
  have hPR : va_P (dC, dI) vwCl (wR cA Z g n th hs pe pk fo mo fE fK) H := hPR
  have hKc := hK.sub (tys' := [(cA, .int)]) [0] rfl
  have hRC : ∀ x ∈ (wR cA Z g n th hs pe pk fo mo fE fK).map Prod.fst, x ∉ (wC cA A g n hs pe pk fo mo).map Prod.fst := fun x h9 => (in_app (b := (wO cL O (fun _ => 0)).map Prod.fst) (hdis1 x h9)).1
  have hCR : ∀ x ∈ (wC cA A g n hs pe pk fo mo).map Prod.fst, x ∉ (wR cA Z g n th hs pe pk fo mo fE fK).map Prod.fst := fun x h8 h9 => hRC x h9 h8
  have hOR : ∀ x ∈ (wO cL O f).map Prod.fst, x ∉ (wR cA Z g n th hs pe pk fo mo fE fK).map Prod.fst := fun x h8 h9 => (in_app (a := (wC cA A g0 0 0 0 0 0 0).map Prod.fst) (hdis1 x h9)).2 h8
  have hrc : 25 + j + 0 ≤ room_1.cells := by show 25 + j ≤ 1051; omega
  have hrs : 600 + 6 * j + 0 ≤ room_1.slots := by show 600 + 6 * j ≤ 8804; omega
  refine lv_aload_n hx hb dL_law_859 rfl (lv_at hl 1 rfl) ?_
  refine lv_aload_n hx hb dL_law_860 rfl (lv_at hl 0 rfl) ?_
  refine lv_iload hx hb dL_law_861 (lv_at hl 4 rfl) ?_
  refine lv_iconst (v := 1) hx hb dL_law_863 (by decide) ?_
  refine lv_iadd hx hb dL_law_864 ?_
  refine tp_i (v := nI (8 * j + 1)) (nI_add (8 * j) 1) ?_
  refine sldn hx hb hX hbl hbA hS (8 * j + 1) rfl (by omega) (by omega) dL_law_865 ?_
  refine lv_i2l hx hb dL_law_866 rfl ?_
  refine lv_bipush (v := 32) hx hb dL_law_867 (by decide) ?_
  refine lv_lshl hx hb dL_law_869 rfl ?_
  refine lv_aload_n hx hb dL_law_870 rfl (lv_at hl 0 rfl) ?_
  refine lv_iload hx hb dL_law_871 (lv_at hl 4 rfl) ?_
  refine lv_iconst (v := 2) hx hb dL_law_873 (by decide) ?_
  refine lv_iadd hx hb dL_law_874 ?_
  refine tp_i (v := nI (8 * j + 2)) (nI_add (8 * j) 2) ?_
  refine sldn hx hb hX hbl hbA hS (8 * j + 2) rfl (by omega) (by omega) dL_law_875 ?_
  refine lv_i2l hx hb dL_law_876 rfl ?_
  refine lv_ldc2 hx hb hown (hts (.constantLong RL 64 (4294967295)) mbL_law_0) dL_law_877 ?_
  refine lv_land hx hb dL_law_880 ?_
  refine lv_lor hx hb dL_law_881 ?_
  refine lv_aload_n hx hb dL_law_882 rfl (lv_at hl 0 rfl) ?_
  refine lv_iload hx hb dL_law_883 (lv_at hl 4 rfl) ?_
  refine lv_iconst (v := 3) hx hb dL_law_885 (by decide) ?_
  refine lv_iadd hx hb dL_law_886 ?_
  refine tp_i (v := nI (8 * j + 3)) (nI_add (8 * j) 3) ?_
  refine sldn hx hb hX hbl hbA hS (8 * j + 3) rfl (by omega) (by omega) dL_law_887 ?_
  refine rd_i (va_runV (As := [.long ((((xs (8 * j + 1)).toInt64) <<< ((32 : Int32).toInt64 &&& 63)) ||| (((xs (8 * j + 2)).toInt64) &&& 4294967295)), .int (xs (8 * j + 3))]) (rest := []) ⟨hx, hb, hml, hown, hts⟩ (c_X2_last l dC dI cA H A g n hs pe pk fo mo hPC hg (by omega) ((((xs (8 * j + 1)).toInt64) <<< ((32 : Int32).toInt64 &&& 63)) ||| (((xs (8 * j + 2)).toInt64) &&& 4294967295)) (xs (8 * j + 3))) (cwV 2 hts gL_law_X2_last rfl rfl rfl (by decide +kernel) ⟨Nat.le_of_ble_eq_true rfl, Nat.le_of_ble_eq_true rfl⟩) ⟨rd_bl, va_recv hKc hPC (ci := 3) (q0 := 0) rfl rfl, rd_pre hKc hN⟩ rfl rfl hl.1 rfl (lv_room (Nat.le_of_ble_eq_true rfl)) dL_law_888 ⟨hrc, hrs⟩) hS (fun r1 locs hq1 hS => ?_)
  refine lv_aload_n hx hb dL_law_891 rfl (lv_at hl 2 rfl) ?_
  refine lv_aload_n hx hb dL_law_892 rfl (lv_at hl 0 rfl) ?_
  refine lv_iload hx hb dL_law_893 (lv_at hl 4 rfl) ?_
  refine lv_iconst (v := 1) hx hb dL_law_895 (by decide) ?_
  refine lv_iadd hx hb dL_law_896 ?_
  refine tp_i (v := nI (8 * j + 1)) (nI_add (8 * j) 1) ?_
  refine sldn hx hb hX hbl hbA hS (8 * j + 1) rfl (by omega) (by omega) dL_law_897 ?_
  refine lv_i2l hx hb dL_law_898 rfl ?_
  refine lv_bipush (v := 32) hx hb dL_law_899 (by decide) ?_
  refine lv_lshl hx hb dL_law_901 rfl ?_
  refine lv_aload_n hx hb dL_law_902 rfl (lv_at hl 0 rfl) ?_
  refine lv_iload hx hb dL_law_903 (lv_at hl 4 rfl) ?_
  refine lv_iconst (v := 2) hx hb dL_law_905 (by decide) ?_
  refine lv_iadd hx hb dL_law_906 ?_
  refine tp_i (v := nI (8 * j + 2)) (nI_add (8 * j) 2) ?_
  refine sldn hx hb hX hbl hbA hS (8 * j + 2) rfl (by omega) (by omega) dL_law_907 ?_
  refine lv_i2l hx hb dL_law_908 rfl ?_
  refine lv_ldc2 hx hb hown (hts (.constantLong RL 64 (4294967295)) mbL_law_0) dL_law_909 ?_
  refine lv_land hx hb dL_law_912 ?_
  refine lv_lor hx hb dL_law_913 ?_
  refine lv_aload_n hx hb dL_law_914 rfl (lv_at hl 0 rfl) ?_
  refine lv_iload hx hb dL_law_915 (lv_at hl 4 rfl) ?_
  refine lv_iconst (v := 3) hx hb dL_law_917 (by decide) ?_
  refine lv_iadd hx hb dL_law_918 ?_
  refine tp_i (v := nI (8 * j + 3)) (nI_add (8 * j) 3) ?_
  refine sldn hx hb hX hbl hbA hS (8 * j + 3) rfl (by omega) (by omega) dL_law_919 ?_
  have hFr := va_free (wc := (wR cA Z g n th hs pe pk fo mo fE fK)) (hdR g n th hs pe pk fo mo fE fK) hS hA [0, 1, 2, 3, 4, 5, 6, 7, 8, 9, 10] rfl
  refine mu_i (va_runV (As := [.long ((((xs (8 * j + 1)).toInt64) <<< ((32 : Int32).toInt64 &&& 63)) ||| (((xs (8 * j + 2)).toInt64) &&& 4294967295)), .int (xs (8 * j + 3))]) (rest := [.int r1]) ⟨hx, hb, hml, hown, hts⟩ (c_X3_last l dC dI cA H Z g n th hs pe pk fo mo fE fK hPR ((hdR g n th hs pe pk fo mo fE fK).weaken (fun _ _ _ _ => trivial)) hg (by omega) ((((xs (8 * j + 1)).toInt64) <<< ((32 : Int32).toInt64 &&& 63)) ||| (((xs (8 * j + 2)).toInt64) &&& 4294967295)) (xs (8 * j + 3))) (cwV 2 hts gL_law_X3_last rfl rfl rfl (by decide +kernel) ⟨Nat.le_of_ble_eq_true rfl, Nat.le_of_ble_eq_true rfl⟩) ⟨rd_bl, va_recv hKc hPR (ci := 4) (q0 := 0) rfl rfl, rd_pre hKc hN⟩ rfl rfl hl.1 rfl (lv_room (Nat.le_of_ble_eq_true rfl)) dL_law_920 ⟨hrc, hrs⟩) hS hFr (fun r2 u2 H2 locs hq2 hB2 hk2 hz2 hS => ?_)
  obtain ⟨u2, v2⟩ := u2
  have hPO : va_P (dC, dI) vwCl (wO cL O f) H2 := keptL hPO hk2 hOR
  have hPC : bC dC dI cA A (g, n, hs, pe, pk, fo, mo) H2 := keptL hPC hk2 hCR
  obtain ⟨e3, e2, -⟩ := hq2
  have e2 : u2 = (g, n, hs, pe, pk, fo, mo) := e2
  subst e2
  have e1 : r1 = r2 := hq1.trans e3.symm
  have hI2 := hI
  refine lv_icmp_eq (tgt := 1094) hx hb dL_law_923 (by decide) (fun _ => ?_) (fun h9 => absurd h9 (fun h9 => h9 e1))
  refine W.widen (k := 25 + (j + 1)) (n := 600 + 6 * (j + 1)) (by omega) (by omega) ?_
  exact K (g, n, hs, pe, pk, fo, mo) v2 f H2 _ ls ⟨hI2, hPC, hB2, hPO, hS⟩ hl

set_option maxHeartbeats 4000000 in
set_option maxRecDepth 100000 in
theorem lw_c15 {p : Program} {l : Launch} {e : Env} {s : State} {m : MethodId} {below : List Frame} {meth : Method} {c : Code} {b L : Nat} {xs : Nat → Int32} {dC : Nat → ClassId} {dI : Nat → Nat → Nat} {cA cL : ClassId} {A Z : Nat → Nat} {O : Nat} (X : LX p l s m meth c b L xs dC dI cA cL A Z O) {j : Nat} (hj : 8 * j + 8 ≤ L) {u : St} {v : Int32 × Int32 × Int32} {f : Nat → Int64} {H : Heap} {locs : List Loc} {ls : Array Slot}
    (I : LI s dC dI cA cL A Z O u v f H locs) (hl : lv_has ls 7 [(0, .ref b), (1, .ref (A 0)), (2, .ref (Z 0)), (3, .ref O), (4, .int (nI (8 * j)))])
    (K : ∀ (u : St) (v : Int32 × Int32 × Int32) (f : Nat → Int64) (H : Heap) (locs : List Loc) (ls : Array Slot), LI s dC dI cA cL A Z O u v f H locs → lv_has ls 7 [(0, .ref b), (1, .ref (A 0)), (2, .ref (Z 0)), (3, .ref O), (4, .int (nI (8 * j)))] → W p l e room_1 s m #[Value.ref b] below meth c H locs (25 + (j + 1)) (600 + 6 * (j + 1)) (lw_Z below #[Value.ref b] s) (F0 m 1094 ls [])) :
    W p l e room_1 s m #[Value.ref b] below meth c H locs (25 + j) (600 + 6 * j) (lw_Z below #[Value.ref b] s) (F0 m 928 ls []) := by
  obtain ⟨C0, hL, hl9, hK, hN, hex, hdC, hdR, hdO, hdis1, hdis2⟩ := X
  obtain ⟨hx, hb, hr, hml, hown, hts, hX, hbl, hlocks, hgv⟩ := C0
  have hts : ∀ w ∈ wsL_law, w.before #[Value.ref b] s = true := fun w h => hts w (wsL_law_in w h)
  have hA : ∀ q : Nat, s.heap.size ≤ q → (fun q : Nat => s.heap.size ≤ q) q := fun _ h => h
  have hbA : ¬ (fun q : Nat => s.heap.size ≤ q) b := Nat.not_le.mpr hbl
  obtain ⟨g, n, hs, pe, pk, fo, mo⟩ := u
  obtain ⟨th, fE, fK⟩ := v
  obtain ⟨hI, hPC, hPR, hPO, hS⟩ := I
  have hg : InvG g := hI.1
  have hn : n ≤ 40 := hI.2.1
  have hpl : ¬ hs = 0 → rg pe (-20000) 20000 ∧ rg pk (-20000) 20000 := fun h9 => (hI.2.2.resolve_left h9).2
  have hPC : va_P (dC, dI) vwCl (wC cA A g n hs pe pk fo mo) H := hPC
  have hPR : va_P (dC, dI) vwCl (wR cA Z g n th hs pe pk fo mo fE fK) H := hPR
  have hKc := hK.sub (tys' := [(cA, .int)]) [0] rfl
  have hRC : ∀ x ∈ (wR cA Z g n th hs pe pk fo mo fE fK).map Prod.fst, x ∉ (wC cA A g n hs pe pk fo mo).map Prod.fst := fun x h9 => (in_app (b := (wO cL O (fun _ => 0)).map Prod.fst) (hdis1 x h9)).1
  have hCR : ∀ x ∈ (wC cA A g n hs pe pk fo mo).map Prod.fst, x ∉ (wR cA Z g n th hs pe pk fo mo fE fK).map Prod.fst := fun x h8 h9 => hRC x h9 h8
  have hOR : ∀ x ∈ (wO cL O f).map Prod.fst, x ∉ (wR cA Z g n th hs pe pk fo mo fE fK).map Prod.fst := fun x h8 h9 => (in_app (a := (wC cA A g0 0 0 0 0 0 0).map Prod.fst) (hdis1 x h9)).2 h8
  have hrc : 25 + j + 0 ≤ room_1.cells := by show 25 + j ≤ 1051; omega
  have hrs : 600 + 6 * j + 0 ≤ room_1.slots := by show 600 + 6 * j ≤ 8804; omega
  refine lv_aload_n hx hb dL_law_928 rfl (lv_at hl 1 rfl) ?_
  refine lv_aload_n hx hb dL_law_929 rfl (lv_at hl 0 rfl) ?_
  refine lv_iload hx hb dL_law_930 (lv_at hl 4 rfl) ?_
  refine lv_iconst (v := 1) hx hb dL_law_932 (by decide) ?_
  refine lv_iadd hx hb dL_law_933 ?_
  refine tp_i (v := nI (8 * j + 1)) (nI_add (8 * j) 1) ?_
  refine sldn hx hb hX hbl hbA hS (8 * j + 1) rfl (by omega) (by omega) dL_law_934 ?_
  refine lv_aload_n hx hb dL_law_935 rfl (lv_at hl 0 rfl) ?_
  refine lv_iload hx hb dL_law_936 (lv_at hl 4 rfl) ?_
  refine lv_iconst (v := 2) hx hb dL_law_938 (by decide) ?_
  refine lv_iadd hx hb dL_law_939 ?_
  refine tp_i (v := nI (8 * j + 2)) (nI_add (8 * j) 2) ?_
  refine sldn hx hb hX hbl hbA hS (8 * j + 2) rfl (by omega) (by omega) dL_law_940 ?_
  refine lv_aload_n hx hb dL_law_941 rfl (lv_at hl 0 rfl) ?_
  refine lv_iload hx hb dL_law_942 (lv_at hl 4 rfl) ?_
  refine lv_iconst (v := 3) hx hb dL_law_944 (by decide) ?_
  refine lv_iadd hx hb dL_law_945 ?_
  refine tp_i (v := nI (8 * j + 3)) (nI_add (8 * j) 3) ?_
  refine sldn hx hb hX hbl hbA hS (8 * j + 3) rfl (by omega) (by omega) dL_law_946 ?_
  refine lv_aload_n hx hb dL_law_947 rfl (lv_at hl 0 rfl) ?_
  refine lv_iload hx hb dL_law_948 (lv_at hl 4 rfl) ?_
  refine lv_iconst (v := 4) hx hb dL_law_950 (by decide) ?_
  refine lv_iadd hx hb dL_law_951 ?_
  refine tp_i (v := nI (8 * j + 4)) (nI_add (8 * j) 4) ?_
  refine sldn hx hb hX hbl hbA hS (8 * j + 4) rfl (by omega) (by omega) dL_law_952 ?_
  refine lv_i2l hx hb dL_law_953 rfl ?_
  refine lv_bipush (v := 32) hx hb dL_law_954 (by decide) ?_
  refine lv_lshl hx hb dL_law_956 rfl ?_
  refine lv_aload_n hx hb dL_law_957 rfl (lv_at hl 0 rfl) ?_
  refine lv_iload hx hb dL_law_958 (lv_at hl 4 rfl) ?_
  refine lv_iconst (v := 5) hx hb dL_law_960 (by decide) ?_
  refine lv_iadd hx hb dL_law_961 ?_
  refine tp_i (v := nI (8 * j + 5)) (nI_add (8 * j) 5) ?_
  refine sldn hx hb hX hbl hbA hS (8 * j + 5) rfl (by omega) (by omega) dL_law_962 ?_
  refine lv_i2l hx hb dL_law_963 rfl ?_
  refine lv_ldc2 hx hb hown (hts (.constantLong RL 64 (4294967295)) mbL_law_0) dL_law_964 ?_
  refine lv_land hx hb dL_law_967 ?_
  refine lv_lor hx hb dL_law_968 ?_
  refine lv_aload_n hx hb dL_law_969 rfl (lv_at hl 0 rfl) ?_
  refine lv_iload hx hb dL_law_970 (lv_at hl 4 rfl) ?_
  refine lv_bipush (v := 6) hx hb dL_law_972 (by decide) ?_
  refine lv_iadd hx hb dL_law_974 ?_
  refine tp_i (v := nI (8 * j + 6)) (nI_add (8 * j) 6) ?_
  refine sldn hx hb hX hbl hbA hS (8 * j + 6) rfl (by omega) (by omega) dL_law_975 ?_
  refine lv_i2l hx hb dL_law_976 rfl ?_
  refine lv_bipush (v := 32) hx hb dL_law_977 (by decide) ?_
  refine lv_lshl hx hb dL_law_979 rfl ?_
  refine lv_aload_n hx hb dL_law_980 rfl (lv_at hl 0 rfl) ?_
  refine lv_iload hx hb dL_law_981 (lv_at hl 4 rfl) ?_
  refine lv_bipush (v := 7) hx hb dL_law_983 (by decide) ?_
  refine lv_iadd hx hb dL_law_985 ?_
  refine tp_i (v := nI (8 * j + 7)) (nI_add (8 * j) 7) ?_
  refine sldn hx hb hX hbl hbA hS (8 * j + 7) rfl (by omega) (by omega) dL_law_986 ?_
  refine lv_i2l hx hb dL_law_987 rfl ?_
  refine lv_ldc2 hx hb hown (hts (.constantLong RL 64 (4294967295)) mbL_law_0) dL_law_988 ?_
  refine lv_land hx hb dL_law_991 ?_
  refine lv_lor hx hb dL_law_992 ?_
  have hFc := va_free (wc := (wC cA A g n hs pe pk fo mo)) (hdC g n hs pe pk fo mo) hS hA [0, 1, 2, 3, 4, 5, 6, 7, 8, 9, 10, 11, 12] rfl
  refine mu_i (va_runV (As := [.int (xs (8 * j + 1)), .int (xs (8 * j + 2)), .int (xs (8 * j + 3)), .long ((((xs (8 * j + 4)).toInt64) <<< ((32 : Int32).toInt64 &&& 63)) ||| (((xs (8 * j + 5)).toInt64) &&& 4294967295)), .long ((((xs (8 * j + 6)).toInt64) <<< ((32 : Int32).toInt64 &&& 63)) ||| (((xs (8 * j + 7)).toInt64) &&& 4294967295))]) (rest := []) ⟨hx, hb, hml, hown, hts⟩ (c_X2_needed l dC dI cA H A g n hs pe pk fo mo hPC ((hdC g n hs pe pk fo mo).weaken (fun _ _ _ _ => trivial)) hg hn (xs (8 * j + 1)) (xs (8 * j + 2)) (xs (8 * j + 3)) ((((xs (8 * j + 4)).toInt64) <<< ((32 : Int32).toInt64 &&& 63)) ||| (((xs (8 * j + 5)).toInt64) &&& 4294967295)) ((((xs (8 * j + 6)).toInt64) <<< ((32 : Int32).toInt64 &&& 63)) ||| (((xs (8 * j + 7)).toInt64) &&& 4294967295))) (cwV 5 hts gL_law_X2_needed rfl rfl rfl (by decide +kernel) ⟨Nat.le_of_ble_eq_true rfl, Nat.le_of_ble_eq_true rfl⟩) ⟨rd_bl, va_recv hKc hPC (ci := 3) (q0 := 0) rfl rfl, rd_pre hKc hN⟩ rfl rfl hl.1 rfl (lv_room (Nat.le_of_ble_eq_true rfl)) dL_law_993 ⟨hrc, hrs⟩) hS hFc (fun r1 u1 H1 locs hq1 hB1 hk1 hz1 hS => ?_)
  have hPR : va_P (dC, dI) vwCl (wR cA Z g n th hs pe pk fo mo fE fK) H1 := keptL hPR hk1 hRC
  have hPO : va_P (dC, dI) vwCl (wO cL O f) H1 := keptL hPO hk1 hdis2
  refine lv_aload_n hx hb dL_law_996 rfl (lv_at hl 2 rfl) ?_
  refine lv_aload_n hx hb dL_law_997 rfl (lv_at hl 0 rfl) ?_
  refine lv_iload hx hb dL_law_998 (lv_at hl 4 rfl) ?_
  refine lv_iconst (v := 1) hx hb dL_law_1000 (by decide) ?_
  refine lv_iadd hx hb dL_law_1001 ?_
  refine tp_i (v := nI (8 * j + 1)) (nI_add (8 * j) 1) ?_
  refine sldn hx hb hX hbl hbA hS (8 * j + 1) rfl (by omega) (by omega) dL_law_1002 ?_
  refine lv_aload_n hx hb dL_law_1003 rfl (lv_at hl 0 rfl) ?_
  refine lv_iload hx hb dL_law_1004 (lv_at hl 4 rfl) ?_
  refine lv_iconst (v := 2) hx hb dL_law_1006 (by decide) ?_
  refine lv_iadd hx hb dL_law_1007 ?_
  refine tp_i (v := nI (8 * j + 2)) (nI_add (8 * j) 2) ?_
  refine sldn hx hb hX hbl hbA hS (8 * j + 2) rfl (by omega) (by omega) dL_law_1008 ?_
  refine lv_aload_n hx hb dL_law_1009 rfl (lv_at hl 0 rfl) ?_
  refine lv_iload hx hb dL_law_1010 (lv_at hl 4 rfl) ?_
  refine lv_iconst (v := 3) hx hb dL_law_1012 (by decide) ?_
  refine lv_iadd hx hb dL_law_1013 ?_
  refine tp_i (v := nI (8 * j + 3)) (nI_add (8 * j) 3) ?_
  refine sldn hx hb hX hbl hbA hS (8 * j + 3) rfl (by omega) (by omega) dL_law_1014 ?_
  refine lv_aload_n hx hb dL_law_1015 rfl (lv_at hl 0 rfl) ?_
  refine lv_iload hx hb dL_law_1016 (lv_at hl 4 rfl) ?_
  refine lv_iconst (v := 4) hx hb dL_law_1018 (by decide) ?_
  refine lv_iadd hx hb dL_law_1019 ?_
  refine tp_i (v := nI (8 * j + 4)) (nI_add (8 * j) 4) ?_
  refine sldn hx hb hX hbl hbA hS (8 * j + 4) rfl (by omega) (by omega) dL_law_1020 ?_
  refine lv_i2l hx hb dL_law_1021 rfl ?_
  refine lv_bipush (v := 32) hx hb dL_law_1022 (by decide) ?_
  refine lv_lshl hx hb dL_law_1024 rfl ?_
  refine lv_aload_n hx hb dL_law_1025 rfl (lv_at hl 0 rfl) ?_
  refine lv_iload hx hb dL_law_1026 (lv_at hl 4 rfl) ?_
  refine lv_iconst (v := 5) hx hb dL_law_1028 (by decide) ?_
  refine lv_iadd hx hb dL_law_1029 ?_
  refine tp_i (v := nI (8 * j + 5)) (nI_add (8 * j) 5) ?_
  refine sldn hx hb hX hbl hbA hS (8 * j + 5) rfl (by omega) (by omega) dL_law_1030 ?_
  refine lv_i2l hx hb dL_law_1031 rfl ?_
  refine lv_ldc2 hx hb hown (hts (.constantLong RL 64 (4294967295)) mbL_law_0) dL_law_1032 ?_
  refine lv_land hx hb dL_law_1035 ?_
  refine lv_lor hx hb dL_law_1036 ?_
  refine lv_aload_n hx hb dL_law_1037 rfl (lv_at hl 0 rfl) ?_
  refine lv_iload hx hb dL_law_1038 (lv_at hl 4 rfl) ?_
  refine lv_bipush (v := 6) hx hb dL_law_1040 (by decide) ?_
  refine lv_iadd hx hb dL_law_1042 ?_
  refine tp_i (v := nI (8 * j + 6)) (nI_add (8 * j) 6) ?_
  refine sldn hx hb hX hbl hbA hS (8 * j + 6) rfl (by omega) (by omega) dL_law_1043 ?_
  refine lv_i2l hx hb dL_law_1044 rfl ?_
  refine lv_bipush (v := 32) hx hb dL_law_1045 (by decide) ?_
  refine lv_lshl hx hb dL_law_1047 rfl ?_
  refine lv_aload_n hx hb dL_law_1048 rfl (lv_at hl 0 rfl) ?_
  refine lv_iload hx hb dL_law_1049 (lv_at hl 4 rfl) ?_
  refine lv_bipush (v := 7) hx hb dL_law_1051 (by decide) ?_
  refine lv_iadd hx hb dL_law_1053 ?_
  refine tp_i (v := nI (8 * j + 7)) (nI_add (8 * j) 7) ?_
  refine sldn hx hb hX hbl hbA hS (8 * j + 7) rfl (by omega) (by omega) dL_law_1054 ?_
  refine lv_i2l hx hb dL_law_1055 rfl ?_
  refine lv_ldc2 hx hb hown (hts (.constantLong RL 64 (4294967295)) mbL_law_0) dL_law_1056 ?_
  refine lv_land hx hb dL_law_1059 ?_
  refine lv_lor hx hb dL_law_1060 ?_
  have hFr := va_free (wc := (wR cA Z g n th hs pe pk fo mo fE fK)) (hdR g n th hs pe pk fo mo fE fK) hS hA [0, 1, 2, 3, 4, 5, 6, 7, 8, 9, 10] rfl
  refine mu_i (va_runV (As := [.int (xs (8 * j + 1)), .int (xs (8 * j + 2)), .int (xs (8 * j + 3)), .long ((((xs (8 * j + 4)).toInt64) <<< ((32 : Int32).toInt64 &&& 63)) ||| (((xs (8 * j + 5)).toInt64) &&& 4294967295)), .long ((((xs (8 * j + 6)).toInt64) <<< ((32 : Int32).toInt64 &&& 63)) ||| (((xs (8 * j + 7)).toInt64) &&& 4294967295))]) (rest := [.int r1]) ⟨hx, hb, hml, hown, hts⟩ (c_X3_needed l dC dI cA H1 Z g n th hs pe pk fo mo fE fK hPR ((hdR g n th hs pe pk fo mo fE fK).weaken (fun _ _ _ _ => trivial)) hg hn (xs (8 * j + 1)) (xs (8 * j + 2)) (xs (8 * j + 3)) ((((xs (8 * j + 4)).toInt64) <<< ((32 : Int32).toInt64 &&& 63)) ||| (((xs (8 * j + 5)).toInt64) &&& 4294967295)) ((((xs (8 * j + 6)).toInt64) <<< ((32 : Int32).toInt64 &&& 63)) ||| (((xs (8 * j + 7)).toInt64) &&& 4294967295))) (cwV 5 hts gL_law_X3_needed rfl rfl rfl (by decide +kernel) ⟨Nat.le_of_ble_eq_true rfl, Nat.le_of_ble_eq_true rfl⟩) ⟨rd_bl, va_recv hKc hPR (ci := 4) (q0 := 0) rfl rfl, rd_pre hKc hN⟩ rfl rfl hl.1 rfl (lv_room (Nat.le_of_ble_eq_true rfl)) dL_law_1061 ⟨hrc, hrs⟩) hS hFr (fun r2 u2 H2 locs hq2 hB2 hk2 hz2 hS => ?_)
  obtain ⟨u2, v2⟩ := u2
  have hPO : va_P (dC, dI) vwCl (wO cL O f) H2 := keptL hPO hk2 hOR
  have hPC : bC dC dI cA A u1 H2 := keptL hB1 hk2 hCR
  obtain ⟨e1, e2⟩ := Prod.mk.inj (hq1.trans hq2.1.symm)
  subst e2
  have hI2 : InvS u1 := by rw [show u1 = (nedF _ _ _ _ _ _).2 from congrArg Prod.snd hq1]; exact ned_inv hI _ _ _ _ _
  refine lv_icmp_eq (tgt := 1094) hx hb dL_law_1064 (by decide) (fun _ => ?_) (fun h9 => absurd h9 (fun h9 => h9 e1))
  refine W.widen (k := 25 + (j + 1)) (n := 600 + 6 * (j + 1)) (by omega) (by omega) ?_
  exact K u1 v2 f H2 _ ls ⟨hI2, hPC, hB2, hPO, hS⟩ hl

set_option maxHeartbeats 4000000 in
set_option maxRecDepth 100000 in
theorem lw_c16 {p : Program} {l : Launch} {e : Env} {s : State} {m : MethodId} {below : List Frame} {meth : Method} {c : Code} {b L : Nat} {xs : Nat → Int32} {dC : Nat → ClassId} {dI : Nat → Nat → Nat} {cA cL : ClassId} {A Z : Nat → Nat} {O : Nat} (X : LX p l s m meth c b L xs dC dI cA cL A Z O) {j : Nat} (hj : 8 * j + 8 ≤ L) {u : St} {v : Int32 × Int32 × Int32} {f : Nat → Int64} {H : Heap} {locs : List Loc} {ls : Array Slot}
    (I : LI s dC dI cA cL A Z O u v f H locs) (hl : lv_has ls 7 [(0, .ref b), (1, .ref (A 0)), (2, .ref (Z 0)), (3, .ref O), (4, .int (nI (8 * j)))])
    (K : ∀ (u : St) (v : Int32 × Int32 × Int32) (f : Nat → Int64) (H : Heap) (locs : List Loc) (ls : Array Slot), LI s dC dI cA cL A Z O u v f H locs → lv_has ls 7 [(0, .ref b), (1, .ref (A 0)), (2, .ref (Z 0)), (3, .ref O), (4, .int (nI (8 * j)))] → W p l e room_1 s m #[Value.ref b] below meth c H locs (25 + (j + 1)) (600 + 6 * (j + 1)) (lw_Z below #[Value.ref b] s) (F0 m 1094 ls [])) :
    W p l e room_1 s m #[Value.ref b] below meth c H locs (25 + j) (600 + 6 * j) (lw_Z below #[Value.ref b] s) (F0 m 1069 ls []) := by
  obtain ⟨C0, hL, hl9, hK, hN, hex, hdC, hdR, hdO, hdis1, hdis2⟩ := X
  obtain ⟨hx, hb, hr, hml, hown, hts, hX, hbl, hlocks, hgv⟩ := C0
  have hts : ∀ w ∈ wsL_law, w.before #[Value.ref b] s = true := fun w h => hts w (wsL_law_in w h)
  have hA : ∀ q : Nat, s.heap.size ≤ q → (fun q : Nat => s.heap.size ≤ q) q := fun _ h => h
  have hbA : ¬ (fun q : Nat => s.heap.size ≤ q) b := Nat.not_le.mpr hbl
  obtain ⟨g, n, hs, pe, pk, fo, mo⟩ := u
  obtain ⟨th, fE, fK⟩ := v
  obtain ⟨hI, hPC, hPR, hPO, hS⟩ := I
  have hg : InvG g := hI.1
  have hn : n ≤ 40 := hI.2.1
  have hpl : ¬ hs = 0 → rg pe (-20000) 20000 ∧ rg pk (-20000) 20000 := fun h9 => (hI.2.2.resolve_left h9).2
  have hPC : va_P (dC, dI) vwCl (wC cA A g n hs pe pk fo mo) H := hPC
  have hPR : va_P (dC, dI) vwCl (wR cA Z g n th hs pe pk fo mo fE fK) H := hPR
  have hKc := hK.sub (tys' := [(cA, .int)]) [0] rfl
  have hRC : ∀ x ∈ (wR cA Z g n th hs pe pk fo mo fE fK).map Prod.fst, x ∉ (wC cA A g n hs pe pk fo mo).map Prod.fst := fun x h9 => (in_app (b := (wO cL O (fun _ => 0)).map Prod.fst) (hdis1 x h9)).1
  have hCR : ∀ x ∈ (wC cA A g n hs pe pk fo mo).map Prod.fst, x ∉ (wR cA Z g n th hs pe pk fo mo fE fK).map Prod.fst := fun x h8 h9 => hRC x h9 h8
  have hOR : ∀ x ∈ (wO cL O f).map Prod.fst, x ∉ (wR cA Z g n th hs pe pk fo mo fE fK).map Prod.fst := fun x h8 h9 => (in_app (a := (wC cA A g0 0 0 0 0 0 0).map Prod.fst) (hdis1 x h9)).2 h8
  have hrc : 25 + j + 0 ≤ room_1.cells := by show 25 + j ≤ 1051; omega
  have hrs : 600 + 6 * j + 0 ≤ room_1.slots := by show 600 + 6 * j ≤ 8804; omega
  refine lv_aload_n hx hb dL_law_1069 rfl (lv_at hl 1 rfl) ?_
  refine lv_aload_n hx hb dL_law_1070 rfl (lv_at hl 0 rfl) ?_
  refine lv_iload hx hb dL_law_1071 (lv_at hl 4 rfl) ?_
  refine lv_iconst (v := 1) hx hb dL_law_1073 (by decide) ?_
  refine lv_iadd hx hb dL_law_1074 ?_
  refine tp_i (v := nI (8 * j + 1)) (nI_add (8 * j) 1) ?_
  refine sldn hx hb hX hbl hbA hS (8 * j + 1) rfl (by omega) (by omega) dL_law_1075 ?_
  refine rd_i (va_runV (As := [.int (xs (8 * j + 1))]) (rest := []) ⟨hx, hb, hml, hown, hts⟩ (c_X2_count l dC dI cA H A g n hs pe pk fo mo hPC hg (by omega) (xs (8 * j + 1))) (cwV 1 hts gL_law_X2_count rfl rfl rfl (by decide +kernel) ⟨Nat.le_of_ble_eq_true rfl, Nat.le_of_ble_eq_true rfl⟩) ⟨rd_bl, va_recv hKc hPC (ci := 3) (q0 := 0) rfl rfl, rd_pre hKc hN⟩ rfl rfl hl.1 rfl (lv_room (Nat.le_of_ble_eq_true rfl)) dL_law_1076 ⟨hrc, hrs⟩) hS (fun r1 locs hq1 hS => ?_)
  refine lv_aload_n hx hb dL_law_1079 rfl (lv_at hl 2 rfl) ?_
  refine lv_aload_n hx hb dL_law_1080 rfl (lv_at hl 0 rfl) ?_
  refine lv_iload hx hb dL_law_1081 (lv_at hl 4 rfl) ?_
  refine lv_iconst (v := 1) hx hb dL_law_1083 (by decide) ?_
  refine lv_iadd hx hb dL_law_1084 ?_
  refine tp_i (v := nI (8 * j + 1)) (nI_add (8 * j) 1) ?_
  refine sldn hx hb hX hbl hbA hS (8 * j + 1) rfl (by omega) (by omega) dL_law_1085 ?_
  have hFr := va_free (wc := (wR cA Z g n th hs pe pk fo mo fE fK)) (hdR g n th hs pe pk fo mo fE fK) hS hA [0, 1, 2, 3, 4, 5, 6, 7, 8, 9, 10] rfl
  refine mu_i (va_runV (As := [.int (xs (8 * j + 1))]) (rest := [.int r1]) ⟨hx, hb, hml, hown, hts⟩ (c_X3_count l dC dI cA H Z g n th hs pe pk fo mo fE fK hPR ((hdR g n th hs pe pk fo mo fE fK).weaken (fun _ _ _ _ => trivial)) hg (by omega) (xs (8 * j + 1))) (cwV 1 hts gL_law_X3_count rfl rfl rfl (by decide +kernel) ⟨Nat.le_of_ble_eq_true rfl, Nat.le_of_ble_eq_true rfl⟩) ⟨rd_bl, va_recv hKc hPR (ci := 4) (q0 := 0) rfl rfl, rd_pre hKc hN⟩ rfl rfl hl.1 rfl (lv_room (Nat.le_of_ble_eq_true rfl)) dL_law_1086 ⟨hrc, hrs⟩) hS hFr (fun r2 u2 H2 locs hq2 hB2 hk2 hz2 hS => ?_)
  obtain ⟨u2, v2⟩ := u2
  have hPO : va_P (dC, dI) vwCl (wO cL O f) H2 := keptL hPO hk2 hOR
  have hPC : bC dC dI cA A (g, n, hs, pe, pk, fo, mo) H2 := keptL hPC hk2 hCR
  obtain ⟨e3, e2, -⟩ := hq2
  have e2 : u2 = (g, n, hs, pe, pk, fo, mo) := e2
  subst e2
  have e1 : r1 = r2 := hq1.trans e3.symm
  have hI2 := hI
  refine lv_icmp_eq (tgt := 1094) hx hb dL_law_1089 (by decide) (fun _ => ?_) (fun h9 => absurd h9 (fun h9 => h9 e1))
  refine W.widen (k := 25 + (j + 1)) (n := 600 + 6 * (j + 1)) (by omega) (by omega) ?_
  exact K (g, n, hs, pe, pk, fo, mo) v2 f H2 _ ls ⟨hI2, hPC, hB2, hPO, hS⟩ hl
