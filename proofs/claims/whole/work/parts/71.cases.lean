set_option maxHeartbeats 4000000 in
set_option maxRecDepth 100000 in
theorem lw_c0 {p : Program} {l : Launch} {e : Env} {s : State} {m : MethodId} {below : List Frame} {meth : Method} {c : Code} {b L : Nat} {xs : Nat → Int32} {dC : Nat → ClassId} {dI : Nat → Nat → Nat} {cA cL : ClassId} {A Z : Nat → Nat} {O : Nat} (X : LX p l s m meth c b L xs dC dI cA cL A Z O) {j : Nat} (hj : 8 * j + 8 ≤ L) {u : St} {v : Int32 × Int32 × Int32} {f : Nat → Int64} {H : Heap} {locs : List Loc} {ls : Array Slot}
    (I : LI s dC dI cA cL A Z O u v f H locs) (hl : lv_has ls 7 [(0, .ref b), (1, .ref (A 0)), (2, .ref (Z 0)), (3, .ref O), (4, .int (nI (8 * j)))])
    (K : ∀ (u : St) (v : Int32 × Int32 × Int32) (f : Nat → Int64) (H : Heap) (locs : List Loc) (ls : Array Slot), LI s dC dI cA cL A Z O u v f H locs → lv_has ls 7 [(0, .ref b), (1, .ref (A 0)), (2, .ref (Z 0)), (3, .ref O), (4, .int (nI (8 * j)))] → W p l e room_1 s m #[Value.ref b] below meth c H locs (25 + (j + 1)) (600 + 6 * (j + 1)) (lw_Z below #[Value.ref b] s) (F0 m 1094 ls [])) :
    W p l e room_1 s m #[Value.ref b] below meth c H locs (25 + j) (600 + 6 * j) (lw_Z below #[Value.ref b] s) (F0 m 124 ls []) := by
  obtain ⟨C0, hL, hl9, hK, hN, hex, hdC, hdR, hdO, hdis1, hdis2⟩ := X
  obtain ⟨hx, hb, hr, hml, hown, hts, hX, hbl, hlocks, hgv⟩ := C0
  have hts : ∀ w ∈ wsL_law, w.before #[Value.ref b] s = true := fun w h => hts w (wsL_law_in w h)
  have hA : ∀ q : Nat, s.heap.size ≤ q → (fun q : Nat => s.heap.size ≤ q) q := fun _ h => h
  have hbA : ¬ (fun q : Nat => s.heap.size ≤ q) b := Nat.not_le.mpr hbl
  obtain ⟨g, n, hs, pe, pk, fo, mo⟩ := u
  obtain ⟨th, fE, fK⟩ := v
  obtain ⟨hI, hPC, hPR, hPO, hS⟩ := I
  have hg : InvG g := hI.1
  have hn : n ≤ 40 := hI.2.1
  have hpl : ¬ hs = 0 → rg pe (-20000) 20000 ∧ rg pk (-20000) 20000 := fun h9 => (hI.2.2.resolve_left h9).2
  have hPC : va_P (dC, dI) vwCl (wC cA A g n hs pe pk fo mo) H := hPC
  have hPR : va_P (dC, dI) vwCl (wR cA Z g n th hs pe pk fo mo fE fK) H := hPR
  have hKc := hK.sub (tys' := [(cA, .int)]) [0] rfl
  have hRC : ∀ x ∈ (wR cA Z g n th hs pe pk fo mo fE fK).map Prod.fst, x ∉ (wC cA A g n hs pe pk fo mo).map Prod.fst := fun x h9 => (in_app (b := (wO cL O (fun _ => 0)).map Prod.fst) (hdis1 x h9)).1
  have hCR : ∀ x ∈ (wC cA A g n hs pe pk fo mo).map Prod.fst, x ∉ (wR cA Z g n th hs pe pk fo mo fE fK).map Prod.fst := fun x h8 h9 => hRC x h9 h8
  have hOR : ∀ x ∈ (wO cL O f).map Prod.fst, x ∉ (wR cA Z g n th hs pe pk fo mo fE fK).map Prod.fst := fun x h8 h9 => (in_app (a := (wC cA A g0 0 0 0 0 0 0).map Prod.fst) (hdis1 x h9)).2 h8
  have hrc : 25 + j + 0 ≤ room_1.cells := by show 25 + j ≤ 1051; omega
  have hrs : 600 + 6 * j + 0 ≤ room_1.slots := by show 600 + 6 * j ≤ 8804; omega
  refine lv_aload_n hx hb dL_law_124 rfl (lv_at hl 1 rfl) ?_
  refine lv_aload_n hx hb dL_law_125 rfl (lv_at hl 0 rfl) ?_
  refine lv_iload hx hb dL_law_126 (lv_at hl 4 rfl) ?_
  refine lv_iconst (v := 1) hx hb dL_law_128 (by decide) ?_
  refine lv_iadd hx hb dL_law_129 ?_
  refine tp_i (v := nI (8 * j + 1)) (nI_add (8 * j) 1) ?_
  refine sldn hx hb hX hbl hbA hS (8 * j + 1) rfl (by omega) (by omega) dL_law_130 ?_
  refine lv_aload_n hx hb dL_law_131 rfl (lv_at hl 0 rfl) ?_
  refine lv_iload hx hb dL_law_132 (lv_at hl 4 rfl) ?_
  refine lv_iconst (v := 2) hx hb dL_law_134 (by decide) ?_
  refine lv_iadd hx hb dL_law_135 ?_
  refine tp_i (v := nI (8 * j + 2)) (nI_add (8 * j) 2) ?_
  refine sldn hx hb hX hbl hbA hS (8 * j + 2) rfl (by omega) (by omega) dL_law_136 ?_
  refine lv_aload_n hx hb dL_law_137 rfl (lv_at hl 0 rfl) ?_
  refine lv_iload hx hb dL_law_138 (lv_at hl 4 rfl) ?_
  refine lv_iconst (v := 3) hx hb dL_law_140 (by decide) ?_
  refine lv_iadd hx hb dL_law_141 ?_
  refine tp_i (v := nI (8 * j + 3)) (nI_add (8 * j) 3) ?_
  refine sldn hx hb hX hbl hbA hS (8 * j + 3) rfl (by omega) (by omega) dL_law_142 ?_
  have hFc := va_free (wc := (wC cA A g n hs pe pk fo mo)) (hdC g n hs pe pk fo mo) hS hA [0, 1, 2, 3, 4, 5, 6, 7, 8, 9, 10, 11, 12] rfl
  refine mu_i (va_runV (As := [.int (xs (8 * j + 1)), .int (xs (8 * j + 2)), .int (xs (8 * j + 3))]) (rest := []) ⟨hx, hb, hml, hown, hts⟩ (c_X2_fibre l dC dI cA H A g n hs pe pk fo mo hPC ((hdC g n hs pe pk fo mo).weaken (fun _ _ _ _ => trivial)) hn (xs (8 * j + 1)) (xs (8 * j + 2)) (xs (8 * j + 3))) (cwV 3 hts gL_law_X2_fibre rfl rfl rfl (by decide +kernel) ⟨Nat.le_of_ble_eq_true rfl, Nat.le_of_ble_eq_true rfl⟩) ⟨rd_bl, va_recv hKc hPC (ci := 3) (q0 := 0) rfl rfl, rd_pre hKc hN⟩ rfl rfl hl.1 rfl (lv_room (Nat.le_of_ble_eq_true rfl)) dL_law_143 ⟨hrc, hrs⟩) hS hFc (fun r1 u1 H1 locs hq1 hB1 hk1 hz1 hS => ?_)
  have hPR : va_P (dC, dI) vwCl (wR cA Z g n th hs pe pk fo mo fE fK) H1 := keptL hPR hk1 hRC
  have hPO : va_P (dC, dI) vwCl (wO cL O f) H1 := keptL hPO hk1 hdis2
  refine lv_aload_n hx hb dL_law_146 rfl (lv_at hl 2 rfl) ?_
  refine lv_aload_n hx hb dL_law_147 rfl (lv_at hl 0 rfl) ?_
  refine lv_iload hx hb dL_law_148 (lv_at hl 4 rfl) ?_
  refine lv_iconst (v := 1) hx hb dL_law_150 (by decide) ?_
  refine lv_iadd hx hb dL_law_151 ?_
  refine tp_i (v := nI (8 * j + 1)) (nI_add (8 * j) 1) ?_
  refine sldn hx hb hX hbl hbA hS (8 * j + 1) rfl (by omega) (by omega) dL_law_152 ?_
  refine lv_aload_n hx hb dL_law_153 rfl (lv_at hl 0 rfl) ?_
  refine lv_iload hx hb dL_law_154 (lv_at hl 4 rfl) ?_
  refine lv_iconst (v := 2) hx hb dL_law_156 (by decide) ?_
  refine lv_iadd hx hb dL_law_157 ?_
  refine tp_i (v := nI (8 * j + 2)) (nI_add (8 * j) 2) ?_
  refine sldn hx hb hX hbl hbA hS (8 * j + 2) rfl (by omega) (by omega) dL_law_158 ?_
  refine lv_aload_n hx hb dL_law_159 rfl (lv_at hl 0 rfl) ?_
  refine lv_iload hx hb dL_law_160 (lv_at hl 4 rfl) ?_
  refine lv_iconst (v := 3) hx hb dL_law_162 (by decide) ?_
  refine lv_iadd hx hb dL_law_163 ?_
  refine tp_i (v := nI (8 * j + 3)) (nI_add (8 * j) 3) ?_
  refine sldn hx hb hX hbl hbA hS (8 * j + 3) rfl (by omega) (by omega) dL_law_164 ?_
  have hFr := va_free (wc := (wR cA Z g n th hs pe pk fo mo fE fK)) (hdR g n th hs pe pk fo mo fE fK) hS hA [0, 1, 2, 3, 4, 5, 6, 7, 8, 9, 10] rfl
  refine mu_i (va_runV (As := [.int (xs (8 * j + 1)), .int (xs (8 * j + 2)), .int (xs (8 * j + 3))]) (rest := [.int r1]) ⟨hx, hb, hml, hown, hts⟩ (c_X3_fibre l dC dI cA H1 Z g n th hs pe pk fo mo fE fK hPR ((hdR g n th hs pe pk fo mo fE fK).weaken (fun _ _ _ _ => trivial)) hn (xs (8 * j + 1)) (xs (8 * j + 2)) (xs (8 * j + 3))) (cwV 3 hts gL_law_X3_fibre rfl rfl rfl (by decide +kernel) ⟨Nat.le_of_ble_eq_true rfl, Nat.le_of_ble_eq_true rfl⟩) ⟨rd_bl, va_recv hKc hPR (ci := 4) (q0 := 0) rfl rfl, rd_pre hKc hN⟩ rfl rfl hl.1 rfl (lv_room (Nat.le_of_ble_eq_true rfl)) dL_law_165 ⟨hrc, hrs⟩) hS hFr (fun r2 u2 H2 locs hq2 hB2 hk2 hz2 hS => ?_)
  obtain ⟨u2, v2⟩ := u2
  have hPO : va_P (dC, dI) vwCl (wO cL O f) H2 := keptL hPO hk2 hOR
  have hPC : bC dC dI cA A u1 H2 := keptL hB1 hk2 hCR
  obtain ⟨e1, e2⟩ := Prod.mk.inj (hq1.trans hq2.1.symm)
  subst e2
  have hI2 : InvS u1 := by rw [show u1 = (fibF _ _ _ _).2 from congrArg Prod.snd hq1]; exact fib_inv hI _ _ _
  refine lv_icmp_eq (tgt := 1094) hx hb dL_law_168 (by decide) (fun _ => ?_) (fun h9 => absurd h9 (fun h9 => h9 e1))
  refine W.widen (k := 25 + (j + 1)) (n := 600 + 6 * (j + 1)) (by omega) (by omega) ?_
  exact K u1 v2 f H2 _ ls ⟨hI2, hPC, hB2, hPO, hS⟩ hl

set_option maxHeartbeats 4000000 in
set_option maxRecDepth 100000 in
theorem lw_c1 {p : Program} {l : Launch} {e : Env} {s : State} {m : MethodId} {below : List Frame} {meth : Method} {c : Code} {b L : Nat} {xs : Nat → Int32} {dC : Nat → ClassId} {dI : Nat → Nat → Nat} {cA cL : ClassId} {A Z : Nat → Nat} {O : Nat} (X : LX p l s m meth c b L xs dC dI cA cL A Z O) {j : Nat} (hj : 8 * j + 8 ≤ L) {u : St} {v : Int32 × Int32 × Int32} {f : Nat → Int64} {H : Heap} {locs : List Loc} {ls : Array Slot}
    (I : LI s dC dI cA cL A Z O u v f H locs) (hl : lv_has ls 7 [(0, .ref b), (1, .ref (A 0)), (2, .ref (Z 0)), (3, .ref O), (4, .int (nI (8 * j)))])
    (K : ∀ (u : St) (v : Int32 × Int32 × Int32) (f : Nat → Int64) (H : Heap) (locs : List Loc) (ls : Array Slot), LI s dC dI cA cL A Z O u v f H locs → lv_has ls 7 [(0, .ref b), (1, .ref (A 0)), (2, .ref (Z 0)), (3, .ref O), (4, .int (nI (8 * j)))] → W p l e room_1 s m #[Value.ref b] below meth c H locs (25 + (j + 1)) (600 + 6 * (j + 1)) (lw_Z below #[Value.ref b] s) (F0 m 1094 ls [])) :
    W p l e room_1 s m #[Value.ref b] below meth c H locs (25 + j) (600 + 6 * j) (lw_Z below #[Value.ref b] s) (F0 m 173 ls []) := by
  obtain ⟨C0, hL, hl9, hK, hN, hex, hdC, hdR, hdO, hdis1, hdis2⟩ := X
  obtain ⟨hx, hb, hr, hml, hown, hts, hX, hbl, hlocks, hgv⟩ := C0
  have hts : ∀ w ∈ wsL_law, w.before #[Value.ref b] s = true := fun w h => hts w (wsL_law_in w h)
  have hA : ∀ q : Nat, s.heap.size ≤ q → (fun q : Nat => s.heap.size ≤ q) q := fun _ h => h
  have hbA : ¬ (fun q : Nat => s.heap.size ≤ q) b := Nat.not_le.mpr hbl
  obtain ⟨g, n, hs, pe, pk, fo, mo⟩ := u
  obtain ⟨th, fE, fK⟩ := v
  obtain ⟨hI, hPC, hPR, hPO, hS⟩ := I
  have hg : InvG g := hI.1
  have hn : n ≤ 40 := hI.2.1
  have hpl : ¬ hs = 0 → rg pe (-20000) 20000 ∧ rg pk (-20000) 20000 := fun h9 => (hI.2.2.resolve_left h9).2
  have hPC : va_P (dC, dI) vwCl (wC cA A g n hs pe pk fo mo) H := hPC
  have hPR : va_P (dC, dI) vwCl (wR cA Z g n th hs pe pk fo mo fE fK) H := hPR
  have hKc := hK.sub (tys' := [(cA, .int)]) [0] rfl
  have hRC : ∀ x ∈ (wR cA Z g n th hs pe pk fo mo fE fK).map Prod.fst, x ∉ (wC cA A g n hs pe pk fo mo).map Prod.fst := fun x h9 => (in_app (b := (wO cL O (fun _ => 0)).map Prod.fst) (hdis1 x h9)).1
  have hCR : ∀ x ∈ (wC cA A g n hs pe pk fo mo).map Prod.fst, x ∉ (wR cA Z g n th hs pe pk fo mo fE fK).map Prod.fst := fun x h8 h9 => hRC x h9 h8
  have hOR : ∀ x ∈ (wO cL O f).map Prod.fst, x ∉ (wR cA Z g n th hs pe pk fo mo fE fK).map Prod.fst := fun x h8 h9 => (in_app (a := (wC cA A g0 0 0 0 0 0 0).map Prod.fst) (hdis1 x h9)).2 h8
  have hrc : 25 + j + 0 ≤ room_1.cells := by show 25 + j ≤ 1051; omega
  have hrs : 600 + 6 * j + 0 ≤ room_1.slots := by show 600 + 6 * j ≤ 8804; omega
  refine lv_aload_n hx hb dL_law_173 rfl (lv_at hl 1 rfl) ?_
  refine lv_aload_n hx hb dL_law_174 rfl (lv_at hl 0 rfl) ?_
  refine lv_iload hx hb dL_law_175 (lv_at hl 4 rfl) ?_
  refine lv_iconst (v := 1) hx hb dL_law_177 (by decide) ?_
  refine lv_iadd hx hb dL_law_178 ?_
  refine tp_i (v := nI (8 * j + 1)) (nI_add (8 * j) 1) ?_
  refine sldn hx hb hX hbl hbA hS (8 * j + 1) rfl (by omega) (by omega) dL_law_179 ?_
  refine lv_aload_n hx hb dL_law_180 rfl (lv_at hl 0 rfl) ?_
  refine lv_iload hx hb dL_law_181 (lv_at hl 4 rfl) ?_
  refine lv_iconst (v := 2) hx hb dL_law_183 (by decide) ?_
  refine lv_iadd hx hb dL_law_184 ?_
  refine tp_i (v := nI (8 * j + 2)) (nI_add (8 * j) 2) ?_
  refine sldn hx hb hX hbl hbA hS (8 * j + 2) rfl (by omega) (by omega) dL_law_185 ?_
  refine lv_aload_n hx hb dL_law_186 rfl (lv_at hl 0 rfl) ?_
  refine lv_iload hx hb dL_law_187 (lv_at hl 4 rfl) ?_
  refine lv_iconst (v := 3) hx hb dL_law_189 (by decide) ?_
  refine lv_iadd hx hb dL_law_190 ?_
  refine tp_i (v := nI (8 * j + 3)) (nI_add (8 * j) 3) ?_
  refine sldn hx hb hX hbl hbA hS (8 * j + 3) rfl (by omega) (by omega) dL_law_191 ?_
  have hFc := va_free (wc := (wC cA A g n hs pe pk fo mo)) (hdC g n hs pe pk fo mo) hS hA [0, 1, 2, 3, 4, 5, 6, 7, 8, 9, 10, 11, 12] rfl
  refine mu_i (va_runV (As := [.int (xs (8 * j + 1)), .int (xs (8 * j + 2)), .int (xs (8 * j + 3))]) (rest := []) ⟨hx, hb, hml, hown, hts⟩ (c_X2_point l dC dI cA H A g n hs pe pk fo mo hPC ((hdC g n hs pe pk fo mo).weaken (fun _ _ _ _ => trivial)) hg (xs (8 * j + 1)) (xs (8 * j + 2)) (xs (8 * j + 3))) (cwV 3 hts gL_law_X2_point rfl rfl rfl (by decide +kernel) ⟨Nat.le_of_ble_eq_true rfl, Nat.le_of_ble_eq_true rfl⟩) ⟨rd_bl, va_recv hKc hPC (ci := 3) (q0 := 0) rfl rfl, rd_pre hKc hN⟩ rfl rfl hl.1 rfl (lv_room (Nat.le_of_ble_eq_true rfl)) dL_law_192 ⟨hrc, hrs⟩) hS hFc (fun r1 u1 H1 locs hq1 hB1 hk1 hz1 hS => ?_)
  have hPR : va_P (dC, dI) vwCl (wR cA Z g n th hs pe pk fo mo fE fK) H1 := keptL hPR hk1 hRC
  have hPO : va_P (dC, dI) vwCl (wO cL O f) H1 := keptL hPO hk1 hdis2
  refine lv_aload_n hx hb dL_law_195 rfl (lv_at hl 2 rfl) ?_
  refine lv_aload_n hx hb dL_law_196 rfl (lv_at hl 0 rfl) ?_
  refine lv_iload hx hb dL_law_197 (lv_at hl 4 rfl) ?_
  refine lv_iconst (v := 1) hx hb dL_law_199 (by decide) ?_
  refine lv_iadd hx hb dL_law_200 ?_
  refine tp_i (v := nI (8 * j + 1)) (nI_add (8 * j) 1) ?_
  refine sldn hx hb hX hbl hbA hS (8 * j + 1) rfl (by omega) (by omega) dL_law_201 ?_
  refine lv_aload_n hx hb dL_law_202 rfl (lv_at hl 0 rfl) ?_
  refine lv_iload hx hb dL_law_203 (lv_at hl 4 rfl) ?_
  refine lv_iconst (v := 2) hx hb dL_law_205 (by decide) ?_
  refine lv_iadd hx hb dL_law_206 ?_
  refine tp_i (v := nI (8 * j + 2)) (nI_add (8 * j) 2) ?_
  refine sldn hx hb hX hbl hbA hS (8 * j + 2) rfl (by omega) (by omega) dL_law_207 ?_
  refine lv_aload_n hx hb dL_law_208 rfl (lv_at hl 0 rfl) ?_
  refine lv_iload hx hb dL_law_209 (lv_at hl 4 rfl) ?_
  refine lv_iconst (v := 3) hx hb dL_law_211 (by decide) ?_
  refine lv_iadd hx hb dL_law_212 ?_
  refine tp_i (v := nI (8 * j + 3)) (nI_add (8 * j) 3) ?_
  refine sldn hx hb hX hbl hbA hS (8 * j + 3) rfl (by omega) (by omega) dL_law_213 ?_
  have hFr := va_free (wc := (wR cA Z g n th hs pe pk fo mo fE fK)) (hdR g n th hs pe pk fo mo fE fK) hS hA [0, 1, 2, 3, 4, 5, 6, 7, 8, 9, 10] rfl
  refine mu_i (va_runV (As := [.int (xs (8 * j + 1)), .int (xs (8 * j + 2)), .int (xs (8 * j + 3))]) (rest := [.int r1]) ⟨hx, hb, hml, hown, hts⟩ (c_X3_point l dC dI cA H1 Z g n th hs pe pk fo mo fE fK hPR ((hdR g n th hs pe pk fo mo fE fK).weaken (fun _ _ _ _ => trivial)) hg (xs (8 * j + 1)) (xs (8 * j + 2)) (xs (8 * j + 3))) (cwV 3 hts gL_law_X3_point rfl rfl rfl (by decide +kernel) ⟨Nat.le_of_ble_eq_true rfl, Nat.le_of_ble_eq_true rfl⟩) ⟨rd_bl, va_recv hKc hPR (ci := 4) (q0 := 0) rfl rfl, rd_pre hKc hN⟩ rfl rfl hl.1 rfl (lv_room (Nat.le_of_ble_eq_true rfl)) dL_law_214 ⟨hrc, hrs⟩) hS hFr (fun r2 u2 H2 locs hq2 hB2 hk2 hz2 hS => ?_)
  obtain ⟨u2, v2⟩ := u2
  have hPO : va_P (dC, dI) vwCl (wO cL O f) H2 := keptL hPO hk2 hOR
  have hPC : bC dC dI cA A u1 H2 := keptL hB1 hk2 hCR
  obtain ⟨e1, e2⟩ := Prod.mk.inj (hq1.trans hq2.1.symm)
  subst e2
  have hI2 : InvS u1 := by rw [show u1 = (poiF _ _ _ _).2 from congrArg Prod.snd hq1]; exact poi_inv hI _ _ _
  refine lv_icmp_eq (tgt := 1094) hx hb dL_law_217 (by decide) (fun _ => ?_) (fun h9 => absurd h9 (fun h9 => h9 e1))
  refine W.widen (k := 25 + (j + 1)) (n := 600 + 6 * (j + 1)) (by omega) (by omega) ?_
  exact K u1 v2 f H2 _ ls ⟨hI2, hPC, hB2, hPO, hS⟩ hl

set_option maxHeartbeats 4000000 in
set_option maxRecDepth 100000 in
theorem lw_c2 {p : Program} {l : Launch} {e : Env} {s : State} {m : MethodId} {below : List Frame} {meth : Method} {c : Code} {b L : Nat} {xs : Nat → Int32} {dC : Nat → ClassId} {dI : Nat → Nat → Nat} {cA cL : ClassId} {A Z : Nat → Nat} {O : Nat} (X : LX p l s m meth c b L xs dC dI cA cL A Z O) {j : Nat} (hj : 8 * j + 8 ≤ L) {u : St} {v : Int32 × Int32 × Int32} {f : Nat → Int64} {H : Heap} {locs : List Loc} {ls : Array Slot}
    (I : LI s dC dI cA cL A Z O u v f H locs) (hl : lv_has ls 7 [(0, .ref b), (1, .ref (A 0)), (2, .ref (Z 0)), (3, .ref O), (4, .int (nI (8 * j)))])
    (K : ∀ (u : St) (v : Int32 × Int32 × Int32) (f : Nat → Int64) (H : Heap) (locs : List Loc) (ls : Array Slot), LI s dC dI cA cL A Z O u v f H locs → lv_has ls 7 [(0, .ref b), (1, .ref (A 0)), (2, .ref (Z 0)), (3, .ref O), (4, .int (nI (8 * j)))] → W p l e room_1 s m #[Value.ref b] below meth c H locs (25 + (j + 1)) (600 + 6 * (j + 1)) (lw_Z below #[Value.ref b] s) (F0 m 1094 ls [])) :
    W p l e room_1 s m #[Value.ref b] below meth c H locs (25 + j) (600 + 6 * j) (lw_Z below #[Value.ref b] s) (F0 m 222 ls []) := by
  obtain ⟨C0, hL, hl9, hK, hN, hex, hdC, hdR, hdO, hdis1, hdis2⟩ := X
  obtain ⟨hx, hb, hr, hml, hown, hts, hX, hbl, hlocks, hgv⟩ := C0
  have hts : ∀ w ∈ wsL_law, w.before #[Value.ref b] s = true := fun w h => hts w (wsL_law_in w h)
  have hA : ∀ q : Nat, s.heap.size ≤ q → (fun q : Nat => s.heap.size ≤ q) q := fun _ h => h
  have hbA : ¬ (fun q : Nat => s.heap.size ≤ q) b := Nat.not_le.mpr hbl
  obtain ⟨g, n, hs, pe, pk, fo, mo⟩ := u
  obtain ⟨th, fE, fK⟩ := v
  obtain ⟨hI, hPC, hPR, hPO, hS⟩ := I
  have hg : InvG g := hI.1
  have hn : n ≤ 40 := hI.2.1
  have hpl : ¬ hs = 0 → rg pe (-20000) 20000 ∧ rg pk (-20000) 20000 := fun h9 => (hI.2.2.resolve_left h9).2
  have hPC : va_P (dC, dI) vwCl (wC cA A g n hs pe pk fo mo) H := hPC
  have hPR : va_P (dC, dI) vwCl (wR cA Z g n th hs pe pk fo mo fE fK) H := hPR
  have hKc := hK.sub (tys' := [(cA, .int)]) [0] rfl
  have hRC : ∀ x ∈ (wR cA Z g n th hs pe pk fo mo fE fK).map Prod.fst, x ∉ (wC cA A g n hs pe pk fo mo).map Prod.fst := fun x h9 => (in_app (b := (wO cL O (fun _ => 0)).map Prod.fst) (hdis1 x h9)).1
  have hCR : ∀ x ∈ (wC cA A g n hs pe pk fo mo).map Prod.fst, x ∉ (wR cA Z g n th hs pe pk fo mo fE fK).map Prod.fst := fun x h8 h9 => hRC x h9 h8
  have hOR : ∀ x ∈ (wO cL O f).map Prod.fst, x ∉ (wR cA Z g n th hs pe pk fo mo fE fK).map Prod.fst := fun x h8 h9 => (in_app (a := (wC cA A g0 0 0 0 0 0 0).map Prod.fst) (hdis1 x h9)).2 h8
  have hrc : 25 + j + 0 ≤ room_1.cells := by show 25 + j ≤ 1051; omega
  have hrs : 600 + 6 * j + 0 ≤ room_1.slots := by show 600 + 6 * j ≤ 8804; omega
  refine lv_aload_n hx hb dL_law_222 rfl (lv_at hl 1 rfl) ?_
  refine lv_aload_n hx hb dL_law_223 rfl (lv_at hl 0 rfl) ?_
  refine lv_iload hx hb dL_law_224 (lv_at hl 4 rfl) ?_
  refine lv_iconst (v := 1) hx hb dL_law_226 (by decide) ?_
  refine lv_iadd hx hb dL_law_227 ?_
  refine tp_i (v := nI (8 * j + 1)) (nI_add (8 * j) 1) ?_
  refine sldn hx hb hX hbl hbA hS (8 * j + 1) rfl (by omega) (by omega) dL_law_228 ?_
  refine lv_aload_n hx hb dL_law_229 rfl (lv_at hl 0 rfl) ?_
  refine lv_iload hx hb dL_law_230 (lv_at hl 4 rfl) ?_
  refine lv_iconst (v := 2) hx hb dL_law_232 (by decide) ?_
  refine lv_iadd hx hb dL_law_233 ?_
  refine tp_i (v := nI (8 * j + 2)) (nI_add (8 * j) 2) ?_
  refine sldn hx hb hX hbl hbA hS (8 * j + 2) rfl (by omega) (by omega) dL_law_234 ?_
  have hFc := va_free (wc := (wC cA A g n hs pe pk fo mo)) (hdC g n hs pe pk fo mo) hS hA [0, 1, 2, 3, 4, 5, 6, 7, 8, 9, 10, 11, 12] rfl
  refine mu_i (va_runV (As := [.int (xs (8 * j + 1)), .int (xs (8 * j + 2))]) (rest := []) ⟨hx, hb, hml, hown, hts⟩ (c_X2_born l dC dI cA H A g n hs pe pk fo mo hPC ((hdC g n hs pe pk fo mo).weaken (fun _ _ _ _ => trivial)) hn (xs (8 * j + 1)) (xs (8 * j + 2))) (cwV 2 hts gL_law_X2_born rfl rfl rfl (by decide +kernel) ⟨Nat.le_of_ble_eq_true rfl, Nat.le_of_ble_eq_true rfl⟩) ⟨rd_bl, va_recv hKc hPC (ci := 3) (q0 := 0) rfl rfl, rd_pre hKc hN⟩ rfl rfl hl.1 rfl (lv_room (Nat.le_of_ble_eq_true rfl)) dL_law_235 ⟨hrc, hrs⟩) hS hFc (fun r1 u1 H1 locs hq1 hB1 hk1 hz1 hS => ?_)
  have hPR : va_P (dC, dI) vwCl (wR cA Z g n th hs pe pk fo mo fE fK) H1 := keptL hPR hk1 hRC
  have hPO : va_P (dC, dI) vwCl (wO cL O f) H1 := keptL hPO hk1 hdis2
  refine lv_aload_n hx hb dL_law_238 rfl (lv_at hl 2 rfl) ?_
  refine lv_aload_n hx hb dL_law_239 rfl (lv_at hl 0 rfl) ?_
  refine lv_iload hx hb dL_law_240 (lv_at hl 4 rfl) ?_
  refine lv_iconst (v := 1) hx hb dL_law_242 (by decide) ?_
  refine lv_iadd hx hb dL_law_243 ?_
  refine tp_i (v := nI (8 * j + 1)) (nI_add (8 * j) 1) ?_
  refine sldn hx hb hX hbl hbA hS (8 * j + 1) rfl (by omega) (by omega) dL_law_244 ?_
  refine lv_aload_n hx hb dL_law_245 rfl (lv_at hl 0 rfl) ?_
  refine lv_iload hx hb dL_law_246 (lv_at hl 4 rfl) ?_
  refine lv_iconst (v := 2) hx hb dL_law_248 (by decide) ?_
  refine lv_iadd hx hb dL_law_249 ?_
  refine tp_i (v := nI (8 * j + 2)) (nI_add (8 * j) 2) ?_
  refine sldn hx hb hX hbl hbA hS (8 * j + 2) rfl (by omega) (by omega) dL_law_250 ?_
  have hFr := va_free (wc := (wR cA Z g n th hs pe pk fo mo fE fK)) (hdR g n th hs pe pk fo mo fE fK) hS hA [0, 1, 2, 3, 4, 5, 6, 7, 8, 9, 10] rfl
  refine mu_i (va_runV (As := [.int (xs (8 * j + 1)), .int (xs (8 * j + 2))]) (rest := [.int r1]) ⟨hx, hb, hml, hown, hts⟩ (c_X3_born l dC dI cA H1 Z g n th hs pe pk fo mo fE fK hPR ((hdR g n th hs pe pk fo mo fE fK).weaken (fun _ _ _ _ => trivial)) hn (xs (8 * j + 1)) (xs (8 * j + 2))) (cwV 2 hts gL_law_X3_born rfl rfl rfl (by decide +kernel) ⟨Nat.le_of_ble_eq_true rfl, Nat.le_of_ble_eq_true rfl⟩) ⟨rd_bl, va_recv hKc hPR (ci := 4) (q0 := 0) rfl rfl, rd_pre hKc hN⟩ rfl rfl hl.1 rfl (lv_room (Nat.le_of_ble_eq_true rfl)) dL_law_251 ⟨hrc, hrs⟩) hS hFr (fun r2 u2 H2 locs hq2 hB2 hk2 hz2 hS => ?_)
  obtain ⟨u2, v2⟩ := u2
  have hPO : va_P (dC, dI) vwCl (wO cL O f) H2 := keptL hPO hk2 hOR
  have hPC : bC dC dI cA A u1 H2 := keptL hB1 hk2 hCR
  obtain ⟨e1, e2⟩ := Prod.mk.inj (hq1.trans hq2.1.symm)
  subst e2
  have hI2 : InvS u1 := by rw [show u1 = (borF _ _ _).2 from congrArg Prod.snd hq1]; exact bor_inv hI _ _
  refine lv_icmp_eq (tgt := 1094) hx hb dL_law_254 (by decide) (fun _ => ?_) (fun h9 => absurd h9 (fun h9 => h9 e1))
  refine W.widen (k := 25 + (j + 1)) (n := 600 + 6 * (j + 1)) (by omega) (by omega) ?_
  exact K u1 v2 f H2 _ ls ⟨hI2, hPC, hB2, hPO, hS⟩ hl

set_option maxHeartbeats 4000000 in
set_option maxRecDepth 100000 in
theorem lw_c3 {p : Program} {l : Launch} {e : Env} {s : State} {m : MethodId} {below : List Frame} {meth : Method} {c : Code} {b L : Nat} {xs : Nat → Int32} {dC : Nat → ClassId} {dI : Nat → Nat → Nat} {cA cL : ClassId} {A Z : Nat → Nat} {O : Nat} (X : LX p l s m meth c b L xs dC dI cA cL A Z O) {j : Nat} (hj : 8 * j + 8 ≤ L) {u : St} {v : Int32 × Int32 × Int32} {f : Nat → Int64} {H : Heap} {locs : List Loc} {ls : Array Slot}
    (I : LI s dC dI cA cL A Z O u v f H locs) (hl : lv_has ls 7 [(0, .ref b), (1, .ref (A 0)), (2, .ref (Z 0)), (3, .ref O), (4, .int (nI (8 * j)))])
    (K : ∀ (u : St) (v : Int32 × Int32 × Int32) (f : Nat → Int64) (H : Heap) (locs : List Loc) (ls : Array Slot), LI s dC dI cA cL A Z O u v f H locs → lv_has ls 7 [(0, .ref b), (1, .ref (A 0)), (2, .ref (Z 0)), (3, .ref O), (4, .int (nI (8 * j)))] → W p l e room_1 s m #[Value.ref b] below meth c H locs (25 + (j + 1)) (600 + 6 * (j + 1)) (lw_Z below #[Value.ref b] s) (F0 m 1094 ls [])) :
    W p l e room_1 s m #[Value.ref b] below meth c H locs (25 + j) (600 + 6 * j) (lw_Z below #[Value.ref b] s) (F0 m 259 ls []) := by
  obtain ⟨C0, hL, hl9, hK, hN, hex, hdC, hdR, hdO, hdis1, hdis2⟩ := X
  obtain ⟨hx, hb, hr, hml, hown, hts, hX, hbl, hlocks, hgv⟩ := C0
  have hts : ∀ w ∈ wsL_law, w.before #[Value.ref b] s = true := fun w h => hts w (wsL_law_in w h)
  have hA : ∀ q : Nat, s.heap.size ≤ q → (fun q : Nat => s.heap.size ≤ q) q := fun _ h => h
  have hbA : ¬ (fun q : Nat => s.heap.size ≤ q) b := Nat.not_le.mpr hbl
  obtain ⟨g, n, hs, pe, pk, fo, mo⟩ := u
  obtain ⟨th, fE, fK⟩ := v
  obtain ⟨hI, hPC, hPR, hPO, hS⟩ := I
  have hg : InvG g := hI.1
  have hn : n ≤ 40 := hI.2.1
  have hpl : ¬ hs = 0 → rg pe (-20000) 20000 ∧ rg pk (-20000) 20000 := fun h9 => (hI.2.2.resolve_left h9).2
  have hPC : va_P (dC, dI) vwCl (wC cA A g n hs pe pk fo mo) H := hPC
  have hPR : va_P (dC, dI) vwCl (wR cA Z g n th hs pe pk fo mo fE fK) H := hPR
  have hKc := hK.sub (tys' := [(cA, .int)]) [0] rfl
  have hRC : ∀ x ∈ (wR cA Z g n th hs pe pk fo mo fE fK).map Prod.fst, x ∉ (wC cA A g n hs pe pk fo mo).map Prod.fst := fun x h9 => (in_app (b := (wO cL O (fun _ => 0)).map Prod.fst) (hdis1 x h9)).1
  have hCR : ∀ x ∈ (wC cA A g n hs pe pk fo mo).map Prod.fst, x ∉ (wR cA Z g n th hs pe pk fo mo fE fK).map Prod.fst := fun x h8 h9 => hRC x h9 h8
  have hOR : ∀ x ∈ (wO cL O f).map Prod.fst, x ∉ (wR cA Z g n th hs pe pk fo mo fE fK).map Prod.fst := fun x h8 h9 => (in_app (a := (wC cA A g0 0 0 0 0 0 0).map Prod.fst) (hdis1 x h9)).2 h8
  have hrc : 25 + j + 0 ≤ room_1.cells := by show 25 + j ≤ 1051; omega
  have hrs : 600 + 6 * j + 0 ≤ room_1.slots := by show 600 + 6 * j ≤ 8804; omega
  refine lv_aload_n hx hb dL_law_259 rfl (lv_at hl 1 rfl) ?_
  refine lv_aload_n hx hb dL_law_260 rfl (lv_at hl 0 rfl) ?_
  refine lv_iload hx hb dL_law_261 (lv_at hl 4 rfl) ?_
  refine lv_iconst (v := 1) hx hb dL_law_263 (by decide) ?_
  refine lv_iadd hx hb dL_law_264 ?_
  refine tp_i (v := nI (8 * j + 1)) (nI_add (8 * j) 1) ?_
  refine sldn hx hb hX hbl hbA hS (8 * j + 1) rfl (by omega) (by omega) dL_law_265 ?_
  refine lv_aload_n hx hb dL_law_266 rfl (lv_at hl 0 rfl) ?_
  refine lv_iload hx hb dL_law_267 (lv_at hl 4 rfl) ?_
  refine lv_iconst (v := 2) hx hb dL_law_269 (by decide) ?_
  refine lv_iadd hx hb dL_law_270 ?_
  refine tp_i (v := nI (8 * j + 2)) (nI_add (8 * j) 2) ?_
  refine sldn hx hb hX hbl hbA hS (8 * j + 2) rfl (by omega) (by omega) dL_law_271 ?_
  have hFc := va_free (wc := (wC cA A g n hs pe pk fo mo)) (hdC g n hs pe pk fo mo) hS hA [0, 1, 2, 3, 4, 5, 6, 7, 8, 9, 10, 11, 12] rfl
  refine mu_i (va_runV (As := [.int (xs (8 * j + 1)), .int (xs (8 * j + 2))]) (rest := []) ⟨hx, hb, hml, hown, hts⟩ (c_X2_creeps l dC dI cA H A g n hs pe pk fo mo hPC ((hdC g n hs pe pk fo mo).weaken (fun _ _ _ _ => trivial))  (xs (8 * j + 1)) (xs (8 * j + 2))) (cwV 2 hts gL_law_X2_creeps rfl rfl rfl (by decide +kernel) ⟨Nat.le_of_ble_eq_true rfl, Nat.le_of_ble_eq_true rfl⟩) ⟨rd_bl, va_recv hKc hPC (ci := 3) (q0 := 0) rfl rfl, rd_pre hKc hN⟩ rfl rfl hl.1 rfl (lv_room (Nat.le_of_ble_eq_true rfl)) dL_law_272 ⟨hrc, hrs⟩) hS hFc (fun r1 u1 H1 locs hq1 hB1 hk1 hz1 hS => ?_)
  have hPR : va_P (dC, dI) vwCl (wR cA Z g n th hs pe pk fo mo fE fK) H1 := keptL hPR hk1 hRC
  have hPO : va_P (dC, dI) vwCl (wO cL O f) H1 := keptL hPO hk1 hdis2
  refine lv_aload_n hx hb dL_law_275 rfl (lv_at hl 2 rfl) ?_
  refine lv_aload_n hx hb dL_law_276 rfl (lv_at hl 0 rfl) ?_
  refine lv_iload hx hb dL_law_277 (lv_at hl 4 rfl) ?_
  refine lv_iconst (v := 1) hx hb dL_law_279 (by decide) ?_
  refine lv_iadd hx hb dL_law_280 ?_
  refine tp_i (v := nI (8 * j + 1)) (nI_add (8 * j) 1) ?_
  refine sldn hx hb hX hbl hbA hS (8 * j + 1) rfl (by omega) (by omega) dL_law_281 ?_
  refine lv_aload_n hx hb dL_law_282 rfl (lv_at hl 0 rfl) ?_
  refine lv_iload hx hb dL_law_283 (lv_at hl 4 rfl) ?_
  refine lv_iconst (v := 2) hx hb dL_law_285 (by decide) ?_
  refine lv_iadd hx hb dL_law_286 ?_
  refine tp_i (v := nI (8 * j + 2)) (nI_add (8 * j) 2) ?_
  refine sldn hx hb hX hbl hbA hS (8 * j + 2) rfl (by omega) (by omega) dL_law_287 ?_
  have hFr := va_free (wc := (wR cA Z g n th hs pe pk fo mo fE fK)) (hdR g n th hs pe pk fo mo fE fK) hS hA [0, 1, 2, 3, 4, 5, 6, 7, 8, 9, 10] rfl
  refine mu_i (va_runV (As := [.int (xs (8 * j + 1)), .int (xs (8 * j + 2))]) (rest := [.int r1]) ⟨hx, hb, hml, hown, hts⟩ (c_X3_creeps l dC dI cA H1 Z g n th hs pe pk fo mo fE fK hPR ((hdR g n th hs pe pk fo mo fE fK).weaken (fun _ _ _ _ => trivial))  (xs (8 * j + 1)) (xs (8 * j + 2))) (cwV 2 hts gL_law_X3_creeps rfl rfl rfl (by decide +kernel) ⟨Nat.le_of_ble_eq_true rfl, Nat.le_of_ble_eq_true rfl⟩) ⟨rd_bl, va_recv hKc hPR (ci := 4) (q0 := 0) rfl rfl, rd_pre hKc hN⟩ rfl rfl hl.1 rfl (lv_room (Nat.le_of_ble_eq_true rfl)) dL_law_288 ⟨hrc, hrs⟩) hS hFr (fun r2 u2 H2 locs hq2 hB2 hk2 hz2 hS => ?_)
  obtain ⟨u2, v2⟩ := u2
  have hPO : va_P (dC, dI) vwCl (wO cL O f) H2 := keptL hPO hk2 hOR
  have hPC : bC dC dI cA A u1 H2 := keptL hB1 hk2 hCR
  obtain ⟨e1, e2⟩ := Prod.mk.inj (hq1.trans hq2.1.symm)
  subst e2
  have hI2 : InvS u1 := by rw [show u1 = (creF _ _ _).2 from congrArg Prod.snd hq1]; exact cre_inv hI _ _
  refine lv_icmp_eq (tgt := 1094) hx hb dL_law_291 (by decide) (fun _ => ?_) (fun h9 => absurd h9 (fun h9 => h9 e1))
  refine W.widen (k := 25 + (j + 1)) (n := 600 + 6 * (j + 1)) (by omega) (by omega) ?_
  exact K u1 v2 f H2 _ ls ⟨hI2, hPC, hB2, hPO, hS⟩ hl

set_option maxHeartbeats 4000000 in
set_option maxRecDepth 100000 in
theorem lw_c4 {p : Program} {l : Launch} {e : Env} {s : State} {m : MethodId} {below : List Frame} {meth : Method} {c : Code} {b L : Nat} {xs : Nat → Int32} {dC : Nat → ClassId} {dI : Nat → Nat → Nat} {cA cL : ClassId} {A Z : Nat → Nat} {O : Nat} (X : LX p l s m meth c b L xs dC dI cA cL A Z O) {j : Nat} (hj : 8 * j + 8 ≤ L) {u : St} {v : Int32 × Int32 × Int32} {f : Nat → Int64} {H : Heap} {locs : List Loc} {ls : Array Slot}
    (I : LI s dC dI cA cL A Z O u v f H locs) (hl : lv_has ls 7 [(0, .ref b), (1, .ref (A 0)), (2, .ref (Z 0)), (3, .ref O), (4, .int (nI (8 * j)))])
    (K : ∀ (u : St) (v : Int32 × Int32 × Int32) (f : Nat → Int64) (H : Heap) (locs : List Loc) (ls : Array Slot), LI s dC dI cA cL A Z O u v f H locs → lv_has ls 7 [(0, .ref b), (1, .ref (A 0)), (2, .ref (Z 0)), (3, .ref O), (4, .int (nI (8 * j)))] → W p l e room_1 s m #[Value.ref b] below meth c H locs (25 + (j + 1)) (600 + 6 * (j + 1)) (lw_Z below #[Value.ref b] s) (F0 m 1094 ls [])) :
    W p l e room_1 s m #[Value.ref b] below meth c H locs (25 + j) (600 + 6 * j) (lw_Z below #[Value.ref b] s) (F0 m 296 ls []) := by
  obtain ⟨C0, hL, hl9, hK, hN, hex, hdC, hdR, hdO, hdis1, hdis2⟩ := X
  obtain ⟨hx, hb, hr, hml, hown, hts, hX, hbl, hlocks, hgv⟩ := C0
  have hts : ∀ w ∈ wsL_law, w.before #[Value.ref b] s = true := fun w h => hts w (wsL_law_in w h)
  have hA : ∀ q : Nat, s.heap.size ≤ q → (fun q : Nat => s.heap.size ≤ q) q := fun _ h => h
  have hbA : ¬ (fun q : Nat => s.heap.size ≤ q) b := Nat.not_le.mpr hbl
  obtain ⟨g, n, hs, pe, pk, fo, mo⟩ := u
  obtain ⟨th, fE, fK⟩ := v
  obtain ⟨hI, hPC, hPR, hPO, hS⟩ := I
  have hg : InvG g := hI.1
  have hn : n ≤ 40 := hI.2.1
  have hpl : ¬ hs = 0 → rg pe (-20000) 20000 ∧ rg pk (-20000) 20000 := fun h9 => (hI.2.2.resolve_left h9).2
  have hPC : va_P (dC, dI) vwCl (wC cA A g n hs pe pk fo mo) H := hPC
  have hPR : va_P (dC, dI) vwCl (wR cA Z g n th hs pe pk fo mo fE fK) H := hPR
  have hKc := hK.sub (tys' := [(cA, .int)]) [0] rfl
  have hRC : ∀ x ∈ (wR cA Z g n th hs pe pk fo mo fE fK).map Prod.fst, x ∉ (wC cA A g n hs pe pk fo mo).map Prod.fst := fun x h9 => (in_app (b := (wO cL O (fun _ => 0)).map Prod.fst) (hdis1 x h9)).1
  have hCR : ∀ x ∈ (wC cA A g n hs pe pk fo mo).map Prod.fst, x ∉ (wR cA Z g n th hs pe pk fo mo fE fK).map Prod.fst := fun x h8 h9 => hRC x h9 h8
  have hOR : ∀ x ∈ (wO cL O f).map Prod.fst, x ∉ (wR cA Z g n th hs pe pk fo mo fE fK).map Prod.fst := fun x h8 h9 => (in_app (a := (wC cA A g0 0 0 0 0 0 0).map Prod.fst) (hdis1 x h9)).2 h8
  have hrc : 25 + j + 0 ≤ room_1.cells := by show 25 + j ≤ 1051; omega
  have hrs : 600 + 6 * j + 0 ≤ room_1.slots := by show 600 + 6 * j ≤ 8804; omega
  refine lv_aload_n hx hb dL_law_296 rfl (lv_at hl 1 rfl) ?_
  refine lv_aload_n hx hb dL_law_297 rfl (lv_at hl 0 rfl) ?_
  refine lv_iload hx hb dL_law_298 (lv_at hl 4 rfl) ?_
  refine lv_iconst (v := 1) hx hb dL_law_300 (by decide) ?_
  refine lv_iadd hx hb dL_law_301 ?_
  refine tp_i (v := nI (8 * j + 1)) (nI_add (8 * j) 1) ?_
  refine sldn hx hb hX hbl hbA hS (8 * j + 1) rfl (by omega) (by omega) dL_law_302 ?_
  refine lv_aload_n hx hb dL_law_303 rfl (lv_at hl 0 rfl) ?_
  refine lv_iload hx hb dL_law_304 (lv_at hl 4 rfl) ?_
  refine lv_iconst (v := 2) hx hb dL_law_306 (by decide) ?_
  refine lv_iadd hx hb dL_law_307 ?_
  refine tp_i (v := nI (8 * j + 2)) (nI_add (8 * j) 2) ?_
  refine sldn hx hb hX hbl hbA hS (8 * j + 2) rfl (by omega) (by omega) dL_law_308 ?_
  have hFc := va_free (wc := (wC cA A g n hs pe pk fo mo)) (hdC g n hs pe pk fo mo) hS hA [0, 1, 2, 3, 4, 5, 6, 7, 8, 9, 10, 11, 12] rfl
  refine mu_i (va_runV (As := [.int (xs (8 * j + 1)), .int (xs (8 * j + 2))]) (rest := []) ⟨hx, hb, hml, hown, hts⟩ (c_X2_shrinks l dC dI cA H A g n hs pe pk fo mo hPC ((hdC g n hs pe pk fo mo).weaken (fun _ _ _ _ => trivial))  (xs (8 * j + 1)) (xs (8 * j + 2))) (cwV 2 hts gL_law_X2_shrinks rfl rfl rfl (by decide +kernel) ⟨Nat.le_of_ble_eq_true rfl, Nat.le_of_ble_eq_true rfl⟩) ⟨rd_bl, va_recv hKc hPC (ci := 3) (q0 := 0) rfl rfl, rd_pre hKc hN⟩ rfl rfl hl.1 rfl (lv_room (Nat.le_of_ble_eq_true rfl)) dL_law_309 ⟨hrc, hrs⟩) hS hFc (fun r1 u1 H1 locs hq1 hB1 hk1 hz1 hS => ?_)
  have hPR : va_P (dC, dI) vwCl (wR cA Z g n th hs pe pk fo mo fE fK) H1 := keptL hPR hk1 hRC
  have hPO : va_P (dC, dI) vwCl (wO cL O f) H1 := keptL hPO hk1 hdis2
  refine lv_aload_n hx hb dL_law_312 rfl (lv_at hl 2 rfl) ?_
  refine lv_aload_n hx hb dL_law_313 rfl (lv_at hl 0 rfl) ?_
  refine lv_iload hx hb dL_law_314 (lv_at hl 4 rfl) ?_
  refine lv_iconst (v := 1) hx hb dL_law_316 (by decide) ?_
  refine lv_iadd hx hb dL_law_317 ?_
  refine tp_i (v := nI (8 * j + 1)) (nI_add (8 * j) 1) ?_
  refine sldn hx hb hX hbl hbA hS (8 * j + 1) rfl (by omega) (by omega) dL_law_318 ?_
  refine lv_aload_n hx hb dL_law_319 rfl (lv_at hl 0 rfl) ?_
  refine lv_iload hx hb dL_law_320 (lv_at hl 4 rfl) ?_
  refine lv_iconst (v := 2) hx hb dL_law_322 (by decide) ?_
  refine lv_iadd hx hb dL_law_323 ?_
  refine tp_i (v := nI (8 * j + 2)) (nI_add (8 * j) 2) ?_
  refine sldn hx hb hX hbl hbA hS (8 * j + 2) rfl (by omega) (by omega) dL_law_324 ?_
  have hFr := va_free (wc := (wR cA Z g n th hs pe pk fo mo fE fK)) (hdR g n th hs pe pk fo mo fE fK) hS hA [0, 1, 2, 3, 4, 5, 6, 7, 8, 9, 10] rfl
  refine mu_i (va_runV (As := [.int (xs (8 * j + 1)), .int (xs (8 * j + 2))]) (rest := [.int r1]) ⟨hx, hb, hml, hown, hts⟩ (c_X3_shrinks l dC dI cA H1 Z g n th hs pe pk fo mo fE fK hPR ((hdR g n th hs pe pk fo mo fE fK).weaken (fun _ _ _ _ => trivial))  (xs (8 * j + 1)) (xs (8 * j + 2))) (cwV 2 hts gL_law_X3_shrinks rfl rfl rfl (by decide +kernel) ⟨Nat.le_of_ble_eq_true rfl, Nat.le_of_ble_eq_true rfl⟩) ⟨rd_bl, va_recv hKc hPR (ci := 4) (q0 := 0) rfl rfl, rd_pre hKc hN⟩ rfl rfl hl.1 rfl (lv_room (Nat.le_of_ble_eq_true rfl)) dL_law_325 ⟨hrc, hrs⟩) hS hFr (fun r2 u2 H2 locs hq2 hB2 hk2 hz2 hS => ?_)
  obtain ⟨u2, v2⟩ := u2
  have hPO : va_P (dC, dI) vwCl (wO cL O f) H2 := keptL hPO hk2 hOR
  have hPC : bC dC dI cA A u1 H2 := keptL hB1 hk2 hCR
  obtain ⟨e1, e2⟩ := Prod.mk.inj (hq1.trans hq2.1.symm)
  subst e2
  have hI2 : InvS u1 := by rw [show u1 = (shrF _ _ _).2 from congrArg Prod.snd hq1]; exact shr_inv hI _ _
  refine lv_icmp_eq (tgt := 1094) hx hb dL_law_328 (by decide) (fun _ => ?_) (fun h9 => absurd h9 (fun h9 => h9 e1))
  refine W.widen (k := 25 + (j + 1)) (n := 600 + 6 * (j + 1)) (by omega) (by omega) ?_
  exact K u1 v2 f H2 _ ls ⟨hI2, hPC, hB2, hPO, hS⟩ hl

set_option maxHeartbeats 4000000 in
set_option maxRecDepth 100000 in
theorem lw_c5 {p : Program} {l : Launch} {e : Env} {s : State} {m : MethodId} {below : List Frame} {meth : Method} {c : Code} {b L : Nat} {xs : Nat → Int32} {dC : Nat → ClassId} {dI : Nat → Nat → Nat} {cA cL : ClassId} {A Z : Nat → Nat} {O : Nat} (X : LX p l s m meth c b L xs dC dI cA cL A Z O) {j : Nat} (hj : 8 * j + 8 ≤ L) {u : St} {v : Int32 × Int32 × Int32} {f : Nat → Int64} {H : Heap} {locs : List Loc} {ls : Array Slot}
    (I : LI s dC dI cA cL A Z O u v f H locs) (hl : lv_has ls 7 [(0, .ref b), (1, .ref (A 0)), (2, .ref (Z 0)), (3, .ref O), (4, .int (nI (8 * j)))])
    (K : ∀ (u : St) (v : Int32 × Int32 × Int32) (f : Nat → Int64) (H : Heap) (locs : List Loc) (ls : Array Slot), LI s dC dI cA cL A Z O u v f H locs → lv_has ls 7 [(0, .ref b), (1, .ref (A 0)), (2, .ref (Z 0)), (3, .ref O), (4, .int (nI (8 * j)))] → W p l e room_1 s m #[Value.ref b] below meth c H locs (25 + (j + 1)) (600 + 6 * (j + 1)) (lw_Z below #[Value.ref b] s) (F0 m 1094 ls [])) :
    W p l e room_1 s m #[Value.ref b] below meth c H locs (25 + j) (600 + 6 * j) (lw_Z below #[Value.ref b] s) (F0 m 333 ls []) := by
  obtain ⟨C0, hL, hl9, hK, hN, hex, hdC, hdR, hdO, hdis1, hdis2⟩ := X
  obtain ⟨hx, hb, hr, hml, hown, hts, hX, hbl, hlocks, hgv⟩ := C0
  have hts : ∀ w ∈ wsL_law, w.before #[Value.ref b] s = true := fun w h => hts w (wsL_law_in w h)
  have hA : ∀ q : Nat, s.heap.size ≤ q → (fun q : Nat => s.heap.size ≤ q) q := fun _ h => h
  have hbA : ¬ (fun q : Nat => s.heap.size ≤ q) b := Nat.not_le.mpr hbl
  obtain ⟨g, n, hs, pe, pk, fo, mo⟩ := u
  obtain ⟨th, fE, fK⟩ := v
  obtain ⟨hI, hPC, hPR, hPO, hS⟩ := I
  have hg : InvG g := hI.1
  have hn : n ≤ 40 := hI.2.1
  have hpl : ¬ hs = 0 → rg pe (-20000) 20000 ∧ rg pk (-20000) 20000 := fun h9 => (hI.2.2.resolve_left h9).2
  have hPC : va_P (dC, dI) vwCl (wC cA A g n hs pe pk fo mo) H := hPC
  have hPR : va_P (dC, dI) vwCl (wR cA Z g n th hs pe pk fo mo fE fK) H := hPR
  have hKc := hK.sub (tys' := [(cA, .int)]) [0] rfl
  have hRC : ∀ x ∈ (wR cA Z g n th hs pe pk fo mo fE fK).map Prod.fst, x ∉ (wC cA A g n hs pe pk fo mo).map Prod.fst := fun x h9 => (in_app (b := (wO cL O (fun _ => 0)).map Prod.fst) (hdis1 x h9)).1
  have hCR : ∀ x ∈ (wC cA A g n hs pe pk fo mo).map Prod.fst, x ∉ (wR cA Z g n th hs pe pk fo mo fE fK).map Prod.fst := fun x h8 h9 => hRC x h9 h8
  have hOR : ∀ x ∈ (wO cL O f).map Prod.fst, x ∉ (wR cA Z g n th hs pe pk fo mo fE fK).map Prod.fst := fun x h8 h9 => (in_app (a := (wC cA A g0 0 0 0 0 0 0).map Prod.fst) (hdis1 x h9)).2 h8
  have hrc : 25 + j + 0 ≤ room_1.cells := by show 25 + j ≤ 1051; omega
  have hrs : 600 + 6 * j + 0 ≤ room_1.slots := by show 600 + 6 * j ≤ 8804; omega
  refine lv_aload_n hx hb dL_law_333 rfl (lv_at hl 1 rfl) ?_
  refine lv_aload_n hx hb dL_law_334 rfl (lv_at hl 0 rfl) ?_
  refine lv_iload hx hb dL_law_335 (lv_at hl 4 rfl) ?_
  refine lv_iconst (v := 1) hx hb dL_law_337 (by decide) ?_
  refine lv_iadd hx hb dL_law_338 ?_
  refine tp_i (v := nI (8 * j + 1)) (nI_add (8 * j) 1) ?_
  refine sldn hx hb hX hbl hbA hS (8 * j + 1) rfl (by omega) (by omega) dL_law_339 ?_
  refine lv_aload_n hx hb dL_law_340 rfl (lv_at hl 0 rfl) ?_
  refine lv_iload hx hb dL_law_341 (lv_at hl 4 rfl) ?_
  refine lv_iconst (v := 2) hx hb dL_law_343 (by decide) ?_
  refine lv_iadd hx hb dL_law_344 ?_
  refine tp_i (v := nI (8 * j + 2)) (nI_add (8 * j) 2) ?_
  refine sldn hx hb hX hbl hbA hS (8 * j + 2) rfl (by omega) (by omega) dL_law_345 ?_
  have hFc := va_free (wc := (wC cA A g n hs pe pk fo mo)) (hdC g n hs pe pk fo mo) hS hA [0, 1, 2, 3, 4, 5, 6, 7, 8, 9, 10, 11, 12] rfl
  refine mu_i (va_runV (As := [.int (xs (8 * j + 1)), .int (xs (8 * j + 2))]) (rest := []) ⟨hx, hb, hml, hown, hts⟩ (c_X2_keeps l dC dI cA H A g n hs pe pk fo mo hPC ((hdC g n hs pe pk fo mo).weaken (fun _ _ _ _ => trivial)) hn (xs (8 * j + 1)) (xs (8 * j + 2))) (cwV 2 hts gL_law_X2_keeps rfl rfl rfl (by decide +kernel) ⟨Nat.le_of_ble_eq_true rfl, Nat.le_of_ble_eq_true rfl⟩) ⟨rd_bl, va_recv hKc hPC (ci := 3) (q0 := 0) rfl rfl, rd_pre hKc hN⟩ rfl rfl hl.1 rfl (lv_room (Nat.le_of_ble_eq_true rfl)) dL_law_346 ⟨hrc, hrs⟩) hS hFc (fun r1 u1 H1 locs hq1 hB1 hk1 hz1 hS => ?_)
  have hPR : va_P (dC, dI) vwCl (wR cA Z g n th hs pe pk fo mo fE fK) H1 := keptL hPR hk1 hRC
  have hPO : va_P (dC, dI) vwCl (wO cL O f) H1 := keptL hPO hk1 hdis2
  refine lv_aload_n hx hb dL_law_349 rfl (lv_at hl 2 rfl) ?_
  refine lv_aload_n hx hb dL_law_350 rfl (lv_at hl 0 rfl) ?_
  refine lv_iload hx hb dL_law_351 (lv_at hl 4 rfl) ?_
  refine lv_iconst (v := 1) hx hb dL_law_353 (by decide) ?_
  refine lv_iadd hx hb dL_law_354 ?_
  refine tp_i (v := nI (8 * j + 1)) (nI_add (8 * j) 1) ?_
  refine sldn hx hb hX hbl hbA hS (8 * j + 1) rfl (by omega) (by omega) dL_law_355 ?_
  refine lv_aload_n hx hb dL_law_356 rfl (lv_at hl 0 rfl) ?_
  refine lv_iload hx hb dL_law_357 (lv_at hl 4 rfl) ?_
  refine lv_iconst (v := 2) hx hb dL_law_359 (by decide) ?_
  refine lv_iadd hx hb dL_law_360 ?_
  refine tp_i (v := nI (8 * j + 2)) (nI_add (8 * j) 2) ?_
  refine sldn hx hb hX hbl hbA hS (8 * j + 2) rfl (by omega) (by omega) dL_law_361 ?_
  have hFr := va_free (wc := (wR cA Z g n th hs pe pk fo mo fE fK)) (hdR g n th hs pe pk fo mo fE fK) hS hA [0, 1, 2, 3, 4, 5, 6, 7, 8, 9, 10] rfl
  refine mu_i (va_runV (As := [.int (xs (8 * j + 1)), .int (xs (8 * j + 2))]) (rest := [.int r1]) ⟨hx, hb, hml, hown, hts⟩ (c_X3_keeps l dC dI cA H1 Z g n th hs pe pk fo mo fE fK hPR ((hdR g n th hs pe pk fo mo fE fK).weaken (fun _ _ _ _ => trivial)) hn (xs (8 * j + 1)) (xs (8 * j + 2))) (cwV 2 hts gL_law_X3_keeps rfl rfl rfl (by decide +kernel) ⟨Nat.le_of_ble_eq_true rfl, Nat.le_of_ble_eq_true rfl⟩) ⟨rd_bl, va_recv hKc hPR (ci := 4) (q0 := 0) rfl rfl, rd_pre hKc hN⟩ rfl rfl hl.1 rfl (lv_room (Nat.le_of_ble_eq_true rfl)) dL_law_362 ⟨hrc, hrs⟩) hS hFr (fun r2 u2 H2 locs hq2 hB2 hk2 hz2 hS => ?_)
  obtain ⟨u2, v2⟩ := u2
  have hPO : va_P (dC, dI) vwCl (wO cL O f) H2 := keptL hPO hk2 hOR
  have hPC : bC dC dI cA A u1 H2 := keptL hB1 hk2 hCR
  obtain ⟨e1, e2⟩ := Prod.mk.inj (hq1.trans hq2.1.symm)
  subst e2
  have hI2 : InvS u1 := by rw [show u1 = (keeF _ _ _).2 from congrArg Prod.snd hq1]; exact kee_inv hI _ _
  refine lv_icmp_eq (tgt := 1094) hx hb dL_law_365 (by decide) (fun _ => ?_) (fun h9 => absurd h9 (fun h9 => h9 e1))
  refine W.widen (k := 25 + (j + 1)) (n := 600 + 6 * (j + 1)) (by omega) (by omega) ?_
  exact K u1 v2 f H2 _ ls ⟨hI2, hPC, hB2, hPO, hS⟩ hl
