theorem va_disj {A : Nat → Prop} {a b : va_W} (h : va_D A (a ++ b)) : ∀ x ∈ b.map Prod.fst, x ∉ a.map Prod.fst := by
  intro x hx hx'
  obtain ⟨q, hq, rfl⟩ := List.mem_map.mp hx
  obtain ⟨r, hr, e⟩ := List.mem_map.mp hx'
  obtain ⟨i, hi⟩ := List.mem_iff_getElem?.mp hq
  obtain ⟨k, hk⟩ := List.mem_iff_getElem?.mp hr
  have hkl : k < a.length := (List.getElem?_eq_some_iff.mp hk).1
  have h9 := h.1 k (a.length + i) r q (by rw [List.getElem?_append_left hkl]; exact hk) (by rw [List.getElem?_append_right (by omega), Nat.add_sub_cancel_left]; exact hi) e
  omega
theorem ex_start {b : Nat} {s : State} (hts : ∀ w ∈ lw_tbl, w.before #[Value.ref b] s = true) (hgv : (Jvm.Cond.and given_1 narrow_1).before #[Value.ref b] s = true) : exS #[Value.ref b] s := by
  have hq := flat_of_before _ hgv
  refine ⟨fun w hw => ?_, hts _ (by decide +kernel), hts _ (by decide +kernel), hts _ (by decide +kernel), hts _ (by decide +kernel), hts _ (by decide +kernel)⟩
  cases hp : isHp w with
  | false => exact hts w (exA_in w hw hp)
  | true =>
    have h4 := exA_hp w hw hp
    simp only [exH, List.mem_cons, List.not_mem_nil, or_false] at h4
    rcases h4 with rfl | rfl | rfl | rfl
    · exact hq _ (by decide +kernel)
    · exact hq _ (by decide +kernel)
    · exact hts _ (by decide +kernel)
    · exact hts _ (by decide +kernel)

set_option maxHeartbeats 4000000 in
set_option maxRecDepth 100000 in
theorem whole_start {p : Program} {e : Env} {s : State} {m : MethodId} {below : List Frame} {meth : Method} {c : Code} (l : Launch) (hl9 : l.stackTraces = false) {b L : Nat} {xs : Nat → Int32} (hL : L ≤ 4096) (C0 : lw_At p s m meth c b L xs) : W p l e room_1 s m #[Value.ref b] below meth c s.heap [] 0 0 (lw_Z below #[Value.ref b] s) (entryFrame m ([Value.ref b] : List Value).toArray 7) := by
  obtain ⟨hx, hb, hr, hml, hown, hts0, hX, hbl, hlocks, hgv⟩ := id C0
  have hA : ∀ q : Nat, s.heap.size ≤ q → (fun q : Nat => s.heap.size ≤ q) q := fun _ h => h
  have hN : nsU s := nsU_of (fun w h => hts0 w (List.mem_append_right _ h))
  have hex := ex_start hts0 hgv
  obtain ⟨c0, iS0, hKn0⟩ := u_known (C := RJx00060) (T := TJx00060) (N := 6) (n := 6) hts0 inJx00060 (hts0 (.instantiable RJx00060 6) (by decide +kernel))
  obtain ⟨c1, iS1, hKn1⟩ := u_known (C := RX0) (T := TX0) (N := 5) (n := 5) hts0 inX0 (hts0 (.instantiable RX0 5) (by decide +kernel))
  obtain ⟨c2, iS2, hKn2⟩ := u_known (C := RX1) (T := TX1) (N := 7) (n := 7) hts0 inX1 (hts0 (.instantiable RX1 7) (by decide +kernel))
  obtain ⟨c3, iS3, hKn3⟩ := u_known (C := RX2) (T := TX2) (N := 6) (n := 6) hts0 inX2 (hts0 (.instantiable RX2 6) (by decide +kernel))
  obtain ⟨c4, iS4, hKn4⟩ := u_known (C := RX3) (T := TX3) (N := 19) (n := 19) hts0 inX3 (hts0 (.instantiable RX3 19) (by decide +kernel))
  obtain ⟨dC, dI, hKc⟩ : ∃ (dC : Nat → ClassId) (dI : Nat → Nat → Nat), ∀ (k : Nat) (q : vw_C), vwCl[k]? = some q → u_Kn s q.1 q.2.1 q.2.2 (dC k) (dI k) := by
    refine ⟨fun k => if k = 0 then c0 else if k = 1 then c1 else if k = 2 then c2 else if k = 3 then c3 else c4, fun k => if k = 0 then iS0 else if k = 1 then iS1 else if k = 2 then iS2 else if k = 3 then iS3 else iS4, ?_⟩
    intro k q hq
    match k, hq with
    | 0, hq => cases hq; exact hKn0
    | 1, hq => cases hq; exact hKn1
    | 2, hq => cases hq; exact hKn2
    | 3, hq => cases hq; exact hKn3
    | 4, hq => cases hq; exact hKn4
    | k + 5, hq => simp [vwCl] at hq
  obtain ⟨cA, hA1, hA2⟩ := arr_of (hts0 (.arrayClass .int) (by decide +kernel))
  obtain ⟨cL, hL1, hL2⟩ := arr_of (hts0 (.arrayClass .long) (by decide +kernel))
  have hK : va_K (dC, dI) vwCl [(cA, .int), (cL, .long)] s := by
    refine ⟨hKc, fun k q h => ?_⟩
    match k, h with
    | 0, h => cases h; exact ⟨hA1, hA2⟩
    | 1, h => cases h; exact ⟨hL1, hL2⟩
    | k + 2, h => simp at h
  have hKi := hK.sub (tys' := [(cA, .int)]) [0] rfl
  have hts : ∀ w ∈ wsL_law, w.before #[Value.ref b] s = true := fun w h => hts0 w (wsL_law_in w h)
  have hS : va_S (fun q : Nat => s.heap.size ≤ q) s.heap s.heap [] := va_S.rf
  have hP : va_P (dC, dI) vwCl [] s.heap := fun k q h => by simp at h
  have hD : va_D (fun q : Nat => s.heap.size ≤ q) [] := ⟨fun i j p q h => by simp at h, fun k q h => by simp at h⟩
  have hl := lv_entry ([.ref b]) (n := 7) (Nat.le_of_ble_eq_true rfl)
  rw [lg_entry_eq]
  generalize (lg_sl ([.ref b]) ++ List.replicate (7 - (lg_sl ([.ref b])).length) Slot.unset).toArray = ls at hl ⊢
  have hl : lv_has ls 7 [(0, .ref b)] := hl
  refine va_new (ci := 3) (fs := [.null, .int 0, .int 0, .int 0, .long 0, .long 0]) (C := RX2) (T := TX2) (N := 6) hx hb hts inlX2 tyX2 tyX2_ok hown (hts (.classLink RL 8 RX2) (by decide +kernel)) (hts (.instantiable RX2 6) (by decide +kernel)) (hts (.initialized RX2) (by decide +kernel)) hK hP hD hS hA rfl (fun j hj => by rcases (show j = 0 ∨ j = 1 ∨ j = 2 ∨ j = 3 ∨ j = 4 ∨ j = 5 by omega) with rfl | rfl | rfl | rfl | rfl | rfl <;> rfl) (Nat.le_of_ble_eq_true rfl) (Nat.le_of_ble_eq_true rfl) dL_law_0 (fun q0 H hP hD hS => ?_)
  have hP : va_P (dC, dI) vwCl [(q0, .inr (3, [.null, .int 0, .int 0, .int 0, .long 0, .long 0]))] H := hP
  have hD : va_D (fun q : Nat => s.heap.size ≤ q) [(q0, .inr (3, [.null, .int 0, .int 0, .int 0, .long 0, .long 0]))] := hD
  refine W.widen (k := 1) (n := 6) (by omega) (by omega) ?_
  refine lv_dup hx hb dL_law_3 rfl ?_
  have hFc := va_free (wc := [(q0, .inr (3, [.null, .int 0, .int 0, .int 0, .long 0, .long 0]))]) hD hS hA [0] rfl
  refine va_callv (va_runI (As := []) (rest := [.ref q0]) ⟨hx, hb, hml, hown, hts⟩ (c_X2_init l dC dI cA H q0 hP (hD.weaken (fun _ _ _ _ => trivial))) (cwI 0 hts gL_law_X2_init rfl rfl rfl (hts (.initialized RX2) (by decide +kernel)) (hts (.methodLink RL 18 yX2_init) (by decide +kernel)) (hts (.instanceMethod yX2_init) (by decide +kernel)) rfl (by decide +kernel) ⟨Nat.le_of_ble_eq_true rfl, Nat.le_of_ble_eq_true rfl⟩) ⟨rd_bl, rd_pre hKi hN⟩ rfl rfl hl.1 rfl (lv_room (Nat.le_of_ble_eq_true rfl)) dL_law_4 ⟨Nat.le_of_ble_eq_true rfl, Nat.le_of_ble_eq_true rfl⟩) hS (fun q _ h => hFc q h) hFc (fun A t H1 locs ht hvm hw hB hz1 hk1 hS => ?_)
  obtain ⟨hP1, hD1⟩ := hB
  rw [ht] at hP1
  obtain ⟨hP2, hD2⟩ := va_join (wr := []) (w1 := (wC cA A g0 0 0 0 0 0 0)) hP hD [0] [] rfl rfl (by decide) (by decide) hk1 hFc hP1 hD1
  have hP2 : va_P (dC, dI) vwCl (wC cA A g0 0 0 0 0 0 0) H1 := hP2
  have hD2 : va_D (fun q : Nat => s.heap.size ≤ q) (wC cA A g0 0 0 0 0 0 0) := hD2
  have hw : A 0 = q0 := hw
  refine W.widen (k := 13) (n := 299) (by omega) (by omega) ?_
  refine W.eq (g2 := F0 m 7 ls [.ref (A 0)]) (by rw [hw]) ?_
  refine lv_astore_n (lv' := [(1, .ref (A 0)), (0, .ref b)]) hx hb dL_law_7 rfl hl (by decide) rfl (fun ls hl => ?_)
  refine va_new (ci := 4) (fs := [.int 0, .int 0, .null, .null, .null, .null, .null, .null, .null, .null, .null, .null, .int 0, .int 0, .int 0, .long 0, .long 0, .int 0, .int 0]) (C := RX3) (T := TX3) (N := 19) hx hb hts inlX3 tyX3 tyX3_ok hown (hts (.classLink RL 19 RX3) (by decide +kernel)) (hts (.instantiable RX3 19) (by decide +kernel)) (hts (.initialized RX3) (by decide +kernel)) hK hP2 hD2 hS hA rfl (fun j hj => by rcases (show j = 0 ∨ j = 1 ∨ j = 2 ∨ j = 3 ∨ j = 4 ∨ j = 5 ∨ j = 6 ∨ j = 7 ∨ j = 8 ∨ j = 9 ∨ j = 10 ∨ j = 11 ∨ j = 12 ∨ j = 13 ∨ j = 14 ∨ j = 15 ∨ j = 16 ∨ j = 17 ∨ j = 18 by omega) with rfl | rfl | rfl | rfl | rfl | rfl | rfl | rfl | rfl | rfl | rfl | rfl | rfl | rfl | rfl | rfl | rfl | rfl | rfl <;> rfl) (Nat.le_of_ble_eq_true rfl) (Nat.le_of_ble_eq_true rfl) dL_law_8 (fun r0 H3 hP3 hD3 hS => ?_)
  have hP3 : va_P (dC, dI) vwCl ((wC cA A g0 0 0 0 0 0 0) ++ [(r0, .inr (4, [.int 0, .int 0, .null, .null, .null, .null, .null, .null, .null, .null, .null, .null, .int 0, .int 0, .int 0, .long 0, .long 0, .int 0, .int 0]))]) H3 := hP3
  have hD3 : va_D (fun q : Nat => s.heap.size ≤ q) ((wC cA A g0 0 0 0 0 0 0) ++ [(r0, .inr (4, [.int 0, .int 0, .null, .null, .null, .null, .null, .null, .null, .null, .null, .null, .int 0, .int 0, .int 0, .long 0, .long 0, .int 0, .int 0]))]) := hD3
  refine W.widen (k := 14) (n := 318) (by omega) (by omega) ?_
  refine lv_dup hx hb dL_law_11 rfl ?_
  have hPr := hP3.sub (ws' := [(r0, .inr (4, [.int 0, .int 0, .null, .null, .null, .null, .null, .null, .null, .null, .null, .null, .int 0, .int 0, .int 0, .long 0, .long 0, .int 0, .int 0]))]) [13] rfl
  have hDr := hD3.sub (ws' := [(r0, .inr (4, [.int 0, .int 0, .null, .null, .null, .null, .null, .null, .null, .null, .null, .null, .int 0, .int 0, .int 0, .long 0, .long 0, .int 0, .int 0]))]) [13] (by decide) rfl
  have hFr := va_free (wc := [(r0, .inr (4, [.int 0, .int 0, .null, .null, .null, .null, .null, .null, .null, .null, .null, .null, .int 0, .int 0, .int 0, .long 0, .long 0, .int 0, .int 0]))]) hD3 hS hA [13] rfl
  refine va_callv (va_runI (As := []) (rest := [.ref r0]) ⟨hx, hb, hml, hown, hts⟩ (c_X3_init l dC dI cA H3 r0 hPr (hDr.weaken (fun _ _ _ _ => trivial))) (cwI 0 hts gL_law_X3_init rfl rfl rfl (hts (.initialized RX3) (by decide +kernel)) (hts (.methodLink RL 21 yX3_init) (by decide +kernel)) (hts (.instanceMethod yX3_init) (by decide +kernel)) rfl (by decide +kernel) ⟨Nat.le_of_ble_eq_true rfl, Nat.le_of_ble_eq_true rfl⟩) ⟨rd_bl, rd_pre hKi hN⟩ rfl rfl hl.1 rfl (lv_room (Nat.le_of_ble_eq_true rfl)) dL_law_12 ⟨Nat.le_of_ble_eq_true rfl, Nat.le_of_ble_eq_true rfl⟩) hS (fun q _ h => hFr q h) hFr (fun Z t H4 locs ht hvm hw4 hB hz4 hk4 hS => ?_)
  obtain ⟨hP4, hD4⟩ := hB
  rw [ht] at hP4
  obtain ⟨hP5, hD5⟩ := va_join (wr := (wC cA A g0 0 0 0 0 0 0)) (w1 := (wR cA Z g0 0 0 0 0 0 0 0 0 0)) hP3 hD3 [13] [0, 1, 2, 3, 4, 5, 6, 7, 8, 9, 10, 11, 12] rfl rfl (by decide) (by decide) hk4 hFr hP4 hD4
  have hw4 : Z 0 = r0 := hw4
  refine W.widen (k := 24) (n := 599) (by omega) (by omega) ?_
  refine W.eq (g2 := F0 m 15 ls [.ref (Z 0)]) (by rw [hw4]) ?_
  refine lv_astore_n (lv' := [(2, .ref (Z 0)), (1, .ref (A 0)), (0, .ref b)]) hx hb dL_law_15 rfl hl (by decide) rfl (fun ls hl => ?_)
  refine lv_iconst (v := 1) hx hb dL_law_16 (by decide) ?_
  refine va_newa (atype := .long) (ty := .long) hx hb (hts (.arrayClass .long) (by decide +kernel)) rfl hK hP5 hD5 hS hA (a0 := (1, .inr (.inl (fun _ => 0)))) (fun _ => rfl) (by decide) (N' := 1) (by decide) (by decide) (Nat.le_of_ble_eq_true rfl) (Nat.le_of_ble_eq_true rfl) dL_law_17 (fun O cL' H6 hK6 hP6 hD6 hS => ?_)
  have eL : cL' = cL := Option.some.inj ((show s.vm.findClass ("[" ++ FieldType.long.toString) = some cL' from (hK6.2 2 (cL', .long) rfl).2).symm.trans hL2)
  subst eL
  have hP6 : va_P (dC, dI) vwCl (((wC cA A g0 0 0 0 0 0 0) ++ (wR cA Z g0 0 0 0 0 0 0 0 0 0)) ++ wO cL' O (fun _ => 0)) H6 := hP6
  have hD6 : va_D (fun q : Nat => s.heap.size ≤ q) (((wC cA A g0 0 0 0 0 0 0) ++ (wR cA Z g0 0 0 0 0 0 0 0 0 0)) ++ wO cL' O (fun _ => 0)) := hD6
  refine W.widen (k := 25 + 0) (n := 600 + 6 * 0) (by omega) (by omega) ?_
  refine lv_astore_n (lv' := [(3, .ref O), (2, .ref (Z 0)), (1, .ref (A 0)), (0, .ref b)]) hx hb dL_law_19 rfl hl (by decide) rfl (fun ls hl => ?_)
  refine lv_iconst (v := 0) hx hb dL_law_20 (by decide) ?_
  refine tp_i (v := nI (8 * 0)) rfl ?_
  refine lv_istore (lv' := [(4, .int (nI (8 * 0))), (3, .ref O), (2, .ref (Z 0)), (1, .ref (A 0)), (0, .ref b)]) hx hb dL_law_21 hl (by decide) rfl (fun ls hl => ?_)
  have dCC : va_D (fun q : Nat => s.heap.size ≤ q) (wC cA A g0 0 0 0 0 0 0) := hD6.sub [0, 1, 2, 3, 4, 5, 6, 7, 8, 9, 10, 11, 12] (by decide) rfl
  have dRR : va_D (fun q : Nat => s.heap.size ≤ q) (wR cA Z g0 0 0 0 0 0 0 0 0 0) := hD6.sub [13, 14, 15, 16, 17, 18, 19, 20, 21, 22, 23] (by decide) rfl
  have dCO : va_D (fun q : Nat => s.heap.size ≤ q) ((wC cA A g0 0 0 0 0 0 0) ++ wO cL' O (fun _ => 0)) := hD6.sub [0, 1, 2, 3, 4, 5, 6, 7, 8, 9, 10, 11, 12, 24] (by decide) rfl
  have dCOR : va_D (fun q : Nat => s.heap.size ≤ q) (((wC cA A g0 0 0 0 0 0 0) ++ wO cL' O (fun _ => 0)) ++ (wR cA Z g0 0 0 0 0 0 0 0 0 0)) := hD6.sub [0, 1, 2, 3, 4, 5, 6, 7, 8, 9, 10, 11, 12, 24, 13, 14, 15, 16, 17, 18, 19, 20, 21, 22, 23] (by decide) rfl
  have X : LX p l s m meth c b L xs dC dI cA cL' A Z O := ⟨C0, hL, hl9, hK, hN, hex, fun g n hs pe pk fo mo => va_Dsame (by rfl) dCC, fun g n th hs pe pk fo mo fE fK => va_Dsame (by rfl) dRR, fun g n hs pe pk fo mo f => va_Dsame (by rfl) dCO, va_disj dCOR, va_disj dCO⟩
  exact lw_loop X 513 0 (g0, 0, 0, 0, 0, 0, 0) (0, 0, 0) (fun _ => 0) H6 _ ls (by omega) (by omega) ⟨⟨g0_inv, Nat.zero_le _, Or.inl rfl⟩, hP6.sub [0, 1, 2, 3, 4, 5, 6, 7, 8, 9, 10, 11, 12] rfl, hP6.sub [13, 14, 15, 16, 17, 18, 19, 20, 21, 22, 23] rfl, hP6.sub [24] rfl, hS⟩ (lv_sub hl [4, 3, 2, 1, 0] rfl)

