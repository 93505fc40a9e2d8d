theorem tab_one {l : List ExceptionTableEntry} {a b d f : Nat} (h : l.map (fun h => (h.startPc, h.endPc, h.handlerPc, h.catchType)) = [(a, b, d, f)]) : ∃ x : ExceptionTableEntry, l = [x] ∧ x.startPc = a ∧ x.endPc = b ∧ x.handlerPc = d ∧ x.catchType = f := by
  cases l with
  | nil => simp at h
  | cons x r =>
    cases r with
    | nil => simp at h; exact ⟨x, rfl, h.1, h.2.1, h.2.2.1, h.2.2.2⟩
    | cons y z => simp at h

set_option maxRecDepth 20000 in
theorem mcL_row : GoodIn wsL_row (wsV RL 7 RX2 yX2_row wsX2_row) := gL_row_X2_row
set_option maxHeartbeats 4000000 in
set_option maxRecDepth 100000 in
theorem c_L_row (l : Launch) (dC : Nat → ClassId) (dI : Nat → Nat → Nat) (cA cL : ClassId) (H : Heap) (A : Nat → Nat) (g : Gg) (n : Nat) (hs pe pk : Int32) (fo mo : Int64) (O : Nat) (f : Nat → Int64) (hP : va_P (dC, dI) vwCl (wC cA A g n hs pe pk fo mo ++ [(O, .inl (cL, 1, .inr (.inl f)))]) H) (hD : va_D (fun _ => True) (wC cA A g n hs pe pk fo mo ++ [(O, .inl (cL, 1, .inr (.inl f)))])) (hl9 : l.stackTraces = false) (s0 : State) (a0 : Array Value) (hex : exS a0 s0) (hh0 : ∀ q : Nat, q < s0.heap.size → H[q]? = s0.heap[q]?) (hg : InvG g) (a b : Int32) : Met l yL_row wsL_row ({ frames := 8, cells := 1, slots := 6, locals := 117 }) (exP [.ref (A 0), .int a, .int b, .ref O] H (dC, dI) vwCl [(cA, .int), (cL, .long)] s0) (va_Qi (fun (r : Int32) (u : Nat → Int64) => (rg a 0 3 ∧ r = 0 ∧ u 0 = (rwF g a b).toInt64) ∨ (¬ rg a 0 3 ∧ r = 1)) (fun u t => va_P (dC, dI) vwCl (wC cA A g n hs pe pk fo mo ++ [(O, .inl (cL, 1, .inr (.inl u)))]) t.heap) (va_A (wC cA A g n hs pe pk fo mo ++ [(O, .inl (cL, 1, .inr (.inl f)))]) H.size)) 1 6 (va_A (wC cA A g n hs pe pk fo mo ++ [(O, .inl (cL, 1, .inr (.inl f)))]) H.size) := by
  refine va_MetW (cc := cL_row) (maxL := 5) (ret := (some .int)) (hh := [(0, 10, 13, 13)]) (by decide) rfl ?_
  intro p e s m args below meth c s₁ B hml hv
  obtain ⟨rfl, hH, hK, hN, hW0⟩ := hv
  subst hH
  have hx := B.exec
  have hb := B.bytes
  have hr := B.returns
  have hts := atoms_spec (ws := wsL_row) B.pre
  have hown : s.vm.findClass RL = some m.cls := findClass_of_methodNamed B.named
  have hlocks := B.notSynchronized
  have hD := hD.self (sz := s.heap.size)
  generalize hAe : va_A (wC cA A g n hs pe pk fo mo ++ [(O, .inl (cL, 1, .inr (.inl f)))]) s.heap.size = Av at hD ⊢
  have hA : ∀ q : Nat, s.heap.size ≤ q → Av q := fun q h => by rw [← hAe]; exact Or.inr h
  have hS : va_S Av s.heap s.heap [] := va_S.rf
  have hl := lv_entry ([.ref (A 0), .int a, .int b, .ref O]) (n := 5) (Nat.le_of_ble_eq_true rfl)
  rw [lg_entry_eq]
  generalize (lg_sl ([.ref (A 0), .int a, .int b, .ref O]) ++ List.replicate (5 - (lg_sl ([.ref (A 0), .int a, .int b, .ref O])).length) Slot.unset).toArray = ls at hl ⊢
  have hl : lv_has ls 5 [(0, .ref (A 0)), (1, .int a), (2, .int b), (3, .ref O)] := hl
  refine lv_aload_n hx hb dL_row_0 rfl (lv_at hl 3 rfl) ?_
  refine lv_iconst (v := 0) hx hb dL_row_1 (by decide) ?_
  refine lv_aload_n hx hb dL_row_2 rfl (lv_at hl 0 rfl) ?_
  refine lv_iload_n hx hb dL_row_3 rfl (lv_at hl 1 rfl) ?_
  refine lv_iload_n hx hb dL_row_4 rfl (lv_at hl 2 rfl) ?_
  have hPc := hP.sub (ws' := wC cA A g n hs pe pk fo mo) [0, 1, 2, 3, 4, 5, 6, 7, 8, 9, 10, 11, 12] rfl
  have hKc := hK.sub (tys' := [(cA, .int)]) [0] rfl
  by_cases hrg : rg a 0 3
  · refine rd_i (va_runV (As := [.int a, .int b]) (rest := [.int 0, .ref O]) ⟨hx, hb, hml, hown, hts⟩ (c_X2_row l dC dI cA s.heap A g n hs pe pk fo mo hPc hg a b hrg) (cwV 2 hts mcL_row rfl rfl rfl (by decide +kernel) ⟨Nat.le_of_ble_eq_true rfl, Nat.le_of_ble_eq_true rfl⟩) ⟨rd_bl, va_recv hK hP (ci := 3) (q0 := 0) rfl rfl, rd_pre hKc hN⟩ rfl rfl hl.1 rfl (lv_room (Nat.le_of_ble_eq_true rfl)) dL_row_5 ⟨Nat.zero_le _, Nat.zero_le _⟩) hS (fun r1 locs hq1 hS => ?_)
    have hq1 : r1 = rwF g a b := hq1
    subst hq1
    refine lv_i2l hx hb dL_row_8 rfl ?_
    refine va_last hx hb hK hP hD hS 13 1 rfl rfl (vp_in_iff.mpr (by decide)) dL_row_9 (fun H locs hP hD hS => ?_)
    have hP : va_P (dC, dI) vwCl (wC cA A g n hs pe pk fo mo ++ [(O, .inl (cL, 1, .inr (.inl (vp_updL f 0 (rwF g a b).toInt64))))]) H := hP
    refine lv_goto (tgt := 17) hx hb dL_row_10 (by decide) ?_
    refine lv_iconst (v := 0) hx hb dL_row_17 (by decide) ?_
    refine W.widen (k := 1) (n := 6) (by omega) (by omega) ?_
    exact W.iret (v := 0) hx hb hr (fun t9 ht9 hW9 => ⟨⟨_, vp_updL f 0 (rwF g a b).toInt64, rfl, Or.inl ⟨hrg, rfl, rfl⟩, by dsimp only; rw [ht9]; exact hP⟩, hS.F ht9⟩) hS.2.2 dL_row_18
  · obtain ⟨m9, meth9, c9, hn9, hm9, hc9, -, -, ht9, -⟩ := Cond.codeWith_spec (hts _ (List.mem_cons_self (a := Cond.codeWith yL_row cL_row 5 (some .int) [(0, 10, 13, 13)])))
    cases hn9.symm.trans B.named
    cases hm9.symm.trans B.method
    cases hc9.symm.trans (Stand.of_body B).code
    obtain ⟨x, hx1, hx2, hx3, hx4, hx5⟩ := tab_one ht9
    have hcv : covers x 5 = true := by simp [covers, hx2, hx3]
    have hlk : (Cond.classLink RL x.catchType RJx00060).before ([.ref (A 0), .int a, .int b, .ref O]).toArray s = true := by rw [hx5]; exact word_at hW0 (Or.inl rfl) hex.2.2.2.2.2
    refine ex_callV (As := [.int a, .int b]) (rest := [.int 0, .ref O]) (n := 2) ⟨hx, hb, hml, hown, hts⟩ (x_X2_row l dC dI cA s.heap A g n hs pe pk fo mo hPc hl9 s0 a0 hex hh0 a b hrg) mcL_row rfl (by decide +kernel) rfl rfl (Nat.le_of_ble_eq_true rfl) (Nat.le_of_ble_eq_true rfl) (va_recv hK hP (ci := 3) (q0 := 0) rfl rfl)
      (fun U g9 mk hU hW => ⟨rfl, hU, va_K.moved (u := U) (U := U.calling g9 mk _) (Vm.Alike.refl U.vm) (va_K.moved hW.alike hKc), nsU_same (s := U) (U := U.calling g9 mk _) rfl (nsU_warm hW hN), State.WarmedH.trans hW0 hW⟩) rfl hl.1 rfl (Nat.le_of_ble_eq_true rfl) dL_row_5 (by decide) (by decide) hx1 hcv (by rw [hx5]; decide) hlk (exA_at hex hW0 hh0 _ (by decide +kernel)) (fun q H1 hsz hkeep => ?_)
    rw [hx4]
    have hP1 : va_P (dC, dI) vwCl (wC cA A g n hs pe pk fo mo ++ [(O, .inl (cL, 1, .inr (.inl f)))]) H1 := va_P.kept hP (fun k q hk => hkeep q.1 (hP k q hk).lt)
    have hS1 : va_S Av s.heap H1 [] := ⟨Nat.le_trans hS.1 hsz, fun q hq _ => hkeep q hq, hS.2.2⟩
    refine lv_astore (lv' := [(4, .ref q), (0, .ref (A 0)), (1, .int a), (2, .int b), (3, .ref O)]) hx hb dL_row_13 hl (by decide) rfl (fun ls hl => ?_)
    refine lv_iconst (v := 1) hx hb dL_row_15 (by decide) ?_
    exact W.iret (v := 1) hx hb hr (fun t9 ht9 hW9 => ⟨⟨_, f, rfl, Or.inr ⟨hrg, rfl⟩, by dsimp only; rw [ht9]; exact hP1⟩, hS1.F ht9⟩) hS1.2.2 dL_row_16

set_option maxRecDepth 20000 in
theorem mcL_in : GoodIn wsL_in (wsV RL 15 RX2 yX2_in wsX2_in) := gL_in_X2_in
set_option maxHeartbeats 4000000 in
set_option maxRecDepth 100000 in
theorem c_L_in (l : Launch) (dC : Nat → ClassId) (dI : Nat → Nat → Nat) (cA cL : ClassId) (H : Heap) (A : Nat → Nat) (g : Gg) (n : Nat) (hs pe pk : Int32) (fo mo : Int64) (O : Nat) (f : Nat → Int64) (hP : va_P (dC, dI) vwCl (wC cA A g n hs pe pk fo mo ++ [(O, .inl (cL, 1, .inr (.inl f)))]) H) (hD : va_D (fun _ => True) (wC cA A g n hs pe pk fo mo ++ [(O, .inl (cL, 1, .inr (.inl f)))])) (hl9 : l.stackTraces = false) (s0 : State) (a0 : Array Value) (hex : exS a0 s0) (hh0 : ∀ q : Nat, q < s0.heap.size → H[q]? = s0.heap[q]?) (hg : InvG g) (hn : n ≤ 40) (a b : Int32) : Met l yL_in wsL_in ({ frames := 8, cells := 1, slots := 6, locals := 117 }) (exP [.ref (A 0), .int a, .int b, .ref O] H (dC, dI) vwCl [(cA, .int), (cL, .long)] s0) (va_Qi (fun (r : Int32) (u : Nat → Int64) => (rg a 0 ((n : Int) - 1) ∧ r = 0 ∧ u 0 = (inF g hs pe pk a b).toInt64) ∨ (¬ rg a 0 ((n : Int) - 1) ∧ r = 1)) (fun u t => va_P (dC, dI) vwCl (wC cA A g n hs pe pk fo mo ++ [(O, .inl (cL, 1, .inr (.inl u)))]) t.heap) (va_A (wC cA A g n hs pe pk fo mo ++ [(O, .inl (cL, 1, .inr (.inl f)))]) H.size)) 1 6 (va_A (wC cA A g n hs pe pk fo mo ++ [(O, .inl (cL, 1, .inr (.inl f)))]) H.size) := by
  refine va_MetW (cc := cL_in) (maxL := 5) (ret := (some .int)) (hh := [(0, 10, 13, 13)]) (by decide) rfl ?_
  intro p e s m args below meth c s₁ B hml hv
  obtain ⟨rfl, hH, hK, hN, hW0⟩ := hv
  subst hH
  have hx := B.exec
  have hb := B.bytes
  have hr := B.returns
  have hts := atoms_spec (ws := wsL_in) B.pre
  have hown : s.vm.findClass RL = some m.cls := findClass_of_methodNamed B.named
  have hlocks := B.notSynchronized
  have hD := hD.self (sz := s.heap.size)
  generalize hAe : va_A (wC cA A g n hs pe pk fo mo ++ [(O, .inl (cL, 1, .inr (.inl f)))]) s.heap.size = Av at hD ⊢
  have hA : ∀ q : Nat, s.heap.size ≤ q → Av q := fun q h => by rw [← hAe]; exact Or.inr h
  have hS : va_S Av s.heap s.heap [] := va_S.rf
  have hl := lv_entry ([.ref (A 0), .int a, .int b, .ref O]) (n := 5) (Nat.le_of_ble_eq_true rfl)
  rw [lg_entry_eq]
  generalize (lg_sl ([.ref (A 0), .int a, .int b, .ref O]) ++ List.replicate (5 - (lg_sl ([.ref (A 0), .int a, .int b, .ref O])).length) Slot.unset).toArray = ls at hl ⊢
  have hl : lv_has ls 5 [(0, .ref (A 0)), (1, .int a), (2, .int b), (3, .ref O)] := hl
  refine lv_aload_n hx hb dL_in_0 rfl (lv_at hl 3 rfl) ?_
  refine lv_iconst (v := 0) hx hb dL_in_1 (by decide) ?_
  refine lv_aload_n hx hb dL_in_2 rfl (lv_at hl 0 rfl) ?_
  refine lv_iload_n hx hb dL_in_3 rfl (lv_at hl 1 rfl) ?_
  refine lv_iload_n hx hb dL_in_4 rfl (lv_at hl 2 rfl) ?_
  have hPc := hP.sub (ws' := wC cA A g n hs pe pk fo mo) [0, 1, 2, 3, 4, 5, 6, 7, 8, 9, 10, 11, 12] rfl
  have hKc := hK.sub (tys' := [(cA, .int)]) [0] rfl
  by_cases hrg : rg a 0 ((n : Int) - 1)
  · refine rd_i (va_runV (As := [.int a, .int b]) (rest := [.int 0, .ref O]) ⟨hx, hb, hml, hown, hts⟩ (c_X2_in l dC dI cA s.heap A g n hs pe pk fo mo hPc hg hn a b hrg) (cwV 2 hts mcL_in rfl rfl rfl (by decide +kernel) ⟨Nat.le_of_ble_eq_true rfl, Nat.le_of_ble_eq_true rfl⟩) ⟨rd_bl, va_recv hK hP (ci := 3) (q0 := 0) rfl rfl, rd_pre hKc hN⟩ rfl rfl hl.1 rfl (lv_room (Nat.le_of_ble_eq_true rfl)) dL_in_5 ⟨Nat.zero_le _, Nat.zero_le _⟩) hS (fun r1 locs hq1 hS => ?_)
    have hq1 : r1 = inF g hs pe pk a b := hq1
    subst hq1
    refine lv_i2l hx hb dL_in_8 rfl ?_
    refine va_last hx hb hK hP hD hS 13 1 rfl rfl (vp_in_iff.mpr (by decide)) dL_in_9 (fun H locs hP hD hS => ?_)
    have hP : va_P (dC, dI) vwCl (wC cA A g n hs pe pk fo mo ++ [(O, .inl (cL, 1, .inr (.inl (vp_updL f 0 (inF g hs pe pk a b).toInt64))))]) H := hP
    refine lv_goto (tgt := 17) hx hb dL_in_10 (by decide) ?_
    refine lv_iconst (v := 0) hx hb dL_in_17 (by decide) ?_
    refine W.widen (k := 1) (n := 6) (by omega) (by omega) ?_
    exact W.iret (v := 0) hx hb hr (fun t9 ht9 hW9 => ⟨⟨_, vp_updL f 0 (inF g hs pe pk a b).toInt64, rfl, Or.inl ⟨hrg, rfl, rfl⟩, by dsimp only; rw [ht9]; exact hP⟩, hS.F ht9⟩) hS.2.2 dL_in_18
  · obtain ⟨m9, meth9, c9, hn9, hm9, hc9, -, -, ht9, -⟩ := Cond.codeWith_spec (hts _ (List.mem_cons_self (a := Cond.codeWith yL_in cL_in 5 (some .int) [(0, 10, 13, 13)])))
    cases hn9.symm.trans B.named
    cases hm9.symm.trans B.method
    cases hc9.symm.trans (Stand.of_body B).code
    obtain ⟨x, hx1, hx2, hx3, hx4, hx5⟩ := tab_one ht9
    have hcv : covers x 5 = true := by simp [covers, hx2, hx3]
    have hlk : (Cond.classLink RL x.catchType RJx00060).before ([.ref (A 0), .int a, .int b, .ref O]).toArray s = true := by rw [hx5]; exact word_at hW0 (Or.inl rfl) hex.2.2.2.2.2
    refine ex_callV (As := [.int a, .int b]) (rest := [.int 0, .ref O]) (n := 2) ⟨hx, hb, hml, hown, hts⟩ (x_X2_in l dC dI cA s.heap A g n hs pe pk fo mo hPc hl9 s0 a0 hex hh0 hn a b hrg) mcL_in rfl (by decide +kernel) rfl rfl (Nat.le_of_ble_eq_true rfl) (Nat.le_of_ble_eq_true rfl) (va_recv hK hP (ci := 3) (q0 := 0) rfl rfl)
      (fun U g9 mk hU hW => ⟨rfl, hU, va_K.moved (u := U) (U := U.calling g9 mk _) (Vm.Alike.refl U.vm) (va_K.moved hW.alike hKc), nsU_same (s := U) (U := U.calling g9 mk _) rfl (nsU_warm hW hN), State.WarmedH.trans hW0 hW⟩) rfl hl.1 rfl (Nat.le_of_ble_eq_true rfl) dL_in_5 (by decide) (by decide) hx1 hcv (by rw [hx5]; decide) hlk (exA_at hex hW0 hh0 _ (by decide +kernel)) (fun q H1 hsz hkeep => ?_)
    rw [hx4]
    have hP1 : va_P (dC, dI) vwCl (wC cA A g n hs pe pk fo mo ++ [(O, .inl (cL, 1, .inr (.inl f)))]) H1 := va_P.kept hP (fun k q hk => hkeep q.1 (hP k q hk).lt)
    have hS1 : va_S Av s.heap H1 [] := ⟨Nat.le_trans hS.1 hsz, fun q hq _ => hkeep q hq, hS.2.2⟩
    refine lv_astore (lv' := [(4, .ref q), (0, .ref (A 0)), (1, .int a), (2, .int b), (3, .ref O)]) hx hb dL_in_13 hl (by decide) rfl (fun ls hl => ?_)
    refine lv_iconst (v := 1) hx hb dL_in_15 (by decide) ?_
    exact W.iret (v := 1) hx hb hr (fun t9 ht9 hW9 => ⟨⟨_, f, rfl, Or.inr ⟨hrg, rfl⟩, by dsimp only; rw [ht9]; exact hP1⟩, hS1.F ht9⟩) hS1.2.2 dL_in_16
