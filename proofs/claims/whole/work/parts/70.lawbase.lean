/-! THE LAW: what stands between two turns -/
theorem fib_inv {u : St} (h : InvS u) (a b d : Int32) : InvS (fibF u a b d).2 := by
  unfold fibF
  split
  · rename_i c
    exact ⟨lay_inv h.1 c.2.1.1 c.2.1.2 (rg_in c.2.2.1), (by show u.2.1 + 1 ≤ 40; omega), Or.inl rfl⟩
  · exact h
theorem poi_inv {u : St} (h : InvS u) (a b d : Int32) : InvS (poiF u a b d).2 := by
  by_cases c : poC u.1 a b d
  · have e : (poiF u a b d) = (1, (ptG u.1 a.toNatClampNeg (u.1 7 a.toNatClampNeg).toNatClampNeg b d, u.2.1, 0, u.2.2.2)) := if_pos c
    rw [e]
    obtain ⟨c1, c2, c3, c4, c5⟩ := c
    have hk : a.toNatClampNeg < 4 := by have h9 := rg_lt c1; omega
    obtain ⟨q, hq, hqe⟩ := vp_in_of (h.1.2.2.2.2.2.1 _ hk) (by decide)
    rw [hqe, nI_clamp (n := q) (by omega)] at c4 c5
    rw [hqe, nI_clamp (n := q) (by omega)]
    refine ⟨pt_inv h.1 hk c4 hqe c2.1 c2.2 (fun h0 => ?_), h.2.1, Or.inl rfl⟩
    rcases Int.lt_or_le (u.1 5 (8 * a.toNatClampNeg + q - 1)).toInt b.toInt with h9 | h9
    · exact h9
    · exact absurd ⟨h0, Or.inl (Int32.le_iff_toInt_le.mpr h9)⟩ c5
  · have e : (poiF u a b d) = (0, u) := if_neg c
    rw [e]
    exact h
theorem bor_inv {u : St} (h : InvS u) (a b : Int32) : InvS (borF u a b).2 := by
  unfold borF
  split
  · rename_i c; exact ⟨set3_inv h.1 c.2.1 c.2.2, h.2.1, Or.inl rfl⟩
  · exact h
theorem kee_inv {u : St} (h : InvS u) (a b : Int32) : InvS (keeF u a b).2 := by
  unfold keeF
  split
  · exact ⟨set4_inv h.1, h.2.1, Or.inl rfl⟩
  · exact h
theorem cre_inv {u : St} (h : InvS u) (a b : Int32) : InvS (creF u a b).2 := by
  unfold creF
  split
  · rename_i c; exact ⟨set8_inv h.1 c.2.1 c.2.2, h.2.1, Or.inl rfl⟩
  · exact h
theorem shr_inv {u : St} (h : InvS u) (a b : Int32) : InvS (shrF u a b).2 := by
  unfold shrF
  split
  · rename_i c; exact ⟨set9_inv h.1 c.2.1 c.2.2, h.2.1, Or.inl rfl⟩
  · exact h
theorem run_inv {u : St} (h : InvS u) (a b : Int64) : InvS (runF u a b).2 := by
  unfold runF
  split
  · rename_i c
    have hr := sl_rng c
    exact ⟨h.1, h.2.1, Or.inr ⟨rfl, bl_rng (so_val 32 (-20000) 20000 c), rgI hr.1 hr.2⟩⟩
  · exact h
theorem ned_inv {u : St} (h : InvS u) (a b d : Int32) (x y : Int64) : InvS (nedF u a b d x y).2 := by
  unfold nedF
  split
  · rename_i c
    exact ⟨lay_inv h.1 c.1.1 c.1.2 (rg_in c.2.1), h.2.1, h.2.2⟩
  · exact h
section LWB
variable {p : Program} {l : Launch} {e : Env} {R : Room} {s : State} {m : MethodId} {args : Array Value} {below : List Frame} {meth : Method} {c : Code} {H : Heap} {locs : List Loc} {cells slots : Nat} {Q : State → Prop}
variable {pc : Nat} {ls : Array Slot} {rest : List Value} {cc : ByteArray} {D : va_G} {cl : List vw_C} {A : Nat → Prop} {H0 H1 : Heap}
/-- the script's int at place k -/
theorem sldn (hexec : p.tables.exec = Jvm.exec) (hb : c.code = cc) {b L : Nat} {xs : Nat → Int32} (hX : va_X b L xs s H0) (hbl : b < H0.size) (hbA : ¬ A b) (hS : va_S A H0 H locs) {i : Int32} (k : Nat) (hi : i = nI k) (hk : k < L) (hL : L < 2 ^ 31) (hdg : decode cc pc = .ok (.iaload, 1))
    (kk : W p l e R s m args below meth c H locs cells slots Q (F0 m (pc + 1) ls (.int (xs k) :: rest))) : W p l e R s m args below meth c H locs cells slots Q (F0 m pc ls (.int i :: .ref b :: rest)) := by
  subst hi
  refine va_sld hexec hb hX hbl hbA hS (vp_in_nI hk hL) hdg ?_
  rw [nI_clamp (by omega)]
  exact kk
/-- cells that a call didn't have are as they were -/
theorem keptL {w wc : va_W} (hP : va_P D cl w H) (hk : ∀ q : Nat, q < H.size → ¬ va_A wc H.size q → H1[q]? = H[q]?) (hd : ∀ x ∈ w.map Prod.fst, x ∉ wc.map Prod.fst) : va_P D cl w H1 := by
  refine va_P.kept hP (fun k q hq => hk q.1 (hP k q hq).lt (fun h => ?_))
  rcases h with ⟨k', e', h'⟩ | h'
  · exact hd q.1 (List.mem_map_of_mem (List.mem_of_getElem? hq)) (List.mem_map.mpr ⟨(q.1, e'), List.mem_of_getElem? h', rfl⟩)
  · exact absurd (hP k q hq).lt (Nat.not_lt.mpr h')
end LWB
abbrev wO (cL : ClassId) (O : Nat) (f : Nat → Int64) : va_W := [(O, .inl (cL, 1, .inr (.inl f)))]
/-- what is fixed over the law's turns -/
def LX (p : Program) (l : Launch) (s : State) (m : MethodId) (meth : Method) (c : Code) (b L : Nat) (xs : Nat → Int32) (dC : Nat → ClassId) (dI : Nat → Nat → Nat) (cA cL : ClassId) (A Z : Nat → Nat) (O : Nat) : Prop :=
  lw_At p s m meth c b L xs ∧ L ≤ 4096 ∧ l.stackTraces = false ∧ va_K (dC, dI) vwCl [(cA, .int), (cL, .long)] s ∧ nsU s ∧ exS #[Value.ref b] s ∧
  (∀ (g : Gg) (n : Nat) (hs pe pk : Int32) (fo mo : Int64), va_D (fun q : Nat => s.heap.size ≤ q) (wC cA A g n hs pe pk fo mo)) ∧
  (∀ (g : Gg) (n : Nat) (th hs pe pk : Int32) (fo mo : Int64) (fE fK : Int32), va_D (fun q : Nat => s.heap.size ≤ q) (wR cA Z g n th hs pe pk fo mo fE fK)) ∧
  (∀ (g : Gg) (n : Nat) (hs pe pk : Int32) (fo mo : Int64) (f : Nat → Int64), va_D (fun q : Nat => s.heap.size ≤ q) (wC cA A g n hs pe pk fo mo ++ [(O, .inl (cL, 1, .inr (.inl f)))])) ∧
  (∀ x ∈ (wR cA Z g0 0 0 0 0 0 0 0 0 0).map Prod.fst, x ∉ (wC cA A g0 0 0 0 0 0 0 ++ wO cL O (fun _ => 0)).map Prod.fst) ∧ (∀ x ∈ (wO cL O (fun _ => 0)).map Prod.fst, x ∉ (wC cA A g0 0 0 0 0 0 0).map Prod.fst)
/-- what changes: one state for both -/
def LI (s : State) (dC : Nat → ClassId) (dI : Nat → Nat → Nat) (cA cL : ClassId) (A Z : Nat → Nat) (O : Nat) (u : St) (v : Int32 × Int32 × Int32) (f : Nat → Int64) (H : Heap) (locs : List Loc) : Prop :=
  InvS u ∧ bC dC dI cA A u H ∧ bR dC dI cA Z (u, v) H ∧ va_P (dC, dI) vwCl (wO cL O f) H ∧ va_S (fun q : Nat => s.heap.size ≤ q) s.heap H locs
theorem in_app {α : Type} {x : α} {a b : List α} (h : x ∉ a ++ b) : x ∉ a ∧ x ∉ b := ⟨fun h9 => h (List.mem_append_left _ h9), fun h9 => h (List.mem_append_right _ h9)⟩
