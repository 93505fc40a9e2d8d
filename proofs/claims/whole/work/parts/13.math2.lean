/-! the public steps, case by case -/
theorem rg_nI {v : Int32} {b : Int} (h : rg v 0 b) : v = nI v.toNatClampNeg := by
  have h1 := h.1
  obtain ⟨j, hj, e⟩ := nI_of (x := v) (by rw [Int32.lt_iff_toInt_lt, show (0 : Int32).toInt = 0 by decide]; omega)
  rw [e, nI_clamp hj]
theorem rg_lt {v : Int32} {b : Int} (h : rg v 0 b) : (v.toNatClampNeg : Int) ≤ b := by
  have h1 := h.1
  have h2 := h.2
  have h3 : v.toInt.toNat = v.toNatClampNeg := rfl
  omega
theorem rg_in {v : Int32} {b : Nat} (h : rg v 0 b) : vp_in v (b + 1) := by
  have h1 := h.1
  have h2 := h.2
  exact vp_in_iff.mpr ⟨h1, by omega⟩
section STP
variable {g : Gg} {n : Nat} {hs pe pk : Int32} {fo mo : Int64}
theorem fib_t {a b d : Int32} (h : rg a 0 100000 ∧ rg b (-2000) 2000 ∧ rg d 0 3 ∧ n < 40) : fibF (g, n, hs, pe, pk, fo, mo) a b d = (nI n, (layG g n a b d, n + 1, 0, pe, pk, fo, mo)) := if_pos h
theorem fib_f {a b d : Int32} (h : ¬ (rg a 0 100000 ∧ rg b (-2000) 2000 ∧ rg d 0 3 ∧ n < 40)) : fibF (g, n, hs, pe, pk, fo, mo) a b d = (-1, (g, n, hs, pe, pk, fo, mo)) := if_neg h
theorem poi_t {a b d : Int32} (h : poC g a b d) : poiF (g, n, hs, pe, pk, fo, mo) a b d = (1, (ptG g a.toNatClampNeg (g 7 a.toNatClampNeg).toNatClampNeg b d, n, 0, pe, pk, fo, mo)) := if_pos h
theorem poi_f {a b d : Int32} (h : ¬ poC g a b d) : poiF (g, n, hs, pe, pk, fo, mo) a b d = (0, (g, n, hs, pe, pk, fo, mo)) := if_neg h
theorem bor_t {a b : Int32} (h : rg a 0 (n - 1) ∧ rg b (-30000) 30000) : borF (g, n, hs, pe, pk, fo, mo) a b = (1, (setG g 3 a.toNatClampNeg b, n, 0, pe, pk, fo, mo)) := if_pos h
theorem bor_f {a b : Int32} (h : ¬ (rg a 0 (n - 1) ∧ rg b (-30000) 30000)) : borF (g, n, hs, pe, pk, fo, mo) a b = (0, (g, n, hs, pe, pk, fo, mo)) := if_neg h
theorem kee_t {a b : Int32} (h : rg a 0 (n - 1) ∧ rg b 0 100) : keeF (g, n, hs, pe, pk, fo, mo) a b = (1, (setG g 4 a.toNatClampNeg b, n, 0, pe, pk, fo, mo)) := if_pos h
theorem kee_f {a b : Int32} (h : ¬ (rg a 0 (n - 1) ∧ rg b 0 100)) : keeF (g, n, hs, pe, pk, fo, mo) a b = (0, (g, n, hs, pe, pk, fo, mo)) := if_neg h
theorem cre_t {a b : Int32} (h : rg a 0 3 ∧ rg b 0 500) : creF (g, n, hs, pe, pk, fo, mo) a b = (1, (setG g 8 a.toNatClampNeg b, n, 0, pe, pk, fo, mo)) := if_pos h
theorem cre_f {a b : Int32} (h : ¬ (rg a 0 3 ∧ rg b 0 500)) : creF (g, n, hs, pe, pk, fo, mo) a b = (0, (g, n, hs, pe, pk, fo, mo)) := if_neg h
theorem shr_t {a b : Int32} (h : rg a 0 3 ∧ rg b (-5000) 5000) : shrF (g, n, hs, pe, pk, fo, mo) a b = (1, (setG g 9 a.toNatClampNeg b, n, 0, pe, pk, fo, mo)) := if_pos h
theorem shr_f {a b : Int32} (h : ¬ (rg a 0 3 ∧ rg b (-5000) 5000)) : shrF (g, n, hs, pe, pk, fo, mo) a b = (0, (g, n, hs, pe, pk, fo, mo)) := if_neg h
theorem run_t {a b : Int64} (h : (slF g n a b).1 = 0) : runF (g, n, hs, pe, pk, fo, mo) a b = (0, (g, n, 1, blF g n a (iI (slF g n a b).2), iI (slF g n a b).2, a, b)) := if_pos h
theorem run_f {a b : Int64} (h : ¬ (slF g n a b).1 = 0) : runF (g, n, hs, pe, pk, fo, mo) a b = ((slF g n a b).1, (g, n, hs, pe, pk, fo, mo)) := if_neg h
theorem ned_t {a b d : Int32} {x y : Int64} (h : rg a (-2000) 2000 ∧ rg b 0 3 ∧ rg d 1 5000) : nedF (g, n, hs, pe, pk, fo, mo) a b d x y = ((neF g n a b d x y 21 0 0).1, (layG g n (neF g n a b d x y 21 0 0).2 a b, n, hs, pe, pk, fo, mo)) := if_pos h
theorem ned_f {a b d : Int32} {x y : Int64} (h : ¬ (rg a (-2000) 2000 ∧ rg b 0 3 ∧ rg d 1 5000)) : nedF (g, n, hs, pe, pk, fo, mo) a b d x y = (-1, (g, n, hs, pe, pk, fo, mo)) := if_neg h
end STP
theorem so_code {g : Gg} {n : Nat} {fo mo : Int64} : ∀ (m : Nat) (lo hi : Int), (soF g n fo mo m lo hi).1 = 0 ∨ (soF g n fo mo m lo hi).1 = 1 ∨ (soF g n fo mo m lo hi).1 = 2 := by
  have hE : ∀ lo : Int, (soE g n fo mo lo).1 = 0 ∨ (soE g n fo mo lo).1 = 1 ∨ (soE g n fo mo lo).1 = 2 := by
    intro lo
    unfold soE
    split
    · exact Or.inr (Or.inl rfl)
    · split
      · exact Or.inr (Or.inr rfl)
      · exact Or.inl rfl
  intro m
  induction m with
  | zero => intro lo hi; exact hE lo
  | succ m ih =>
    intro lo hi
    unfold soF
    split
    · split
      · exact Or.inr (Or.inl rfl)
      · split
        · exact ih _ _
        · exact ih _ _
    · exact hE lo
theorem sl_cases {g : Gg} {n : Nat} {fo mo : Int64} : ((slF g n fo mo).1 = 1 ∧ enF (slF g n fo mo) = 1000001) ∨ ((slF g n fo mo).1 = 2 ∧ enF (slF g n fo mo) = 1000002) ∨
    ((slF g n fo mo).1 = 0 ∧ enF (slF g n fo mo) = iI (slF g n fo mo).2 ∧ rg (iI (slF g n fo mo).2) (-20000) 20000) := by
  rcases so_code (g := g) (n := n) (fo := fo) (mo := mo) 32 (-20000) 20000 with h | h | h
  · have hr := sl_rng (g := g) (n := n) (fo := fo) (mo := mo) h
    refine Or.inr (Or.inr ⟨h, ?_, rgI hr.1 hr.2⟩)
    have h' : (slF g n fo mo).1 = 0 := h
    unfold enF
    rw [h']
    rfl
  · have h' : (slF g n fo mo).1 = 1 := h
    exact Or.inl ⟨h', by unfold enF; rw [h']; rfl⟩
  · have h' : (slF g n fo mo).1 = 2 := h
    exact Or.inr (Or.inl ⟨h', by unfold enF; rw [h']; rfl⟩)
theorem rg_big {v : Int32} (h : rg v (-20000) 20000) : ¬ v = 1000001 ∧ ¬ v = 1000002 := by
  have h1 := h.1
  have h2 := h.2
  refine ⟨fun e => ?_, fun e => ?_⟩
  · rw [e, show (1000001 : Int32).toInt = 1000001 by decide] at h2; omega
  · rw [e, show (1000002 : Int32).toInt = 1000002 by decide] at h2; omega
theorem en_rg {g : Gg} {n : Nat} {fo mo : Int64} : rg (enF (slF g n fo mo)) (-20000) 20000 ↔ (slF g n fo mo).1 = 0 := by
  rcases sl_cases (g := g) (n := n) (fo := fo) (mo := mo) with ⟨h1, h2⟩ | ⟨h1, h2⟩ | ⟨h1, h2, h3⟩
  · rw [h1]; exact ⟨fun h => absurd h2 (rg_big h).1, fun h => absurd h (by decide)⟩
  · rw [h1]; exact ⟨fun h => absurd h2 (rg_big h).2, fun h => absurd h (by decide)⟩
  · rw [h2]; exact ⟨fun _ => h1, fun _ => h3⟩
theorem upd2 (f : Nat → Int32) (k : Nat) (x y : Int32) : upd (upd f k x) k y = upd f k y := by
  funext j
  unfold upd
  split <;> rfl
theorem lay_set (g : Gg) (n : Nat) (a a2 b d : Int32) : setG (layG g n a b d) 0 n a2 = layG g n a2 b d := by
  funext j
  by_cases h : j = 0
  · subst h; exact upd2 (g 0) n a a2
  · unfold layG setG
    simp [h]
theorem lay_lay (g : Gg) (n : Nat) (a a2 b d : Int32) : layG (layG g n a b d) n a2 b d = layG g n a2 b d := by
  funext j
  match j with
  | 0 => exact upd2 (g 0) n a a2
  | 1 => exact upd2 (g 1) n b b
  | 2 => exact upd2 (g 2) n d d
  | 3 => exact upd2 (g 3) n 0 0
  | 4 => exact upd2 (g 4) n 100 100
  | k + 5 => unfold layG setG; simp
theorem ne_t {g : Gg} {n : Nat} {a b d : Int32} {x y : Int64} {m i : Nat} {ar : Int32} (h : (slF (layG g n (nI i * d) a b) (n + 1) x y).1 = 0) : neF g n a b d x y (m + 1) i ar = (nI i * d, nI i * d) := by rw [neF, if_pos h]
theorem ne_f {g : Gg} {n : Nat} {a b d : Int32} {x y : Int64} {m i : Nat} {ar : Int32} (h : ¬ (slF (layG g n (nI i * d) a b) (n + 1) x y).1 = 0) : neF g n a b d x y (m + 1) i ar = neF g n a b d x y m (i + 1) (nI i * d) := by rw [neF, if_neg h]
theorem nis {i : Nat} {d : Int32} {A B : Int} (hi : i ≤ 20) (h1 : 1 ≤ d.toInt) (h2 : d.toInt ≤ A) (hA : 20 * A = B) (hB : B ≤ 100000) : 0 ≤ (nI i * d).toInt ∧ (nI i * d).toInt ≤ B := by
  have ht : (nI i).toInt = (i : Int) := nI_toInt (by omega)
  have p1 := Int.mul_nonneg (show (0 : Int) ≤ (i : Int) by omega) (show 0 ≤ d.toInt by omega)
  have p2 := Int.mul_nonneg (show (0 : Int) ≤ 20 - (i : Int) by omega) (show 0 ≤ d.toInt by omega)
  rw [Int.sub_mul] at p2
  rw [ml32 (by rw [ht]; omega) (by rw [ht]; omega), ht]
  omega
theorem nis_1 {i : Nat} {d : Int32} (hi : i ≤ 20) (h : rg d 1 5000) : ¬ nI i * d = -1 := by
  have h9 := nis (A := 5000) (B := 100000) hi h.1 h.2 (by omega) (by omega)
  intro e
  rw [e, show (-1 : Int32).toInt = -1 by decide] at h9
  omega
theorem nis_k {i : Nat} {d : Int32} (hi : i ≤ 20) (h : rg d 1 1000) : rg (nI i * d) (-20000) 20000 := by
  have h9 := nis (A := 1000) (B := 20000) hi h.1 h.2 (by omega) (by omega)
  exact ⟨by omega, by omega⟩
theorem ks_k {k d : Int32} (hk : rg k 0 20) (h : rg d 1 1000) : rg (k * d) (-20000) 20000 := by
  have h1 := rg_lt hk
  rw [rg_nI hk]
  exact nis_k (by omega) h
theorem la_0 {g : Gg} {n : Nat} {fo : Int64} {st : Int32} {m i : Nat} (h : blF g n fo (nI i * st) = -1000000) : laF g n fo st (m + 1) i = -1 := by rw [laF, if_pos h]
theorem la_f {g : Gg} {n : Nat} {fo : Int64} {st : Int32} {m i : Nat} (h : ¬ blF g n fo (nI i * st) = -1000000) (h2 : fbF g (blF g n fo (nI i * st)) (nI i * st) n 0 = -1) : laF g n fo st (m + 1) i = laF g n fo st m (i + 1) := by rw [laF, if_neg h, if_pos h2]
theorem la_t {g : Gg} {n : Nat} {fo : Int64} {st : Int32} {m i : Nat} (h : ¬ blF g n fo (nI i * st) = -1000000) (h2 : ¬ fbF g (blF g n fo (nI i * st)) (nI i * st) n 0 = -1) : laF g n fo st (m + 1) i = nI i := by rw [laF, if_neg h, if_neg h2]
theorem fb_val {g : Gg} {e k : Int32} : ∀ (m i : Nat), i + m ≤ 41 → fbF g e k m i = -1 ∨ 0 ≤ (fbF g e k m i).toInt := by
  intro m
  induction m with
  | zero => intro i _; exact Or.inl rfl
  | succ m ih =>
    intro i h
    by_cases c : byF g (g 2 i) (wkF g i e k)
    · rw [fbF_t c, nI_toInt (by omega)]; exact Or.inr (by omega)
    · rw [fbF_f c]; exact ih (i + 1) (by omega)
def apC (g : Gg) (kd x y : Int32) : Prop := (g 7 kd.toNatClampNeg).toNatClampNeg < 8 ∧
  ¬ (0 < (g 7 kd.toNatClampNeg).toNatClampNeg ∧ (x ≤ g 5 (8 * kd.toNatClampNeg + (g 7 kd.toNatClampNeg).toNatClampNeg - 1) ∨ y < g 6 (8 * kd.toNatClampNeg + (g 7 kd.toNatClampNeg).toNatClampNeg - 1)))
theorem apC_k {g : Gg} {k q : Nat} (hk : k < 4) (hq : q < 9) (hqe : g 7 k = nI q) {x y : Int32} : apC g (nI k) x y ↔ q < 8 ∧ ¬ (0 < q ∧ (x ≤ g 5 (8 * k + q - 1) ∨ y < g 6 (8 * k + q - 1))) := by
  unfold apC
  rw [nI_clamp (n := k) (by omega), hqe, nI_clamp (n := q) (by omega)]
