theorem iI_t {a : Int} (h1 : -2147483648 ≤ a) (h2 : a < 2147483648) : (iI a).toInt = a := Int32.toInt_ofInt_of_le h1 h2
theorem iI_of (x : Int32) : iI x.toInt = x := Int32.ofInt_toInt x
theorem iI_ad (a b : Int) : iI a + iI b = iI (a + b) := (Int32.ofInt_add a b).symm
theorem iI_sb (a b : Int) : iI a - iI b = iI (a - b) := (Int32.ofInt_sub a b).symm
theorem iI_lt {a b : Int} (ha : -2147483648 ≤ a) (ha2 : a < 2147483648) (hb : -2147483648 ≤ b) (hb2 : b < 2147483648) : iI a < iI b ↔ a < b := by
  rw [Int32.lt_iff_toInt_lt, iI_t ha ha2, iI_t hb hb2]
theorem iI_le {a b : Int} (ha : -2147483648 ≤ a) (ha2 : a < 2147483648) (hb : -2147483648 ≤ b) (hb2 : b < 2147483648) : iI a ≤ iI b ↔ a ≤ b := by
  rw [Int32.le_iff_toInt_le, iI_t ha ha2, iI_t hb hb2]
theorem bm32 {x : Int} (h1 : -2147483648 ≤ x) (h2 : x < 2147483648) : x.bmod (2 ^ 32) = x := Int.bmod_eq_of_le h1 h2
theorem bm64 {x : Int} (h1 : -9223372036854775808 ≤ x) (h2 : x < 9223372036854775808) : x.bmod (2 ^ 64) = x := Int.bmod_eq_of_le h1 h2
theorem mb_ {a d A D : Int} (h1 : -A ≤ a) (h2 : a ≤ A) (h3 : -D ≤ d) (h4 : d ≤ D) : -(A * D) ≤ a * d ∧ a * d ≤ A * D := by
  have p1 := Int.mul_nonneg (show 0 ≤ A - a by omega) (show 0 ≤ D + d by omega)
  have p2 := Int.mul_nonneg (show 0 ≤ A + a by omega) (show 0 ≤ D - d by omega)
  have p3 := Int.mul_nonneg (show 0 ≤ A - a by omega) (show 0 ≤ D - d by omega)
  have p4 := Int.mul_nonneg (show 0 ≤ A + a by omega) (show 0 ≤ D + d by omega)
  simp only [Int.sub_mul, Int.mul_sub, Int.add_mul, Int.mul_add] at p1 p2 p3 p4
  constructor <;> omega
theorem ad32 {x y : Int32} (h1 : -2147483648 ≤ x.toInt + y.toInt) (h2 : x.toInt + y.toInt < 2147483648) : (x + y).toInt = x.toInt + y.toInt := by rw [Int32.toInt_add]; exact bm32 h1 h2
theorem sb32 {x y : Int32} (h1 : -2147483648 ≤ x.toInt - y.toInt) (h2 : x.toInt - y.toInt < 2147483648) : (x - y).toInt = x.toInt - y.toInt := by rw [Int32.toInt_sub]; exact bm32 h1 h2
theorem ml32 {x y : Int32} (h1 : -2147483648 ≤ x.toInt * y.toInt) (h2 : x.toInt * y.toInt < 2147483648) : (x * y).toInt = x.toInt * y.toInt := by rw [Int32.toInt_mul]; exact bm32 h1 h2
theorem xneg (x : Int32) {y : Int32} (hy : 0 ≤ y.toInt) : (x ^^^ y) < 0 ↔ x.toInt < 0 := by
  have h1 : (x.toBitVec ^^^ y.toBitVec).msb = (x.toBitVec.msb ^^ y.toBitVec.msb) := BitVec.msb_xor
  rw [BitVec.msb_eq_toInt, BitVec.msb_eq_toInt, BitVec.msb_eq_toInt] at h1
  have h2 : ¬ y.toBitVec.toInt < 0 := by rw [Int32.toInt_toBitVec]; omega
  rw [decide_eq_false h2, Bool.xor_false] at h1
  have h3 := decide_eq_decide.mp h1
  rw [Int32.lt_iff_toInt_lt]
  exact h3
theorem tdn {a b : Int} (h : ¬ 0 ≤ a) : a.tdiv b = -((-a) / b) := by
  have h1 : (-a).tdiv b = (-a) / b := Int.tdiv_eq_ediv_of_nonneg (by omega)
  rw [← h1, Int.neg_tdiv, Int.neg_neg]
theorem fdv1000 {x : Int32} (h1 : -100000000 ≤ x.toInt) (h2 : x.toInt ≤ 100000000) : fdv x 1000 = iI (x.toInt / 1000) := by
  have k1 : (1000 : Int32).toInt = 1000 := by decide
  have k2 : (1 : Int32).toInt = 1 := by decide
  have hq : (x / 1000).toInt = x.toInt.tdiv 1000 := by rw [Int32.toInt_div_of_ne_right x 1000 (by decide), k1]
  have hx := xneg x (y := 1000) (by decide)
  have hb : -100000000 ≤ x.toInt.tdiv 1000 * 1000 ∧ x.toInt.tdiv 1000 * 1000 ≤ 100000000 := by
    by_cases hn : 0 ≤ x.toInt
    · rw [Int.tdiv_eq_ediv_of_nonneg hn]; omega
    · rw [tdn hn]; omega
  have hr : ((x / 1000) * 1000).toInt = x.toInt.tdiv 1000 * 1000 := by
    rw [ml32 (by rw [hq, k1]; omega) (by rw [hq, k1]; omega), hq, k1]
  have he : (x / 1000) * 1000 = x ↔ x.toInt.tdiv 1000 * 1000 = x.toInt := by rw [← Int32.toInt_inj, hr]
  apply Int32.toInt_inj.1
  rw [iI_t (by omega) (by omega)]
  unfold fdv
  by_cases hn : 0 ≤ x.toInt
  · have ht : x.toInt.tdiv 1000 = x.toInt / 1000 := Int.tdiv_eq_ediv_of_nonneg hn
    rw [if_neg (fun h => absurd (hx.mp h.1) (by omega)), hq, ht]
  · have ht : x.toInt.tdiv 1000 = -((-x.toInt) / 1000) := tdn hn
    by_cases hd : (x / 1000) * 1000 = x
    · rw [if_neg (fun h => h.2 hd), hq]
      have := he.mp hd
      rw [ht] at this ⊢
      omega
    · rw [if_pos ⟨hx.mpr (by omega), hd⟩, sb32 (by rw [hq, k2]; omega) (by rw [hq, k2]; omega), hq, k2]
      have := mt he.mpr hd
      rw [ht] at this ⊢
      omega
theorem fdv2 {x : Int32} (h1 : -100000000 ≤ x.toInt) (h2 : x.toInt ≤ 100000000) : fdv x 2 = iI (x.toInt / 2) := by
  have k1 : (2 : Int32).toInt = 2 := by decide
  have k2 : (1 : Int32).toInt = 1 := by decide
  have hq : (x / 2).toInt = x.toInt.tdiv 2 := by rw [Int32.toInt_div_of_ne_right x 2 (by decide), k1]
  have hx := xneg x (y := 2) (by decide)
  have hb : -100000000 ≤ x.toInt.tdiv 2 * 2 ∧ x.toInt.tdiv 2 * 2 ≤ 100000000 := by
    by_cases hn : 0 ≤ x.toInt
    · rw [Int.tdiv_eq_ediv_of_nonneg hn]; omega
    · rw [tdn hn]; omega
  have hr : ((x / 2) * 2).toInt = x.toInt.tdiv 2 * 2 := by
    rw [ml32 (by rw [hq, k1]; omega) (by rw [hq, k1]; omega), hq, k1]
  have he : (x / 2) * 2 = x ↔ x.toInt.tdiv 2 * 2 = x.toInt := by rw [← Int32.toInt_inj, hr]
  apply Int32.toInt_inj.1
  rw [iI_t (by omega) (by omega)]
  unfold fdv
  by_cases hn : 0 ≤ x.toInt
  · have ht : x.toInt.tdiv 2 = x.toInt / 2 := Int.tdiv_eq_ediv_of_nonneg hn
    rw [if_neg (fun h => absurd (hx.mp h.1) (by omega)), hq, ht]
  · have ht : x.toInt.tdiv 2 = -((-x.toInt) / 2) := tdn hn
    by_cases hd : (x / 2) * 2 = x
    · rw [if_neg (fun h => h.2 hd), hq]
      have := he.mp hd
      rw [ht] at this ⊢
      omega
    · rw [if_pos ⟨hx.mpr (by omega), hd⟩, sb32 (by rw [hq, k2]; omega) (by rw [hq, k2]; omega), hq, k2]
      have := mt he.mpr hd
      rw [ht] at this ⊢
      omega
/-- the middle, as the class has it -/
theorem midC {a b : Int} (h1 : -20000 ≤ a) (h2 : a ≤ 20000) (h3 : -20000 ≤ b) (h4 : b ≤ 20000) : fdv (iI a + iI b) 2 = iI ((a + b) / 2) := by
  have h : (iI (a + b)).toInt = a + b := iI_t (by omega) (by omega)
  rw [iI_ad, fdv2 (by omega) (by omega), h]
/-- the middle, as the reference has it -/
theorem midR {a b : Int} (h1 : -20000 ≤ a) (h2 : a ≤ 20000) (h3 : -20000 ≤ b) (h4 : b ≤ 20000) (h : a < b) : iI a + (iI b - iI a) / 2 = iI ((a + b) / 2) := by
  have hd : (iI (b - a)).toInt = b - a := iI_t (by omega) (by omega)
  have k1 : (2 : Int32).toInt = 2 := by decide
  have hq : (iI (b - a) / 2).toInt = (b - a) / 2 := by
    rw [Int32.toInt_div_of_ne_right _ 2 (by decide), hd, k1]; exact Int.tdiv_eq_ediv_of_nonneg (by omega)
  apply Int32.toInt_inj.1
  rw [iI_sb, ad32 (by rw [hq, iI_t (by omega) (by omega)]; omega) (by rw [hq, iI_t (by omega) (by omega)]; omega), hq, iI_t (by omega) (by omega), iI_t (by omega) (by omega)]
  omega
theorem rdnP {x : Int32} (h1 : -100000000 ≤ x.toInt) (h2 : x.toInt ≤ 100000000) (h : ¬ x < 0) : x / 1000 = iI (x.toInt / 1000) := by
  have k1 : (1000 : Int32).toInt = 1000 := by decide
  have h0 : 0 ≤ x.toInt := by
    rw [Int32.lt_iff_toInt_lt] at h
    have k0 : (0 : Int32).toInt = 0 := by decide
    omega
  apply Int32.toInt_inj.1
  rw [iI_t (by omega) (by omega), Int32.toInt_div_of_ne_right x 1000 (by decide), k1]
  exact Int.tdiv_eq_ediv_of_nonneg h0
theorem rdnN {x : Int32} (h1 : -100000000 ≤ x.toInt) (h2 : x.toInt ≤ 100000000) (h : x < 0) : -((999 - x) / 1000) = iI (x.toInt / 1000) := by
  have k1 : (1000 : Int32).toInt = 1000 := by decide
  have k9 : (999 : Int32).toInt = 999 := by decide
  have h0 : x.toInt < 0 := by
    rw [Int32.lt_iff_toInt_lt] at h
    have k0 : (0 : Int32).toInt = 0 := by decide
    omega
  have hs : (999 - x).toInt = 999 - x.toInt := by rw [sb32 (by rw [k9]; omega) (by rw [k9]; omega), k9]
  have hq : ((999 - x) / 1000).toInt = (999 - x.toInt) / 1000 := by
    rw [Int32.toInt_div_of_ne_right _ 1000 (by decide), hs, k1]; exact Int.tdiv_eq_ediv_of_nonneg (by omega)
  apply Int32.toInt_inj.1
  rw [iI_t (by omega) (by omega), Int32.toInt_neg, hq, bm32 (by omega) (by omega)]
  omega
theorem wk_eq {L c : Int32} (h1 : -10000000 ≤ L.toInt) (h2 : L.toInt ≤ 10000000) (h3 : 0 ≤ c.toInt) (h4 : c.toInt ≤ 500) : L * 100 / (100 + c) = sh L.toInt64 100 (100 + c).toInt64 := by
  have k1 : (100 : Int32).toInt = 100 := by decide
  have k2 : (100 : Int64).toInt = 100 := by decide
  have hc : (100 + c).toInt = 100 + c.toInt := by rw [ad32 (by rw [k1]; omega) (by rw [k1]; omega), k1]
  have hL : (L * 100).toInt = L.toInt * 100 := by rw [ml32 (by rw [k1]; omega) (by rw [k1]; omega), k1]
  have n32 : (100 + c) ≠ -1 := by
    intro h
    have := congrArg Int32.toInt h
    rw [hc, show (-1 : Int32).toInt = -1 by decide] at this
    omega
  have t64 : (100 + c).toInt64.toInt = 100 + c.toInt := by rw [Int32.toInt_toInt64, hc]
  have n64 : (100 + c).toInt64 ≠ -1 := by
    intro h
    have := congrArg Int64.toInt h
    rw [t64, show (-1 : Int64).toInt = -1 by decide] at this
    omega
  have z64 : ¬ (100 + c).toInt64 = 0 := by
    intro h
    have := congrArg Int64.toInt h
    rw [t64, show (0 : Int64).toInt = 0 by decide] at this
    omega
  have h32 : (L * 100 / (100 + c)).toInt = (L.toInt * 100).tdiv (100 + c.toInt) := by rw [Int32.toInt_div_of_ne_right _ _ n32, hL, hc]
  have h64 : (L.toInt64 * 100 / (100 + c).toInt64).toInt = (L.toInt * 100).tdiv (100 + c.toInt) := by
    rw [Int64.toInt_div_of_ne_right _ _ n64, Int64.toInt_mul, Int32.toInt_toInt64, t64, k2, bm64 (by omega) (by omega)]
  unfold sh
  rw [if_neg z64]
  apply Int32.toInt_inj.1
  rw [Int64.toInt_toInt32, h64, ← h32]
  exact (bm32 (Int32.le_toInt _) (Int32.toInt_lt _)).symm
theorem kp_b {k q : Int32} (h1 : -20000 ≤ k.toInt) (h2 : k.toInt ≤ 20000) (h3 : -2000 ≤ q.toInt) (h4 : q.toInt ≤ 2000) : -40000000 ≤ (k * q).toInt ∧ (k * q).toInt ≤ 40000000 := by
  have h := mb_ h1 h2 h3 h4
  rw [ml32 (by omega) (by omega)]
  omega
theorem vp_n {x : Int32} {n : Nat} (h : vp_in x n) : x.toNatClampNeg < n ∧ 0 ≤ x.toInt ∧ x.toInt = x.toNatClampNeg := by
  have h1 := vp_in_iff.mp h
  have h2 : x.toInt.toNat = x.toNatClampNeg := rfl
  omega
/-- the reference's works is the class's -/
theorem rwk_eq {g : Gg} (hg : InvG g) {f : Nat} (hf : f < 41) {e k d : Int32} (he1 : -20000 ≤ e.toInt) (he2 : e.toInt ≤ 20000) (hk1 : -20000 ≤ k.toInt) (hk2 : k.toInt ≤ 20000) (hd : d = iI ((k * g 1 f).toInt / 1000)) :
    (e + d - g 3 f - g 9 (g 2 f).toNatClampNeg) * 100 / (100 + g 8 (g 2 f).toNatClampNeg) = wkF g f e k := by
  obtain ⟨i2, i1, i3, i8, i9, -, -, -⟩ := hg
  have hkd := (vp_n (i2 f hf)).1
  have h1 := i1 f hf
  have h3 := i3 f hf
  have h8 := i8 _ hkd
  have h9 := i9 _ hkd
  have hb := kp_b hk1 hk2 h1.1 h1.2
  have hdt : d.toInt = (k * g 1 f).toInt / 1000 := by rw [hd]; exact iI_t (by omega) (by omega)
  have s1 : (e + d).toInt = e.toInt + d.toInt := ad32 (by omega) (by omega)
  have s2 : (e + d - g 3 f).toInt = e.toInt + d.toInt - (g 3 f).toInt := by rw [sb32 (by omega) (by omega), s1]
  have s3 : (e + d - g 3 f - g 9 (g 2 f).toNatClampNeg).toInt = e.toInt + d.toInt - (g 3 f).toInt - (g 9 (g 2 f).toNatClampNeg).toInt := by rw [sb32 (by omega) (by omega), s2]
  rw [wk_eq (by omega) (by omega) h8.1 h8.2]
  unfold wkF
  rw [fdv1000 (by omega) (by omega), ← hd]
/-- a row at one of its points -/
theorem rwL_at {x y : Nat → Int32} {t : Int32} : ∀ (n j : Nat), (∀ i, j ≤ i → i < j + n → (x i).toInt < (x (i + 1)).toInt) → t = x j → rwL x y t n j = y j := by
  intro n j h ht
  cases n with
  | zero => rfl
  | succ n =>
    have h1 := h j (Nat.le_refl _) (by omega)
    unfold rwL
    have hz : (t - x j) = 0 := by rw [ht]; exact Int32.sub_self _
    rw [if_pos (by rw [Int32.lt_iff_toInt_lt, ht]; exact h1), hz]
    have : sh (y (j + 1) - y j).toInt64 (0 : Int32).toInt64 (x (j + 1) - x j).toInt64 = 0 := by
      unfold sh
      split
      · rfl
      · have e0 : (0 : Int32).toInt64 = 0 := by decide
        rw [e0, Int64.mul_zero, Int64.zero_div]
        decide
    rw [this, Int32.add_zero]
theorem md_self {a d : Int32} (h1 : 0 < d.toInt) (h2 : d.toInt ≤ 60000) : (a.toInt64 * d.toInt64 / d.toInt64).toInt32 = a := by
  have hb := mb_ (a := a.toInt) (d := d.toInt) (A := 2147483648) (D := 60000) (by have := Int32.le_toInt a; omega) (by have := Int32.toInt_lt a; omega) (by omega) h2
  have n64 : d.toInt64 ≠ -1 := by
    intro h
    have := congrArg Int64.toInt h
    rw [Int32.toInt_toInt64, show (-1 : Int64).toInt = -1 by decide] at this
    omega
  apply Int32.toInt_inj.1
  rw [Int64.toInt_toInt32, Int64.toInt_div_of_ne_right _ _ n64, Int64.toInt_mul, Int32.toInt_toInt64, Int32.toInt_toInt64, bm64 (by omega) (by omega), Int.mul_tdiv_cancel _ (by omega)]
  exact bm32 (Int32.le_toInt _) (Int32.toInt_lt _)
/-- the reference's row: it stops at the first point that isn't below -/
def rvL (x y : Nat → Int32) (t : Int32) : Nat → Nat → Int32
  | 0, j => y j
  | n + 1, j => if x (j + 1) < t then rvL x y t n (j + 1) else y j + ((y (j + 1) - y j).toInt64 * (t - x j).toInt64 / (x (j + 1) - x j).toInt64).toInt32
theorem rvL_eq {x y : Nat → Int32} {t : Int32} : ∀ (n j : Nat), (∀ i, j ≤ i → i < j + n → (x i).toInt < (x (i + 1)).toInt) → (∀ i, j ≤ i → i ≤ j + n → -30000 ≤ (x i).toInt ∧ (x i).toInt ≤ 30000) → rvL x y t n j = rwL x y t n j := by
  intro n
  induction n with
  | zero => intro j _ _; rfl
  | succ n ih =>
    intro j hr hb
    have r0 := hr j (Nat.le_refl _) (by omega)
    have b0 := hb j (Nat.le_refl _) (by omega)
    have b1 := hb (j + 1) (by omega) (by omega)
    have hdt : (x (j + 1) - x j).toInt = (x (j + 1)).toInt - (x j).toInt := sb32 (by omega) (by omega)
    have hnz : ¬ (x (j + 1) - x j).toInt64 = 0 := by
      intro h
      have := congrArg Int64.toInt h
      rw [Int32.toInt_toInt64, hdt, show (0 : Int64).toInt = 0 by decide] at this
      omega
    unfold rvL rwL
    by_cases c1 : x (j + 1) < t
    · rw [if_pos c1, if_neg (by rw [Int32.lt_iff_toInt_lt] at c1 ⊢; omega)]
      exact ih (j + 1) (fun i h1 h2 => hr i (by omega) (by omega)) (fun i h1 h2 => hb i (by omega) (by omega))
    · rw [if_neg c1]
      by_cases c2 : t < x (j + 1)
      · rw [if_pos c2]
        unfold sh
        rw [if_neg hnz]
      · have ht : t = x (j + 1) := by
          apply Int32.toInt_inj.1
          rw [Int32.lt_iff_toInt_lt] at c1 c2
          omega
        rw [if_neg c2, rwL_at n (j + 1) (fun i h1 h2 => hr i (by omega) (by omega)) ht, ht, md_self (by omega) (by omega)]
        rw [Int32.add_comm, Int32.sub_add_cancel]
/-- halving: where it ends -/
theorem bs_rng {P : Int → Prop} : ∀ (n : Nat) (lo hi : Int), lo ≤ hi → lo ≤ bsF P n lo hi ∧ bsF P n lo hi ≤ hi := by
  intro n
  induction n with
  | zero => intro lo hi h; unfold bsF; omega
  | succ n ih =>
    intro lo hi h
    unfold bsF
    split
    · split
      · have := ih lo ((lo + hi) / 2) (by omega); omega
      · have := ih ((lo + hi) / 2 + 1) hi (by omega); omega
    · omega
theorem bl_rng {g : Gg} {n : Nat} {fo : Int64} {k : Int32} (h : ¬ blF g n fo k = -1000000) : -20000 ≤ (blF g n fo k).toInt ∧ (blF g n fo k).toInt ≤ 20000 := by
  unfold blF at h ⊢
  split at h
  · exact absurd rfl h
  · rename_i hc
    rw [if_neg hc]
    have := bs_rng (P := fun m => fo ≤ smF g false (iI m) k n) 32 (-20000) 20000 (by omega)
    rw [iI_t (by omega) (by omega)]
    exact this
theorem so_rng {g : Gg} {n : Nat} {fo mo : Int64} : ∀ (m : Nat) (lo hi : Int), lo ≤ hi → (soF g n fo mo m lo hi).1 = 0 → lo ≤ (soF g n fo mo m lo hi).2 ∧ (soF g n fo mo m lo hi).2 ≤ hi := by
  have hE : ∀ lo : Int, (soE g n fo mo lo).1 = 0 → (soE g n fo mo lo).2 = lo := by
    intro lo h
    unfold soE at h ⊢
    split at h
    · exact absurd h (by decide)
    · split at h
      · exact absurd h (by decide)
      · rename_i c1 c2; rw [if_neg c1, if_neg c2]
  intro m
  induction m with
  | zero => intro lo hi h h0; unfold soF at h0 ⊢; have := hE lo h0; omega
  | succ m ih =>
    intro lo hi h h0
    unfold soF at h0 ⊢
    by_cases c0 : lo < hi
    · rw [if_pos c0] at h0 ⊢
      by_cases c1 : blF g n fo (iI ((lo + hi) / 2)) = -1000000
      · rw [if_pos c1] at h0; exact absurd h0 (by decide)
      · rw [if_neg c1] at h0 ⊢
        by_cases c2 : mo ≤ smF g true (blF g n fo (iI ((lo + hi) / 2))) (iI ((lo + hi) / 2)) n
        · rw [if_pos c2] at h0 ⊢; have := ih lo ((lo + hi) / 2) (by omega) h0; omega
        · rw [if_neg c2] at h0 ⊢; have := ih ((lo + hi) / 2 + 1) hi (by omega) h0; omega
    · rw [if_neg c0] at h0 ⊢; have := hE lo h0; omega
theorem sl_rng {g : Gg} {n : Nat} {fo mo : Int64} (h : (slF g n fo mo).1 = 0) : -20000 ≤ (slF g n fo mo).2 ∧ (slF g n fo mo).2 ≤ 20000 := so_rng 32 (-20000) 20000 (by omega) h
theorem so_val {g : Gg} {n : Nat} {fo mo : Int64} : ∀ (m : Nat) (lo hi : Int), (soF g n fo mo m lo hi).1 = 0 → ¬ blF g n fo (iI (soF g n fo mo m lo hi).2) = -1000000 := by
  have hE : ∀ lo : Int, (soE g n fo mo lo).1 = 0 → ¬ blF g n fo (iI (soE g n fo mo lo).2) = -1000000 := by
    intro lo h
    unfold soE at h ⊢
    split at h
    · exact absurd h (by decide)
    · split at h
      · exact absurd h (by decide)
      · rename_i c1 c2; rw [if_neg c1, if_neg c2]; exact c1
  intro m
  induction m with
  | zero => intro lo hi h0; unfold soF at h0 ⊢; exact hE lo h0
  | succ m ih =>
    intro lo hi h0
    unfold soF at h0 ⊢
    by_cases c0 : lo < hi
    · rw [if_pos c0] at h0 ⊢
      by_cases c1 : blF g n fo (iI ((lo + hi) / 2)) = -1000000
      · rw [if_pos c1] at h0; exact absurd h0 (by decide)
      · rw [if_neg c1] at h0 ⊢
        by_cases c2 : mo ≤ smF g true (blF g n fo (iI ((lo + hi) / 2))) (iI ((lo + hi) / 2)) n
        · rw [if_pos c2] at h0 ⊢; exact ih lo ((lo + hi) / 2) h0
        · rw [if_neg c2] at h0 ⊢; exact ih ((lo + hi) / 2 + 1) hi h0
    · rw [if_neg c0] at h0 ⊢; exact hE lo h0
theorem up_s {f : Nat → Int32} {k : Nat} {x : Int32} {P : Int32 → Prop} {N : Nat} (hx : P x) (h : ∀ i, i < N → P (f i)) : ∀ i, i < N → P (upd f k x i) := by
  intro i hi
  unfold upd
  split
  · exact hx
  · exact h i hi
theorem lay_inv {g : Gg} (hg : InvG g) {n : Nat} {a at_ kd : Int32} (h1 : -2000 ≤ at_.toInt) (h2 : at_.toInt ≤ 2000) (hk : vp_in kd 4) : InvG (layG g n a at_ kd) := by
  obtain ⟨i2, i1, i3, i8, i9, i7, i5, ir⟩ := hg
  exact ⟨up_s (P := fun v => vp_in v 4) hk i2, up_s (P := fun v => -2000 ≤ v.toInt ∧ v.toInt ≤ 2000) ⟨h1, h2⟩ i1, up_s (P := fun v => -30000 ≤ v.toInt ∧ v.toInt ≤ 30000) (by decide) i3, i8, i9, i7, i5, ir⟩
theorem set3_inv {g : Gg} (hg : InvG g) {k : Nat} {x : Int32} (h1 : -30000 ≤ x.toInt) (h2 : x.toInt ≤ 30000) : InvG (setG g 3 k x) := by
  obtain ⟨i2, i1, i3, i8, i9, i7, i5, ir⟩ := hg
  exact ⟨i2, i1, up_s (P := fun v => -30000 ≤ v.toInt ∧ v.toInt ≤ 30000) ⟨h1, h2⟩ i3, i8, i9, i7, i5, ir⟩
theorem set4_inv {g : Gg} (hg : InvG g) {k : Nat} {x : Int32} : InvG (setG g 4 k x) := hg
theorem set8_inv {g : Gg} (hg : InvG g) {k : Nat} {x : Int32} (h1 : 0 ≤ x.toInt) (h2 : x.toInt ≤ 500) : InvG (setG g 8 k x) := by
  obtain ⟨i2, i1, i3, i8, i9, i7, i5, ir⟩ := hg
  exact ⟨i2, i1, i3, up_s (P := fun v => 0 ≤ v.toInt ∧ v.toInt ≤ 500) ⟨h1, h2⟩ i8, i9, i7, i5, ir⟩
theorem set9_inv {g : Gg} (hg : InvG g) {k : Nat} {x : Int32} (h1 : -5000 ≤ x.toInt) (h2 : x.toInt ≤ 5000) : InvG (setG g 9 k x) := by
  obtain ⟨i2, i1, i3, i8, i9, i7, i5, ir⟩ := hg
  exact ⟨i2, i1, i3, i8, up_s (P := fun v => -5000 ≤ v.toInt ∧ v.toInt ≤ 5000) ⟨h1, h2⟩ i9, i7, i5, ir⟩
/-- one more point of the row of kind k, which has p -/
theorem pt_inv {g : Gg} (hg : InvG g) {k p : Nat} {x y : Int32} (hk : k < 4) (hp : p < 8) (he : g 7 k = nI p) (h1 : -30000 ≤ x.toInt) (h2 : x.toInt ≤ 30000) (hr : 0 < p → (g 5 (8 * k + p - 1)).toInt < x.toInt) : InvG (ptG g k p x y) := by
  obtain ⟨i2, i1, i3, i8, i9, i7, i5, ir⟩ := hg
  refine ⟨i2, i1, i3, i8, i9, up_s (P := fun v => vp_in v 9) (vp_in_nI (by omega) (by omega)) i7, up_s (P := fun v => -30000 ≤ v.toInt ∧ v.toInt ≤ 30000) ⟨h1, h2⟩ i5, ?_⟩
  intro k2 i hk2 hi
  have e7 : ptG g k p x y 7 k2 = upd (g 7) k (nI (p + 1)) k2 := rfl
  have e5 : ∀ j, ptG g k p x y 5 j = upd (g 5) (8 * k + p) x j := fun _ => rfl
  rw [e7] at hi
  rw [e5, e5]
  unfold upd at hi ⊢
  have c7 := vp_n (i7 k2 hk2)
  by_cases hkk : k2 = k
  · subst hkk
    rw [if_pos rfl, nI_clamp (by omega)] at hi
    rw [if_neg (by omega)]
    by_cases hl : i + 1 = p
    · rw [if_pos (by omega)]
      have := hr (by omega)
      rw [show 8 * k2 + p - 1 = 8 * k2 + i by omega] at this
      exact this
    · rw [if_neg (by omega)]
      exact ir k2 i hk2 (by rw [he, nI_clamp (by omega)]; omega)
  · rw [if_neg hkk] at hi
    rw [if_neg (by omega), if_neg (by omega)]
    exact ir k2 i hk2 hi
def g0 : Gg := fun _ _ => 0
theorem g0_inv : InvG g0 :=
  ⟨fun _ _ => vp_in_iff.mpr (show 0 ≤ (0 : Int32).toInt ∧ (0 : Int32).toInt < (4 : Nat) by decide), fun _ _ => (show -2000 ≤ (0 : Int32).toInt ∧ (0 : Int32).toInt ≤ 2000 by decide), fun _ _ => (show -30000 ≤ (0 : Int32).toInt ∧ (0 : Int32).toInt ≤ 30000 by decide),
   fun _ _ => (show 0 ≤ (0 : Int32).toInt ∧ (0 : Int32).toInt ≤ 500 by decide), fun _ _ => (show -5000 ≤ (0 : Int32).toInt ∧ (0 : Int32).toInt ≤ 5000 by decide), fun _ _ => vp_in_iff.mpr (show 0 ≤ (0 : Int32).toInt ∧ (0 : Int32).toInt < (9 : Nat) by decide),
   fun _ _ => (show -30000 ≤ (0 : Int32).toInt ∧ (0 : Int32).toInt ≤ 30000 by decide), fun _ i _ hi => absurd (show i + 1 < (0 : Int32).toNatClampNeg from hi) (by rw [show (0 : Int32).toNatClampNeg = 0 by decide]; omega)⟩
theorem le_nlt {a b : Int32} (h : a ≤ b) : ¬ b < a := by rw [Int32.le_iff_toInt_le] at h; rw [Int32.lt_iff_toInt_lt]; omega
theorem nlt_le {a b : Int32} (h : ¬ a < b) : b ≤ a := by rw [Int32.lt_iff_toInt_lt] at h; rw [Int32.le_iff_toInt_le]; omega
theorem nle_lt {a b : Int32} (h : ¬ a ≤ b) : b < a := by rw [Int32.le_iff_toInt_le] at h; rw [Int32.lt_iff_toInt_lt]; omega
theorem lt_nle {a b : Int32} (h : a < b) : ¬ b ≤ a := by rw [Int32.lt_iff_toInt_lt] at h; rw [Int32.le_iff_toInt_le]; omega
theorem le_nlt64 {a b : Int64} (h : a ≤ b) : ¬ b < a := by rw [Int64.le_iff_toInt_le] at h; rw [Int64.lt_iff_toInt_lt]; omega
theorem nle_lt64 {a b : Int64} (h : ¬ a ≤ b) : b < a := by rw [Int64.le_iff_toInt_le] at h; rw [Int64.lt_iff_toInt_lt]; omega
theorem nlt_le64 {a b : Int64} (h : ¬ a < b) : b ≤ a := by rw [Int64.lt_iff_toInt_lt] at h; rw [Int64.le_iff_toInt_le]; omega
theorem lt_nle64 {a b : Int64} (h : a < b) : ¬ b ≤ a := by rw [Int64.lt_iff_toInt_lt] at h; rw [Int64.le_iff_toInt_le]; omega
theorem rwF_k {g : Gg} {k : Nat} (hk : k < 4) {t : Int32} : rwF g (nI k) t = if g 7 k = 0 then 0 else if t ≤ g 5 (8 * k) then g 6 (8 * k) else rwL (g 5) (g 6) t ((g 7 k).toNatClampNeg - 1) (8 * k) := by
  unfold rwF
  rw [nI_clamp (n := k) (by omega)]
theorem byF_k {g : Gg} {k : Nat} (hk : k < 4) {t : Int32} : byF g (nI k) t ↔ ¬ g 7 k = 0 ∧ (t < g 5 (8 * k) ∨ g 5 (8 * k + (g 7 k).toNatClampNeg - 1) < t) := by
  unfold byF
  rw [nI_clamp (n := k) (by omega)]
theorem rwL_0 {x y : Nat → Int32} {t : Int32} {i : Nat} : rwL x y t 0 i = y i := rfl
theorem rwL_s {x y : Nat → Int32} {t : Int32} {n i : Nat} : rwL x y t (n + 1) i = if t < x (i + 1) then y i + sh (y (i + 1) - y i).toInt64 (t - x i).toInt64 (x (i + 1) - x i).toInt64 else rwL x y t n (i + 1) := rfl
theorem rvL_0 {x y : Nat → Int32} {t : Int32} {i : Nat} : rvL x y t 0 i = y i := rfl
theorem rvL_s {x y : Nat → Int32} {t : Int32} {n j : Nat} : rvL x y t (n + 1) j = if x (j + 1) < t then rvL x y t n (j + 1) else y j + ((y (j + 1) - y j).toInt64 * (t - x j).toInt64 / (x (j + 1) - x j).toInt64).toInt32 := rfl
theorem fbF_t {g : Gg} {e k : Int32} {m i : Nat} (h : byF g (g 2 i) (wkF g i e k)) : fbF g e k (m + 1) i = nI i := by unfold fbF; rw [if_pos h]
theorem fbF_f {g : Gg} {e k : Int32} {m i : Nat} (h : ¬ byF g (g 2 i) (wkF g i e k)) : fbF g e k (m + 1) i = fbF g e k m (i + 1) := by rw [fbF]; rw [if_neg h]
theorem bs_end {P : Int → Prop} {m : Nat} {a b : Int} (h : ¬ a < b) : bsF P m a b = a := by
  cases m with
  | zero => rfl
  | succ m => rw [bsF]; rw [if_neg h]
theorem bs_t {P : Int → Prop} {m : Nat} {a b : Int} (h : a < b) (hP : P ((a + b) / 2)) : bsF P (m + 1) a b = bsF P m a ((a + b) / 2) := by rw [bsF, if_pos h, if_pos hP]
theorem bs_f {P : Int → Prop} {m : Nat} {a b : Int} (h : a < b) (hP : ¬ P ((a + b) / 2)) : bsF P (m + 1) a b = bsF P m ((a + b) / 2 + 1) b := by rw [bsF, if_pos h, if_neg hP]
theorem so_end {g : Gg} {n : Nat} {fo mo : Int64} {m : Nat} {a b : Int} (h : ¬ a < b) : soF g n fo mo m a b = soE g n fo mo a := by
  cases m with
  | zero => rfl
  | succ m => rw [soF]; rw [if_neg h]
theorem so_0 {g : Gg} {n : Nat} {fo mo : Int64} {m : Nat} {a b : Int} (h : a < b) (h1 : blF g n fo (iI ((a + b) / 2)) = -1000000) : soF g n fo mo (m + 1) a b = (1, 0) := by rw [soF, if_pos h, if_pos h1]
theorem so_t {g : Gg} {n : Nat} {fo mo : Int64} {m : Nat} {a b : Int} (h : a < b) (h1 : ¬ blF g n fo (iI ((a + b) / 2)) = -1000000) (h2 : mo ≤ smF g true (blF g n fo (iI ((a + b) / 2))) (iI ((a + b) / 2)) n) : soF g n fo mo (m + 1) a b = soF g n fo mo m a ((a + b) / 2) := by rw [soF, if_pos h, if_neg h1, if_pos h2]
theorem so_f {g : Gg} {n : Nat} {fo mo : Int64} {m : Nat} {a b : Int} (h : a < b) (h1 : ¬ blF g n fo (iI ((a + b) / 2)) = -1000000) (h2 : ¬ mo ≤ smF g true (blF g n fo (iI ((a + b) / 2))) (iI ((a + b) / 2)) n) : soF g n fo mo (m + 1) a b = soF g n fo mo m ((a + b) / 2 + 1) b := by rw [soF, if_pos h, if_neg h1, if_neg h2]
/-- the class's answer of a solving -/
def enF (q : Int32 × Int) : Int32 := if q.1 = 1 then 1000001 else if q.1 = 2 then 1000002 else iI q.2
theorem dvne {a b : Int32} (h1 : -30000 ≤ a.toInt) (h2 : a.toInt < b.toInt) (h3 : b.toInt ≤ 30000) : ¬ (b - a).toInt64 = 0 := by
  have hdt : (b - a).toInt = b.toInt - a.toInt := sb32 (by omega) (by omega)
  intro h
  have h9 := congrArg Int64.toInt h
  rw [Int32.toInt_toInt64, hdt, show (0 : Int64).toInt = 0 by decide] at h9
  omega
theorem crne {c : Int32} (h1 : 0 ≤ c.toInt) (h2 : c.toInt ≤ 500) : ¬ 100 + c = 0 := by
  intro h
  have h9 := congrArg Int32.toInt h
  rw [ad32 (by rw [show (100 : Int32).toInt = 100 by decide]; omega) (by rw [show (100 : Int32).toInt = 100 by decide]; omega), show (100 : Int32).toInt = 100 by decide, show (0 : Int32).toInt = 0 by decide] at h9
  omega
theorem rgI {v : Int} (h1 : -20000 ≤ v) (h2 : v ≤ 20000) : rg (iI v) (-20000) 20000 := by
  have h : (iI v).toInt = v := iI_t (by omega) (by omega)
  exact ⟨by omega, by omega⟩
/-- the class's row is the reference's -/
theorem rw_rv {g : Gg} (hg : InvG g) {k q : Nat} (hk : k < 4) (hq : q < 9) (hqe : g 7 k = nI q) (h0 : 0 < q) {t : Int32} : rwL (g 5) (g 6) t (q - 1) (8 * k) = rvL (g 5) (g 6) t (q - 1) (8 * k) := by
  obtain ⟨-, -, -, -, -, -, i5, ir⟩ := hg
  refine (rvL_eq (q - 1) (8 * k) (fun i h1 h2 => ?_) (fun i h1 h2 => i5 i (by omega))).symm
  have h9 := ir k (i - 8 * k) hk (by rw [hqe, nI_clamp (n := q) (by omega)]; omega)
  rw [show 8 * k + (i - 8 * k) = i by omega] at h9
  exact h9
theorem ri_5 {g : Gg} (hg : InvG g) {k q j : Nat} (hk : k < 4) (hq : q < 9) (hqe : g 7 k = nI q) (h1 : 8 * k ≤ j) (h2 : j + 1 < 8 * k + q) : ¬ (g 5 (j + 1) - g 5 j).toInt64 = 0 := by
  obtain ⟨-, -, -, -, -, -, i5, ir⟩ := hg
  have h9 := ir k (j - 8 * k) hk (by rw [hqe, nI_clamp (n := q) (by omega)]; omega)
  rw [show 8 * k + (j - 8 * k) = j by omega] at h9
  exact dvne (i5 j (by omega)).1 h9 (i5 (j + 1) (by omega)).2
