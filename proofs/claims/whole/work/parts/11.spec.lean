/-! THE COMMON VALUES: what class and reference both compute, as functions of the ten rows g (0 areas, 1 places, 2 kinds, 3 births, 4 kept, 5 strains, 6 stresses, 7 points, 8 creep, 9 shrunk) and the number n of fibres. -/
abbrev Gg : Type := Nat → Nat → Int32
def iI (a : Int) : Int32 := Int32.ofInt a
def sh (a b c : Int64) : Int32 := if c = 0 then 0 else (a * b / c).toInt32
def fdv (x y : Int32) : Int32 := if (x ^^^ y) < 0 ∧ ¬ (x / y) * y = x then x / y - 1 else x / y
/-- the row's stress behind its first point: n segments left, at point i -/
def rwL (x y : Nat → Int32) (t : Int32) : Nat → Nat → Int32
  | 0, i => y i
  | n + 1, i => if t < x (i + 1) then y i + sh (y (i + 1) - y i).toInt64 (t - x i).toInt64 (x (i + 1) - x i).toInt64 else rwL x y t n (i + 1)
def rwF (g : Gg) (kd t : Int32) : Int32 :=
  if g 7 kd.toNatClampNeg = 0 then 0
  else if t ≤ g 5 (8 * kd.toNatClampNeg) then g 6 (8 * kd.toNatClampNeg)
  else rwL (g 5) (g 6) t ((g 7 kd.toNatClampNeg).toNatClampNeg - 1) (8 * kd.toNatClampNeg)
def wkF (g : Gg) (f : Nat) (e k : Int32) : Int32 :=
  sh (e + fdv (k * g 1 f) 1000 - g 3 f - g 9 (g 2 f).toNatClampNeg).toInt64 100 (100 + g 8 (g 2 f).toNatClampNeg).toInt64
def stF (g : Gg) (f : Nat) (e k : Int32) : Int32 := sh (rwF g (g 2 f) (wkF g f e k)).toInt64 (g 4 f).toInt64 100
def tmF (g : Gg) (w : Bool) (f : Nat) (e k : Int32) : Int64 :=
  if w then (g 0 f).toInt64 * (stF g f e k).toInt64 * (g 1 f).toInt64 else (g 0 f).toInt64 * (stF g f e k).toInt64
def smF (g : Gg) (w : Bool) (e k : Int32) : Nat → Int64
  | 0 => 0
  | i + 1 => smF g w e k i + tmF g w i e k
def byF (g : Gg) (kd t : Int32) : Prop :=
  ¬ g 7 kd.toNatClampNeg = 0 ∧ (t < g 5 (8 * kd.toNatClampNeg) ∨ g 5 (8 * kd.toNatClampNeg + (g 7 kd.toNatClampNeg).toNatClampNeg - 1) < t)
noncomputable def fbF (g : Gg) (e k : Int32) : Nat → Nat → Int32
  | 0, _ => -1
  | m + 1, i => @ite _ (byF g (g 2 i) (wkF g i e k)) (Classical.propDecidable _) (nI i) (fbF g e k m (i + 1))
def arF (g : Gg) : Nat → Int32
  | 0 => 0
  | i + 1 => arF g i + g 0 i
/-- halving -/
noncomputable def bsF (P : Int → Prop) : Nat → Int → Int → Int
  | 0, lo, _ => lo
  | n + 1, lo, hi => if lo < hi then @ite _ (P ((lo + hi) / 2)) (Classical.propDecidable _) (bsF P n lo ((lo + hi) / 2)) (bsF P n ((lo + hi) / 2 + 1) hi) else lo
noncomputable def blF (g : Gg) (n : Nat) (fo : Int64) (k : Int32) : Int32 :=
  if smF g false (iI 20000) k n < fo then -1000000 else iI (bsF (fun m => fo ≤ smF g false (iI m) k n) 32 (-20000) 20000)
/-- solving: 0 and the bend, 1 no balance, 2 the moment can't be -/
noncomputable def soE (g : Gg) (n : Nat) (fo mo : Int64) (lo : Int) : Int32 × Int :=
  if blF g n fo (iI lo) = -1000000 then (1, 0) else if smF g true (blF g n fo (iI lo)) (iI lo) n < mo then (2, 0) else (0, lo)
noncomputable def soF (g : Gg) (n : Nat) (fo mo : Int64) : Nat → Int → Int → Int32 × Int
  | 0, lo, _ => soE g n fo mo lo
  | m + 1, lo, hi => if lo < hi then
      (if blF g n fo (iI ((lo + hi) / 2)) = -1000000 then (1, 0)
       else if mo ≤ smF g true (blF g n fo (iI ((lo + hi) / 2))) (iI ((lo + hi) / 2)) n then soF g n fo mo m lo ((lo + hi) / 2)
       else soF g n fo mo m ((lo + hi) / 2 + 1) hi)
    else soE g n fo mo lo
noncomputable def slF (g : Gg) (n : Nat) (fo mo : Int64) : Int32 × Int := soF g n fo mo 32 (-20000) 20000
noncomputable def cvF (g : Gg) (n : Nat) (fo : Int64) (b : Int32) : Int64 :=
  if blF g n fo b = -1000000 then -4611686018427387904 else smF g true (blF g n fo b) b n
noncomputable def laF (g : Gg) (n : Nat) (fo : Int64) (st : Int32) : Nat → Nat → Int32
  | 0, _ => -1
  | m + 1, i => if blF g n fo (nI i * st) = -1000000 then -1
      else if fbF g (blF g n fo (nI i * st)) (nI i * st) n 0 = -1 then laF g n fo st m (i + 1) else nI i
def setG (g : Gg) (i k : Nat) (x : Int32) : Gg := fun j => if j = i then upd (g i) k x else g j
def layG (g : Gg) (n : Nat) (a at_ kd : Int32) : Gg := setG (setG (setG (setG (setG g 0 n a) 1 n at_) 2 n kd) 3 n 0) 4 n 100
/-- the answer, and the last area that was tried -/
noncomputable def neF (g : Gg) (n : Nat) (at_ kd st : Int32) (fo mo : Int64) : Nat → Nat → Int32 → Int32 × Int32
  | 0, _, a => (-1, a)
  | m + 1, i, _ => if (slF (layG g n (nI i * st) at_ kd) (n + 1) fo mo).1 = 0 then (nI i * st, nI i * st) else neF g n at_ kd st fo mo m (i + 1) (nI i * st)
/-- what always holds of the rows -/
def InvG (g : Gg) : Prop :=
  (∀ i, i < 41 → vp_in (g 2 i) 4) ∧ (∀ i, i < 41 → -2000 ≤ (g 1 i).toInt ∧ (g 1 i).toInt ≤ 2000) ∧ (∀ i, i < 41 → -30000 ≤ (g 3 i).toInt ∧ (g 3 i).toInt ≤ 30000) ∧
  (∀ k, k < 4 → 0 ≤ (g 8 k).toInt ∧ (g 8 k).toInt ≤ 500) ∧ (∀ k, k < 4 → -5000 ≤ (g 9 k).toInt ∧ (g 9 k).toInt ≤ 5000) ∧ (∀ k, k < 4 → vp_in (g 7 k) 9) ∧
  (∀ j, j < 32 → -30000 ≤ (g 5 j).toInt ∧ (g 5 j).toInt ≤ 30000) ∧
  (∀ k i, k < 4 → i + 1 < (g 7 k).toNatClampNeg → (g 5 (8 * k + i)).toInt < (g 5 (8 * k + i + 1)).toInt)
/-- the state: rows, number of fibres, plane at hand (0, 1), E, K, force, moment -/
abbrev St : Type := Gg × Nat × Int32 × Int32 × Int32 × Int64 × Int64
abbrev rg (v : Int32) (a b : Int) : Prop := a ≤ v.toInt ∧ v.toInt ≤ b
def fibF (st : St) (a at_ kd : Int32) : Int32 × St :=
  if rg a 0 100000 ∧ rg at_ (-2000) 2000 ∧ rg kd 0 3 ∧ st.2.1 < 40 then (nI st.2.1, (layG st.1 st.2.1 a at_ kd, st.2.1 + 1, 0, st.2.2.2)) else (-1, st)
def poC (g : Gg) (kd x y : Int32) : Prop := rg kd 0 3 ∧ rg x (-30000) 30000 ∧ rg y (-1000000) 1000000 ∧ (g 7 kd.toNatClampNeg).toNatClampNeg < 8 ∧
  ¬ (0 < (g 7 kd.toNatClampNeg).toNatClampNeg ∧ (x ≤ g 5 (8 * kd.toNatClampNeg + (g 7 kd.toNatClampNeg).toNatClampNeg - 1) ∨ y < g 6 (8 * kd.toNatClampNeg + (g 7 kd.toNatClampNeg).toNatClampNeg - 1)))
def ptG (g : Gg) (k p : Nat) (x y : Int32) : Gg := setG (setG (setG g 5 (8 * k + p) x) 6 (8 * k + p) y) 7 k (nI (p + 1))
noncomputable def poiF (st : St) (kd x y : Int32) : Int32 × St :=
  @ite _ (poC st.1 kd x y) (Classical.propDecidable _) (1, (ptG st.1 kd.toNatClampNeg (st.1 7 kd.toNatClampNeg).toNatClampNeg x y, st.2.1, 0, st.2.2.2)) (0, st)
def borF (st : St) (f x : Int32) : Int32 × St := if rg f 0 (st.2.1 - 1) ∧ rg x (-30000) 30000 then (1, (setG st.1 3 f.toNatClampNeg x, st.2.1, 0, st.2.2.2)) else (0, st)
def creF (st : St) (kd x : Int32) : Int32 × St := if rg kd 0 3 ∧ rg x 0 500 then (1, (setG st.1 8 kd.toNatClampNeg x, st.2.1, 0, st.2.2.2)) else (0, st)
def shrF (st : St) (kd x : Int32) : Int32 × St := if rg kd 0 3 ∧ rg x (-5000) 5000 then (1, (setG st.1 9 kd.toNatClampNeg x, st.2.1, 0, st.2.2.2)) else (0, st)
def keeF (st : St) (f x : Int32) : Int32 × St := if rg f 0 (st.2.1 - 1) ∧ rg x 0 100 then (1, (setG st.1 4 f.toNatClampNeg x, st.2.1, 0, st.2.2.2)) else (0, st)
def ofF (g : Gg) (n : Nat) (e k w : Int32) : Int64 := if rg e (-20000) 20000 ∧ rg k (-20000) 20000 ∧ (w = 0 ∨ w = 1) then smF g (decide (w = 1)) e k n else -4611686018427387904
noncomputable def balF (g : Gg) (n : Nat) (fo : Int64) (k : Int32) : Int32 := if rg k (-20000) 20000 then blF g n fo k else -1000000
noncomputable def runF (st : St) (fo mo : Int64) : Int32 × St :=
  if (slF st.1 st.2.1 fo mo).1 = 0 then (0, (st.1, st.2.1, 1, blF st.1 st.2.1 fo (iI (slF st.1 st.2.1 fo mo).2), iI (slF st.1 st.2.1 fo mo).2, fo, mo)) else ((slF st.1 st.2.1 fo mo).1, st)
noncomputable def tolF (g : Gg) (n : Nat) (hs pe pk w : Int32) : Int32 := if hs = 0 then -1 else if w = 0 then pe else if w = 1 then pk else if w = 2 then fbF g pe pk n 0 else -1
def resF (g : Gg) (n : Nat) (hs pe pk : Int32) (fo mo : Int64) (w : Int32) : Int64 :=
  if hs = 0 then -4611686018427387904 else if w = 0 then smF g false pe pk n - fo else if w = 1 then smF g true pe pk n - mo else -4611686018427387904
def inF (g : Gg) (hs pe pk f w : Int32) : Int32 := if hs = 0 then -1000000 else if w = 0 then wkF g f.toNatClampNeg pe pk else if w = 1 then stF g f.toNatClampNeg pe pk else -1000000
noncomputable def curF (g : Gg) (n : Nat) (fo : Int64) (st k : Int32) : Int64 := if rg st 1 1000 ∧ rg k 0 20 then cvF g n fo (k * st) else -4611686018427387904
noncomputable def lasF (g : Gg) (n : Nat) (fo : Int64) (st : Int32) : Int32 := if rg st 1 1000 then laF g n fo st 21 0 else -1
noncomputable def nedF (s : St) (at_ kd st : Int32) (fo mo : Int64) : Int32 × St :=
  if rg at_ (-2000) 2000 ∧ rg kd 0 3 ∧ rg st 1 5000 then ((neF s.1 s.2.1 at_ kd st fo mo 21 0 0).1, (layG s.1 s.2.1 (neF s.1 s.2.1 at_ kd st fo mo 21 0 0).2 at_ kd, s.2)) else (-1, s)
def couF (g : Gg) (n : Nat) (w : Int32) : Int32 := if w = 0 then nI n else if w = 1 then arF g n else if rg w 2 5 then g 7 (w.toNatClampNeg - 2) else -1
def InvS (st : St) : Prop := InvG st.1 ∧ st.2.1 ≤ 40 ∧ (st.2.2.1 = 0 ∨ (st.2.2.1 = 1 ∧ rg st.2.2.2.1 (-20000) 20000 ∧ rg st.2.2.2.2.1 (-20000) 20000))
