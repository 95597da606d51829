/-! the reference's calls, as functions -/
abbrev ix (i : Int32) : Nat := i.toNatClampNeg
theorem inI_iff {v lo hi : Int32} : inI v lo hi = true ↔ lo.toInt ≤ v.toInt ∧ v.toInt ≤ hi.toInt := by
  unfold inI
  simp only [Bool.and_eq_true, Bool.not_eq_true', decide_eq_false_iff_not, Int32.lt_iff_toInt_lt]
  omega
theorem ix_of {v : Int32} (h : 0 ≤ v.toInt) : v = nI (ix v) ∧ ((ix v : Nat) : Int) = v.toInt := by
  have h1 : ¬ v < 0 := by rw [Int32.lt_iff_toInt_lt]; show ¬ v.toInt < 0; omega
  obtain ⟨j, hj, e⟩ := nI_of h1
  subst e
  rw [ix, nI_clamp hj, nI_toInt hj]
  exact ⟨rfl, rfl⟩
theorem ix_in {v : Int32} {a n : Nat} (ha : a < 2 ^ 31) (hn : n < 2 ^ 31) (h : inI v (nI a) (nI n) = true) : v = nI (ix v) ∧ a ≤ ix v ∧ ix v ≤ n := by
  rw [inI_iff, nI_toInt ha, nI_toInt hn] at h
  obtain ⟨e1, e2⟩ := ix_of (v := v) (by omega)
  exact ⟨e1, by omega, by omega⟩
theorem ix_cl {v : Int32} {n : Nat} (hn : n ≤ 100) (h : inI v (nI 0) (nI n - nI 1) = true) : v = nI (ix v) ∧ ix v < n := by
  rw [inI_iff, nI_toInt (by decide), pk_sub_toInt (by omega) (by decide)] at h
  obtain ⟨e1, e2⟩ := ix_of (v := v) (by omega)
  exact ⟨e1, by omega⟩
abbrev bPc (p : Int32) : Bool := !inI p (nI 0) (nI 59)
abbrev bSt (s t : Int32) : Bool := !inI s (nI 1) (nI 2) || !inI t (nI 0) (nI 99999)
def closedMs (M : MS) (p s t : Int32) : MS := setE M (thrM (bPc p) (bSt s t) false)
def closedMr (M : MS) (p s t : Int32) : Int32 := if (bPc p || bSt s t || false) = true then nI 0 else bI (isClosedM (sK M) p s t)
/-- the first minute from k on, of n, at which it isn't closed -/
def opnN (P : Nat → Bool) : Nat → Nat → Int32 | _, 0 => -1 | k, n + 1 => if P k then opnN P (k + 1) n else nI k
def opensMr (M : MS) (p s t : Int32) : Int32 := if (bPc p || bSt s t || false) = true then nI 0 else opnN (fun k => isClosedM (sK M) p s (nI k)) (ix t) (min 2000 (100000 - ix t))
def sumN (P : Nat → Bool) (a : Nat) : Nat → Nat | 0 => 0 | n + 1 => sumN P a n + (if P (a + n) then 1 else 0)
theorem sumN_le (P : Nat → Bool) (a n : Nat) : sumN P a n ≤ n := by
  induction n with
  | zero => exact Nat.le_refl _
  | succ n ih => rw [sumN]; split <;> omega
abbrev bMi (s a b : Int32) : Bool := !inI s (nI 1) (nI 2) || (!inI a (nI 0) (nI 99999) || (!inI b (nI 0) (nI 99999) || (decide (b < a) || !decide (b - a ≤ nI 2000))))
def minMs (M : MS) (p s a b : Int32) : MS := setE M (thrM (bPc p) (bMi s a b) false)
def minMr (M : MS) (p s a b : Int32) : Int32 := if (bPc p || bMi s a b || false) = true then nI 0 else nI (sumN (fun k => isClosedM (sK M) p s (nI k)) (ix a) (ix b - ix a))
def percM (K : MK) (p s t : Int32) : Int32 := minN (fun c => decide (mKd K c = nI 5) && (isOnM K c p s && holdsM K c t)) (mNu K) (mN K)
def speedMr (M : MS) (p s t : Int32) : Int32 := if (bPc p || bSt s t || false) = true then nI 0 else percM (sK M) p s t
abbrev bRe (s t i : Int32) : Bool := !inI s (nI 1) (nI 2) || (!inI t (nI 0) (nI 99999) || decide (i < 0))
def aheadM (K : MK) (d c : Nat) : Bool := if endM K d < endM K c then true else decide (endM K d = endM K c) && decide (d < c)
def rankM (K : MK) (c : Nat) (p s t : Int32) : Nat := cntN (fun d => isOnM K d p s && (holdsM K d t && aheadM K d c)) (mN K)
def holdingM (K : MK) (p s t i : Int32) : Int32 := fstN (fun c => isOnM K c p s && (holdsM K c t && decide (nI (rankM K c p s t) = i))) 0 (mN K)
def reasMs (M : MS) (p s t i : Int32) : MS := setE M (thrM (bPc p) (bRe s t i) false)
def reasMr (M : MS) (p s t i : Int32) : Int32 := if (bPc p || bRe s t i || false) = true then nI 0 else holdingM (sK M) p s t i
abbrev bUn (u : Int32) : Bool := !inI u (nI 0) (nI 9)
def blkMs (M : MS) (u : Int32) : MS := setE M (thrM (bUn u) false false)
def plB (M : MS) (pl : Nat) : Bool := isClosedM (sK M) (nI (pl / 2)) (nI (pl % 2 + 1)) (nI (sC M))
def blkMr (M : MS) (u : Int32) : Int32 := if (bUn u || false || false) = true then nI 0 else nI (cntN (fun k => plB M (rP (sR M) (ix u * 12 + k))) (rL (sR M) (ix u)))
abbrev loN (n : Nat) : Int32 := if nI n ≤ nI 100 then nI 0 else nI n - nI 100
abbrev bNo (n : Nat) (i w : Int32) : Bool := !inI i (loN n) (nI n - nI 1) || !inI w (nI 0) (nI 4)
def notMs (M : MS) (i w : Int32) : MS := setE M (thrM (bNo (nT (sN M)) i w) false false)
def notMr (M : MS) (i w : Int32) : Int32 := if (bNo (nT (sN M)) i w || false || false) = true then nI 0 else nRw (sN M) (fstT (ix i) + ix w)
theorem orF {a b : Bool} (h : (a || b || false) = false) : a = false ∧ b = false := by
  cases a <;> cases b <;> first | exact ⟨rfl, rfl⟩ | exact absurd h (by decide)
theorem notF {a : Bool} (h : (!a) = false) : a = true := by cases a with | true => rfl | false => exact absurd h (by decide)
