/-! tick, minutes, opens of the class -/
def tkS (C : CS) : Nat → CS × Int32
  | 0 => (C, nextK (cK C) (nI (cT C)) (kN (cK C)))
  | k + 1 => if nI (cT (tkS C k).1 + 1) < (tkS C k).2 then (setCT (tkS C k).1 (cT (tkS C k).1 + 1), (tkS C k).2)
      else (tellC (setCT (tkS C k).1 (cT (tkS C k).1 + 1)), nextK (cK (tkS C k).1) (nI (cT (tkS C k).1 + 1)) (kN (cK (tkS C k).1)))
theorem tkS_lt {C : CS} {k : Nat} (h : nI (cT (tkS C k).1 + 1) < (tkS C k).2) : tkS C (k + 1) = (setCT (tkS C k).1 (cT (tkS C k).1 + 1), (tkS C k).2) := by rw [tkS, if_pos h]
theorem tkS_ge {C : CS} {k : Nat} (h : ¬ nI (cT (tkS C k).1 + 1) < (tkS C k).2) : tkS C (k + 1) = (tellC (setCT (tkS C k).1 (cT (tkS C k).1 + 1)), nextK (cK (tkS C k).1) (nI (cT (tkS C k).1 + 1)) (kN (cK (tkS C k).1))) := by rw [tkS, if_neg h]
theorem tkS_K (C : CS) (k : Nat) : cK (tkS C k).1 = cK C ∧ cR (tkS C k).1 = cR C ∧ cT (tkS C k).1 = cT C + k ∧ nT (cN (tkS C k).1) ≤ nT (cN C) + 1200 * k := by
  induction k with
  | zero => exact ⟨rfl, rfl, rfl, Nat.le_refl _⟩
  | succ k ih =>
    obtain ⟨h1, h2, h3, h4⟩ := ih
    by_cases h : nI (cT (tkS C k).1 + 1) < (tkS C k).2
    · rw [tkS_lt h]
      refine ⟨h1, h2, ?_, ?_⟩
      · show cT (tkS C k).1 + 1 = cT C + (k + 1); omega
      · show nT (cN (tkS C k).1) ≤ nT (cN C) + 1200 * (k + 1); omega
    · rw [tkS_ge h]
      refine ⟨h1, h2, ?_, ?_⟩
      · show cT (tkS C k).1 + 1 = cT C + (k + 1); omega
      · have h6 := (lookN_le (cR (tkS C k).1) (cW (tkS C k).1) (clB (cK (tkS C k).1) (cT (tkS C k).1 + 1)) (nI (cT (tkS C k).1 + 1)) (cN (tkS C k).1) 120).2
        refine Nat.le_trans h6 ?_
        clear h6
        generalize nT (cN (tkS C k).1) = z at *
        omega
abbrev bTk (t : Nat) (v : Int32) : Bool := !inI v (nI 1) (nI 2000) || decide (nI 99999 - nI t < v)
def tickCr (C : CS) (v : Int32) : Int32 := nI (nT (cN (tkS C (ix v)).1)) - nI (nT (cN C))
def minCr (C : CS) (p s a b : Int32) : Int32 := nI (sumN (fun k => closedK (cK C) (plI p s) (nI k)) (ix a) (ix b - ix a))
def opCr (C : CS) (p s t : Int32) : Int32 := opnN (fun k => closedK (cK C) (plI p s) (nI k)) (ix t) (min 2000 (100000 - ix t))
/-- nothing changes on a side before the next change -/
def segOn (S : KS) : Prop := ∀ pl t m : Nat, pl < 120 → t ≤ m → m < 100000 → nI m < nextOnK S pl (nI t) (kN S) → closedK S pl (nI m) = closedK S pl (nI t)
theorem mnI_min {a b : Nat} (ha : a < 2 ^ 31) (hb : b < 2 ^ 31) : mnI (nI a) (nI b) = nI (min a b) := by
  by_cases h : b < a
  · show (if nI b < nI a then nI b else nI a) = _
    rw [if_pos (nI_lt h ha), Nat.min_eq_right (by omega)]
  · show (if nI b < nI a then nI b else nI a) = _
    rw [if_neg (nI_nlt (by omega) hb), Nat.min_eq_left (by omega)]
theorem tkS_0 (C : CS) : (C, nextK (cK C) (nI (cT C)) (kN (cK C))) = tkS C 0 := by rw [tkS]
theorem tkS_l {C Ck : CS} {ch : Int32} {k : Nat} (h : (Ck, ch) = tkS C k) (h2 : nI (cT Ck + 1) < ch) : (setCT Ck (cT Ck + 1), ch) = tkS C (k + 1) := by
  rw [tkS, ← h, if_pos h2]
theorem tkS_g {C Ck : CS} {ch : Int32} {k : Nat} (h : (Ck, ch) = tkS C k) (h2 : ¬ nI (cT Ck + 1) < ch) : (tellC (setCT Ck (cT Ck + 1)), nextK (cK Ck) (nI (cT Ck + 1)) (kN (cK Ck))) = tkS C (k + 1) := by
  rw [tkS, ← h, if_neg h2]
