/-! tests of arguments -/
theorem inI_lo {v lo hi : Int32} (h : v < lo) : inI v lo hi = false := by unfold inI; rw [decide_eq_true h]; rfl
theorem inI_hi {v lo hi : Int32} (h : hi < v) : inI v lo hi = false := by unfold inI; rw [decide_eq_true h, Bool.not_true, Bool.and_false]
theorem inI_t {v lo hi : Int32} (h1 : ¬ v < lo) (h2 : ¬ hi < v) : inI v lo hi = true := by unfold inI; rw [decide_eq_false h1, decide_eq_false h2]; rfl
theorem lt_sI {v : Int32} {n : Nat} (hn : n + 1 < 2 ^ 31) : v < nI (n + 1) ↔ ¬ nI n < v := by
  rw [Int32.lt_iff_toInt_lt, Int32.lt_iff_toInt_lt, nI_toInt hn, nI_toInt (by omega)]; omega
theorem le_sI {v : Int32} {n : Nat} (hn : n + 1 < 2 ^ 31) : nI (n + 1) ≤ v ↔ nI n < v := by
  rw [Int32.le_iff_toInt_le, Int32.lt_iff_toInt_lt, nI_toInt hn, nI_toInt (by omega)]; omega
theorem nlt_le {v w : Int32} (h : ¬ w < v) : v ≤ w := Int32.not_lt.mp h
theorem div_pos {x : Int32} (h : inI (x / nI 100) (nI 1) (nI 99) = true) : ¬ x < 0 := by
  rw [inI_iff] at h
  intro hx
  rw [Int32.lt_iff_toInt_lt] at hx
  have e0 : ((0 : Int32)).toInt = 0 := rfl
  rw [e0] at hx
  have e1 : (x / nI 100).toInt = (x.toInt.tdiv (nI 100).toInt).bmod (2 ^ 32) := Int32.toInt_div x (nI 100)
  rw [nI_toInt (by decide)] at e1
  have h1 : (nI 1).toInt = 1 := rfl
  rw [h1] at h
  have hm := Int32.le_toInt x
  have h9 : x.toInt.tdiv ((100 : Nat) : Int) = -((-x.toInt) / 100) := by
    rw [← Int.tdiv_eq_ediv_of_nonneg (a := -x.toInt) (b := 100) (by omega), Int.neg_tdiv, Int.neg_neg]
    rfl
  rw [h9] at e1
  rw [Int.bmod_eq_of_le (by omega) (by omega)] at e1
  omega
theorem tmt_eq (x : Int32) : (inI (x / nI 100) (nI 1) (nI 99) && !decide (x / nI 100 < rI x (nI 100))) = numM (nI 4) x := by
  rw [numM, if_pos rfl]
  cases h : inI (x / nI 100) (nI 1) (nI 99) with
  | false => rfl
  | true => rw [decide_eq_false (div_pos h)]; rfl
theorem has_eq {i : Int32} {n : Nat} (hn : n ≤ 100) : (!decide (i < 0) && !decide (nI n ≤ i)) = inI i (nI 0) (nI n - nI 1) := by
  rw [Bool.eq_iff_iff, inI_iff, Bool.and_eq_true, Bool.not_eq_true', Bool.not_eq_true', decide_eq_false_iff_not, decide_eq_false_iff_not, Int32.lt_iff_toInt_lt, Int32.le_iff_toInt_le, nI_toInt (by omega), nI_toInt (by decide), pk_sub_toInt (by omega) (by decide)]
  have e0 : ((0 : Int32)).toInt = 0 := rfl
  rw [e0]
  omega
abbrev bKi (k x : Int32) : Bool := !inI k (nI 0) (nI 5) || (decide (k = nI 2) && !inI x (nI 0) (nI 19))
abbrev bEn (k a b : Int32) : Bool := bEnd k && (decide (b ≤ a) || decide (nI 99999 < b))
theorem in12 {s : Int32} : inI s (nI 1) (nI 2) = (decide (s = nI 1) || decide (s = nI 2)) := by
  rw [Bool.eq_iff_iff, inI_iff, Bool.or_eq_true, decide_eq_true_eq, decide_eq_true_eq, ← Int32.toInt_inj, ← Int32.toInt_inj, nI_toInt (by decide), nI_toInt (by decide)]
  omega
