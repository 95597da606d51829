/-! the reference's calls that write -/
abbrev bIn (i : Int32) : Bool := !inI i (nI 0) (nI 19)
abbrev bCl (n : Nat) (i : Int32) : Bool := !inI i (nI 0) (nI n - nI 1)
def opM (K : MK) (i : Nat) (v : Int32) : MK := (mKd K, mPc K, mSd K, mFr K, mTo K, mNu K, mAn K, mLi K, mWd K, upd (mOp K) i v, mN K)
def anM (K : MK) (c : Nat) (v : Int32) : MK := (mKd K, mPc K, mSd K, mFr K, mTo K, mNu K, upd (mAn K) c v, mLi K, mWd K, mOp K, mN K)
def liM (K : MK) (c : Nat) (v : Int32) : MK := (mKd K, mPc K, mSd K, mFr K, mTo K, mNu K, mAn K, upd (mLi K) c v, mWd K, mOp K, mN K)
def wdM (K : MK) (c : Nat) (v : Int32) : MK := (mKd K, mPc K, mSd K, mFr K, mTo K, mNu K, mAn K, mLi K, upd (mWd K) c v, mOp K, mN K)
def adM (K : MK) (k p s a b x : Int32) : MK := (upd (mKd K) (mN K) k, upd (mPc K) (mN K) p, upd (mSd K) (mN K) s, upd (mFr K) (mN K) a, upd (mTo K) (mN K) b, upd (mNu K) (mN K) x, upd (mAn K) (mN K) (-1 : Int32), upd (mLi K) (mN K) (-1 : Int32), upd (mWd K) (mN K) (-1 : Int32), mOp K, mN K + 1)
def setK (M : MS) (K : MK) (e : Int32) : MS := (K, sR M, sN M, sW M, sC M, e)
def setR (M : MS) (R : RS) (e : Int32) : MS := (sK M, R, sN M, sW M, sC M, e)
theorem opM_ok {K : MK} {i : Nat} {b : Bool} (h : mOk K) : mOk (opM K i (bI b)) := by
  refine ⟨h.1, fun j hj => ?_, h.2.2⟩
  show upd (mOp K) i (bI b) j = 0 ∨ upd (mOp K) i (bI b) j = 1
  by_cases e : j = i
  · rw [e, pk_us]; cases b
    · exact Or.inl rfl
    · exact Or.inr rfl
  · rw [pk_un e]; exact h.2.1 j hj
theorem adM_ok {K : MK} {k p s a b x : Int32} (h : mOk K) (hn : mN K < 100) (h2 : k = nI 2 → inI x (nI 0) (nI 19) = true) (h4 : k = nI 4 → ¬ x / nI 100 = 0) : mOk (adM K k p s a b x) := by
  refine ⟨by show mN K + 1 ≤ 100; omega, h.2.1, fun c hc => ?_⟩
  have hc2 : c < mN K + 1 := hc
  show (upd (mKd K) (mN K) k c = nI 2 → ∃ i, i < 20 ∧ upd (mNu K) (mN K) x c = nI i) ∧ (upd (mKd K) (mN K) k c = nI 4 → ¬ upd (mNu K) (mN K) x c / nI 100 = 0)
  by_cases e : c = mN K
  · rw [e, pk_us, pk_us]
    refine ⟨fun z => ?_, h4⟩
    obtain ⟨e1, -, e2⟩ := ix_in (by decide) (by decide) (h2 z)
    exact ⟨ix x, by omega, e1⟩
  · rw [pk_un e, pk_un e]
    exact h.2.2 c (by omega)
def incMs (M : MS) (i : Int32) (b : Bool) : MS := if (bIn i || false || false) = true then setE M (thrM (bIn i) false false) else lookM (setK M (opM (sK M) (ix i) (bI b)) (thrM (bIn i) false false))
abbrev stA (K : MK) (i : Int32) : Bool := !bCl (mN K) i && !(decide (mKd K (ix i) = nI 1) && decide (mAn K (ix i) = (-1 : Int32)))
def ansMs (M : MS) (i : Int32) (b : Bool) : MS := if (bCl (mN (sK M)) i || stA (sK M) i || false) = true then setE M (thrM (bCl (mN (sK M)) i) (stA (sK M) i) false) else lookM (setK M (anM (sK M) (ix i) (bI b)) (thrM (bCl (mN (sK M)) i) (stA (sK M) i) false))
abbrev ovL (K : MK) (t : Nat) (i : Int32) : Bool := !bCl (mN K) i && (!decide (mLi K (ix i) = (-1 : Int32)) || (decide (mKd K (ix i) = nI 4) || (!decide (mKd K (ix i) = nI 2) && (!decide (mKd K (ix i) = nI 3) && !decide (nI t < mTo K (ix i))))))
abbrev bBy (v : Int32) : Bool := !inI v (nI 0) (nI 999)
abbrev keepW (K : MK) (i v : Int32) : Bool := decide (mKd K (ix i) = nI 3) && (decide (mWd K (ix i) = (-1 : Int32)) || decide (mWd K (ix i) = v))
abbrev thL (M : MS) (i v : Int32) : Int32 := thrM (bCl (mN (sK M)) i) (bBy v) (ovL (sK M) (sC M) i)
abbrev noL (M : MS) (i v : Int32) : Bool := bCl (mN (sK M)) i || bBy v || ovL (sK M) (sC M) i
def liftMs (M : MS) (i v : Int32) : MS := if noL M i v = true then setE M (thL M i v) else if keepW (sK M) i v = true then setK M (wdM (sK M) (ix i) v) (thL M i v) else lookM (setK M (liM (sK M) (ix i) (nI (sC M))) (thL M i v))
def liftMr (M : MS) (i v : Int32) : Int32 := if noL M i v = true then nI 0 else if keepW (sK M) i v = true then nI 0 else nI 1
theorem orF3 {a b c : Bool} (h : (a || b || c) = false) : a = false ∧ b = false ∧ c = false := by
  cases a <;> cases b <;> cases c <;> first | exact ⟨rfl, rfl, rfl⟩ | exact absurd h (by decide)
abbrev bUp (u p : Int32) : Bool := !inI u (nI 0) (nI 9) || (!decide (p = (-1 : Int32)) && !inI p (nI 0) (nI 59))
abbrev bSd (p s : Int32) : Bool := !decide (p = (-1 : Int32)) && !inI s (nI 1) (nI 2)
abbrev bFl (R : RS) (u p : Int32) : Bool := !bUp u p && (!decide (p = (-1 : Int32)) && decide (rL R (ix u) = 12))
abbrev thS (M : MS) (u p s : Int32) : Int32 := thrM (bUp u p) (bSd p s) (bFl (sR M) u p)
abbrev noS (M : MS) (u p s : Int32) : Bool := bUp u p || bSd p s || bFl (sR M) u p
def stepMs (M : MS) (u p s : Int32) : MS := if noS M u p s = true then setE M (thS M u p s) else if p = (-1 : Int32) then setR M (emptyR (sR M) (ix u)) (thS M u p s) else setR M (stepR (sR M) (ix u) (2 * ix p + ix s - 1)) (thS M u p s)
def stepMr (M : MS) (u p s : Int32) : Int32 := if noS M u p s = true then nI 0 else if p = (-1 : Int32) then nI 0 else nI (rL (sR M) (ix u) + 1)
abbrev bTi (t : Nat) (v : Int32) : Bool := !inI v (nI 1) (nI 2000) || !decide (nI t + v ≤ nI 99999)
def addC (M : MS) : MS := (sK M, sR M, sN M, sW M, sC M + 1, sE M)
def tickN (M : MS) : Nat → MS | 0 => M | n + 1 => lookM (addC (tickN M n))
def tickMs (M : MS) (v : Int32) : MS := if (bTi (sC M) v || false || false) = true then setE M (thrM (bTi (sC M) v) false false) else tickN (setE M (thrM (bTi (sC M) v) false false)) (ix v)
def tickMr (M : MS) (v : Int32) : Int32 := if (bTi (sC M) v || false || false) = true then nI 0 else nI (nT (sN (tickMs M v))) - nI (nT (sN M))
theorem tickN_K (M : MS) (n : Nat) : sK (tickN M n) = sK M ∧ sR (tickN M n) = sR M ∧ sC (tickN M n) = sC M + n ∧ sE (tickN M n) = sE M ∧ nT (sN (tickN M n)) ≤ nT (sN M) + 1200 * n := by
  induction n with
  | zero => exact ⟨rfl, rfl, rfl, rfl, Nat.le_refl _⟩
  | succ n ih =>
    obtain ⟨h1, h2, h3, h4, h5⟩ := ih
    refine ⟨h1, h2, ?_, h4, ?_⟩
    · show sC (tickN M n) + 1 = sC M + (n + 1); omega
    · have h6 := (lookN_le (sR (addC (tickN M n))) (sW (addC (tickN M n))) (clM (sK (addC (tickN M n))) (sC (addC (tickN M n)))) (nI (sC (addC (tickN M n)))) (sN (addC (tickN M n))) 120).2
      refine Nat.le_trans h6 ?_
      have h7 : nT (sN (addC (tickN M n))) = nT (sN (tickN M n)) := rfl
      rw [h7]
      clear h6 h7
      generalize nT (sN (tickN M n)) = z at *
      omega
abbrev bBad (k p x : Int32) : Bool := !inI k (nI 0) (nI 5) || (!inI p (nI 0) (nI 59) || (decide (k = nI 2) && !inI x (nI 0) (nI 19)))
abbrev bEnd (k : Int32) : Bool := !decide (k = nI 2) && !decide (k = nI 3)
abbrev bRng (k s a b x : Int32) : Bool := !inI s (nI 1) (nI 3) || (!inI a (nI 0) (nI 99999) || ((bEnd k && (!inI b (nI 0) (nI 99999) || decide (b ≤ a))) || !numM k x))
abbrev thC (M : MS) (k p s a b x : Int32) : Int32 := thrM (bBad k p x) (bRng k s a b x) (decide (mN (sK M) = 100))
abbrev noC (M : MS) (k p s a b x : Int32) : Bool := bBad k p x || bRng k s a b x || decide (mN (sK M) = 100)
def closMs (M : MS) (k p s a b x : Int32) : MS := if noC M k p s a b x = true then setE M (thC M k p s a b x) else lookM (setK M (adM (sK M) k p s a b x) (thC M k p s a b x))
def closMr (M : MS) (k p s a b x : Int32) : Int32 := if noC M k p s a b x = true then nI 0 else nI (mN (sK M))
theorem num4 {x : Int32} (h : numM (nI 4) x = true) : ¬ x / nI 100 = 0 := by
  rw [numM, if_pos rfl, Bool.and_eq_true, inI_iff] at h
  intro z
  rw [z] at h
  exact absurd h.1.1 (by decide)
theorem ix_lo {v : Int32} {n : Nat} (hn : n < 2 ^ 30) (h : inI v (loN n) (nI n - nI 1) = true) : v = nI (ix v) ∧ ix v < n ∧ n ≤ ix v + 100 := by
  rw [inI_iff, pk_sub_toInt (by omega) (by decide)] at h
  unfold loN at h
  by_cases c : nI n ≤ nI 100
  · rw [if_pos c, nI_toInt (by decide)] at h
    obtain ⟨e1, e2⟩ := ix_of (v := v) (by omega)
    have c2 := (nI_leI (by omega) (by decide)).mp c
    exact ⟨e1, by omega, by omega⟩
  · rw [if_neg c, pk_sub_toInt (by omega) (by decide)] at h
    have c2 : ¬ n ≤ 100 := fun z => c (nI_le z (by decide))
    obtain ⟨e1, e2⟩ := ix_of (v := v) (by omega)
    exact ⟨e1, by omega, by omega⟩
theorem bad_2 {k p x : Int32} (h : bBad k p x = false) (e : k = nI 2) : inI x (nI 0) (nI 19) = true := by
  have h2 := (Bool.or_eq_false_iff.mp (Bool.or_eq_false_iff.mp h).2).2
  rw [decide_eq_true e, Bool.true_and] at h2
  exact notF h2
theorem rng_4 {k s a b x : Int32} (h : bRng k s a b x = false) (e : k = nI 4) : ¬ x / nI 100 = 0 := by
  have h2 := notF (Bool.or_eq_false_iff.mp (Bool.or_eq_false_iff.mp (Bool.or_eq_false_iff.mp h).2).2).2
  rw [e] at h2
  exact num4 h2
