/-! the reference's cells and what is read off them -/
abbrev MK : Type := KF × KF × KF × KF × KF × KF × KF × KF × KF × KF × Nat
abbrev mKd (K : MK) : KF := K.1
abbrev mPc (K : MK) : KF := K.2.1
abbrev mSd (K : MK) : KF := K.2.2.1
abbrev mFr (K : MK) : KF := K.2.2.2.1
abbrev mTo (K : MK) : KF := K.2.2.2.2.1
abbrev mNu (K : MK) : KF := K.2.2.2.2.2.1
abbrev mAn (K : MK) : KF := K.2.2.2.2.2.2.1
abbrev mLi (K : MK) : KF := K.2.2.2.2.2.2.2.1
abbrev mWd (K : MK) : KF := K.2.2.2.2.2.2.2.2.1
abbrev mOp (K : MK) : KF := K.2.2.2.2.2.2.2.2.2.1
abbrev mN (K : MK) : Nat := K.2.2.2.2.2.2.2.2.2.2
abbrev MS : Type := MK × RS × NS × (Nat → Bool) × Nat × Int32
abbrev sK (M : MS) : MK := M.1
abbrev sR (M : MS) : RS := M.2.1
abbrev sN (M : MS) : NS := M.2.2.1
abbrev sW (M : MS) : Nat → Bool := M.2.2.2.1
abbrev sC (M : MS) : Nat := M.2.2.2.2.1
abbrev sE (M : MS) : Int32 := M.2.2.2.2.2
abbrev wM (a : Nat → Nat) (cI cZ : ClassId) (M : MS) : va_W :=
  [(a 0, .inr (4, [.int (sE M), .int (nI (sC M)), .int (nI (mN (sK M))), .ref (a 1), .ref (a 2), .ref (a 3), .ref (a 4), .ref (a 5), .ref (a 6), .ref (a 7), .ref (a 8), .ref (a 9), .ref (a 10), .ref (a 11), .ref (a 12), .ref (a 13), .int (nI (nT (sN M))), .ref (a 14)])),
   (a 1, .inl (cI, 100, .inl (mKd (sK M)))), (a 2, .inl (cI, 100, .inl (mPc (sK M)))), (a 3, .inl (cI, 100, .inl (mSd (sK M)))), (a 4, .inl (cI, 100, .inl (mFr (sK M)))), (a 5, .inl (cI, 100, .inl (mTo (sK M)))),
   (a 6, .inl (cI, 100, .inl (mNu (sK M)))), (a 7, .inl (cI, 100, .inl (mAn (sK M)))), (a 8, .inl (cI, 100, .inl (mLi (sK M)))), (a 9, .inl (cI, 100, .inl (mWd (sK M)))), (a 10, .inl (cZ, 20, .inl (mOp (sK M)))),
   (a 11, .inl (cI, 10, .inl (nF (rL (sR M))))), (a 12, .inl (cI, 120, .inl (nF (rP (sR M))))), (a 13, .inl (cZ, 120, .inl (bF (sW M)))), (a 14, .inl (cI, 500, .inl (nRw (sN M))))]
def mOk (K : MK) : Prop := mN K ≤ 100 ∧ (∀ i, i < 20 → mOp K i = 0 ∨ mOp K i = 1) ∧
  ∀ c, c < mN K → (mKd K c = nI 2 → ∃ i, i < 20 ∧ mNu K c = nI i) ∧ (mKd K c = nI 4 → ¬ mNu K c / nI 100 = 0)
def holdsM (K : MK) (c : Nat) (t : Int32) : Bool :=
  if t < mFr K c then false else if (¬ mLi K c = (-1 : Int32) ∧ ¬ t < mLi K c) then false else
  if mKd K c = nI 2 then decide (mOp K (mNu K c).toNatClampNeg = 1) else if mKd K c = nI 3 then true else
  if mTo K c ≤ t then false else if (mKd K c = nI 1 ∧ ¬ mAn K c = nI 1) then false else
  if mKd K c = nI 4 then !decide (rI (mNu K c) (nI 100) ≤ rI (t - mFr K c) (mNu K c / nI 100)) else true
def isOnM (K : MK) (c : Nat) (p s : Int32) : Bool := decide (mPc K c = p) && (decide (mSd K c = nI 3) || decide (mSd K c = s))
def isClosedM (K : MK) (p s t : Int32) : Bool := anyN (fun c => !decide (mKd K c = nI 5) && (isOnM K c p s && holdsM K c t)) (mN K)
def endM (K : MK) (c : Nat) : Int32 := if mLi K c = (-1 : Int32) then (if mKd K c = nI 2 ∨ mKd K c = nI 3 then nI 1000000 else mTo K c) else mLi K c
def inI (v lo hi : Int32) : Bool := !decide (v < lo) && !decide (hi < v)
def numM (k x : Int32) : Bool := if k = nI 4 then (inI (x / nI 100) (nI 1) (nI 99) && (!decide (x < 0) && !decide (x / nI 100 < rI x (nI 100)))) else (!decide (k = nI 5) || inI x (nI 1) (nI 99))
