/-! routes, notices, the whole object -/
abbrev nF (f : Nat → Nat) : KF := fun j => nI (f j)
abbrev bF (f : Nat → Bool) : KF := fun j => bI (f j)
def updN (f : Nat → Nat) (k x : Nat) : Nat → Nat := fun j => if j = k then x else f j
def updB (f : Nat → Bool) (k : Nat) (x : Bool) : Nat → Bool := fun j => if j = k then x else f j
theorem nF_upd (f : Nat → Nat) (k x : Nat) : upd (nF f) k (nI x) = nF (updN f k x) := by
  funext j; unfold upd nF updN; by_cases h : j = k
  · rw [if_pos h, if_pos h]
  · rw [if_neg h, if_neg h]
theorem bF_upd (f : Nat → Bool) (k : Nat) (x : Bool) : upd (bF f) k (bI x) = bF (updB f k x) := by
  funext j; unfold upd bF updB; by_cases h : j = k
  · rw [if_pos h, if_pos h]
  · rw [if_neg h, if_neg h]
theorem bI_inj {x y : Bool} : bI x = bI y ↔ x = y := by cases x <;> cases y <;> decide
abbrev RS : Type := (Nat → Nat) × (Nat → Nat)
abbrev rP (R : RS) : Nat → Nat := R.1
abbrev rL (R : RS) : Nat → Nat := R.2
def rOk (R : RS) : Prop := ∀ u, u < 10 → rL R u ≤ 12 ∧ ∀ k, k < rL R u → rP R (u * 12 + k) < 120
abbrev NS : Type := KF × Nat
abbrev nRw (N : NS) : KF := N.1
abbrev nT (N : NS) : Nat := N.2
abbrev wR (b : Nat → Nat) (cI : ClassId) (R : RS) : va_W := [(b 0, .inr (2, [.ref (b 1), .ref (b 2)])), (b 1, .inl (cI, 120, .inl (nF (rP R)))), (b 2, .inl (cI, 10, .inl (nF (rL R))))]
abbrev wNt (b : Nat → Nat) (cI : ClassId) (N : NS) : va_W := [(b 0, .inr (1, [.ref (b 1), .int (nI (nT N))])), (b 1, .inl (cI, 500, .inl (nRw N)))]
def hasR (R : RS) (u pl : Nat) : Bool := anyN (fun k => decide (rP R (u * 12 + k) = pl)) (rL R u)
def stepR (R : RS) (u pl : Nat) : RS := (updN (rP R) (u * 12 + rL R u) pl, updN (rL R) u (rL R u + 1))
def emptyR (R : RS) (u : Nat) : RS := (rP R, updN (rL R) u 0)
abbrev fstT (t : Nat) : Nat := t % 100 * 5
def noteN (N : NS) (u pl : Nat) (b : Bool) (mm : Int32) : NS :=
  (upd (upd (upd (upd (upd (nRw N) (fstT (nT N)) (nI u)) (fstT (nT N) + 1) (nI (pl / 2))) (fstT (nT N) + 2) (nI (pl % 2 + 1))) (fstT (nT N) + 3) (bI b)) (fstT (nT N) + 4) mm, nT N + 1)
def tellN (R : RS) (pl : Nat) (b : Bool) (mm : Int32) (N : NS) : Nat → NS
  | 0 => N
  | u + 1 => if hasR R u pl then noteN (tellN R pl b mm N u) u pl b mm else tellN R pl b mm N u
def lookN (R : RS) (was now : Nat → Bool) (mm : Int32) (N : NS) : Nat → NS
  | 0 => N
  | i + 1 => if was i = now i then lookN R was now mm N i else tellN R i (now i) mm (lookN R was now mm N i) 10
theorem tellN_le (R : RS) (pl : Nat) (b : Bool) (mm : Int32) (N : NS) (u : Nat) : nT N ≤ nT (tellN R pl b mm N u) ∧ nT (tellN R pl b mm N u) ≤ nT N + u := by
  induction u with
  | zero => exact ⟨Nat.le_refl _, Nat.le_refl _⟩
  | succ u ih =>
    rw [tellN]
    by_cases h : hasR R u pl = true
    · rw [if_pos h]; show nT N ≤ nT (tellN R pl b mm N u) + 1 ∧ nT (tellN R pl b mm N u) + 1 ≤ nT N + (u + 1); omega
    · rw [if_neg h]; omega
theorem lookN_le (R : RS) (was now : Nat → Bool) (mm : Int32) (N : NS) (i : Nat) : nT N ≤ nT (lookN R was now mm N i) ∧ nT (lookN R was now mm N i) ≤ nT N + 10 * i := by
  induction i with
  | zero => exact ⟨Nat.le_refl _, Nat.le_refl _⟩
  | succ i ih =>
    rw [lookN]
    by_cases h : was i = now i
    · rw [if_pos h]; omega
    · rw [if_neg h]
      have h1 := tellN_le R i (now i) mm (lookN R was now mm N i) 10
      omega
theorem lookN_same (R : RS) (was now : Nat → Bool) (mm : Int32) (N : NS) (i : Nat) (h : ∀ j, j < i → was j = now j) : lookN R was now mm N i = N := by
  induction i with
  | zero => rfl
  | succ i ih => rw [lookN, if_pos (h i (by omega))]; exact ih (fun j hj => h j (by omega))
/-- told so far: now below i, was from i on -/
def toldB (was now : Nat → Bool) (i : Nat) : Nat → Bool := fun j => if j < i then now j else was j
theorem toldB_s (was now : Nat → Bool) (i : Nat) : updB (toldB was now i) i (now i) = toldB was now (i + 1) := by
  funext j; unfold updB toldB
  by_cases h : j = i
  · rw [if_pos h, if_pos (by omega), h]
  · rw [if_neg h]
    by_cases h2 : j < i
    · rw [if_pos h2, if_pos (by omega)]
    · rw [if_neg h2, if_neg (by omega)]
theorem toldB_e {was now : Nat → Bool} {i : Nat} (e : was i = now i) : toldB was now i = toldB was now (i + 1) := by
  funext j; unfold toldB
  by_cases h : j = i
  · subst h; rw [if_neg (by omega), if_pos (by omega), e]
  · by_cases h2 : j < i
    · rw [if_pos h2, if_pos (by omega)]
    · rw [if_neg h2, if_neg (by omega)]
theorem toldB_at (was now : Nat → Bool) (i : Nat) : toldB was now i i = was i := by unfold toldB; rw [if_neg (by omega)]
/-- the whole object's state: closures, routes, notices, told, marked, the clock -/
abbrev CS : Type := KS × RS × NS × (Nat → Bool) × (Nat → Bool) × Nat
abbrev cK (C : CS) : KS := C.1
abbrev cR (C : CS) : RS := C.2.1
abbrev cN (C : CS) : NS := C.2.2.1
abbrev cW (C : CS) : Nat → Bool := C.2.2.2.1
abbrev cM (C : CS) : Nat → Bool := C.2.2.2.2.1
abbrev cT (C : CS) : Nat := C.2.2.2.2.2
abbrev wC (a : Nat → Nat) (cI cZ : ClassId) (C : CS) : va_W :=
  [(a 17, .inr (3, [.ref (a 0), .ref (a 10), .ref (a 13), .ref (a 15), .ref (a 16), .int (nI (cT C))])),
   (a 0, .inr (0, [.ref (a 1), .ref (a 2), .ref (a 3), .ref (a 4), .ref (a 5), .ref (a 6), .ref (a 7), .ref (a 8), .ref (a 9), .int (nI (kN (cK C)))])),
   (a 1, .inl (cI, 100, .inl (kKd (cK C)))), (a 2, .inl (cI, 100, .inl (kPc (cK C)))), (a 3, .inl (cI, 100, .inl (kSd (cK C)))), (a 4, .inl (cI, 100, .inl (kSt (cK C)))), (a 5, .inl (cI, 100, .inl (kEn (cK C)))),
   (a 6, .inl (cI, 100, .inl (kXs (cK C)))), (a 7, .inl (cI, 100, .inl (kAn (cK C)))), (a 8, .inl (cI, 100, .inl (kWd (cK C)))), (a 9, .inl (cZ, 20, .inl (kIc (cK C)))),
   (a 10, .inr (2, [.ref (a 11), .ref (a 12)])), (a 11, .inl (cI, 120, .inl (nF (rP (cR C))))), (a 12, .inl (cI, 10, .inl (nF (rL (cR C))))),
   (a 13, .inr (1, [.ref (a 14), .int (nI (nT (cN C)))])), (a 14, .inl (cI, 500, .inl (nRw (cN C)))),
   (a 15, .inl (cZ, 120, .inl (bF (cW C)))), (a 16, .inl (cZ, 120, .inl (bF (cM C))))]
/-- what is closed at the minute t -/
abbrev clB (S : KS) (t : Nat) : Nat → Bool := fun pl => closedK S pl (nI t)
def setCN (C : CS) (N : NS) : CS := (cK C, cR C, N, cW C, cM C, cT C)
def setCM (C : CS) (f : Nat → Bool) : CS := (cK C, cR C, cN C, cW C, f, cT C)
/-- behind tellChanges -/
def tellC (C : CS) : CS := (cK C, cR C, lookN (cR C) (cW C) (clB (cK C) (cT C)) (nI (cT C)) (cN C) 120, toldB (cW C) (clB (cK C) (cT C)) 120, clB (cK C) (cT C), cT C)
