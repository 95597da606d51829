/-! the calls of the face -/
abbrev eIA : String := "java/lang/IllegalArgumentException"
abbrev eIO : String := "java/lang/IndexOutOfBoundsException"
abbrev eIS : String := "java/lang/IllegalStateException"
abbrev eUO : String := "java/lang/UnsupportedOperationException"
/-- what is thrown: by the first of three tests that fails -/
def fl3 (e1 e2 e3 : String) (a b c : Bool) : String → Prop := fun E => (E = e1 ∧ a = true) ∨ (E = e2 ∧ a = false ∧ b = true) ∨ (E = e3 ∧ a = false ∧ b = false ∧ c = true)
abbrev ok3 (a b c : Bool) : Prop := a = false ∧ b = false ∧ c = false
abbrev plI (p s : Int32) : Nat := 2 * ix p + (ix s - 1)
theorem plI_lt {p s : Int32} (h1 : bPc p = false) (h2 : inI s (nI 1) (nI 2) = true) : plI p s < 120 ∧ plI p s / 2 = ix p ∧ plI p s % 2 + 1 = ix s ∧ p = nI (ix p) ∧ s = nI (ix s) := by
  obtain ⟨e1, -, h3⟩ := ix_in (by decide) (by decide) (notF h1)
  obtain ⟨e2, h4, h5⟩ := ix_in (by decide) (by decide) h2
  refine ⟨?_, ?_, ?_, e1, e2⟩ <;> (unfold plI; omega)
theorem fl_place {p s t : Int32} {c : Bool} {E : String} (h : (E = eIA ∧ bPc p = true) ∨ (E = eIO ∧ bPc p = false ∧ inI s (nI 1) (nI 2) = false)) {b : Bool} (hb : inI s (nI 1) (nI 2) = false → b = true) : fl3 eIA eIO eIS (bPc p) b c E := by
  rcases h with ⟨e, h⟩ | ⟨e, h1, h2⟩
  · exact Or.inl ⟨e, h⟩
  · exact Or.inr (Or.inl ⟨e, h1, hb h2⟩)
def setCK (C : CS) (S : KS) : CS := (S, cR C, cN C, cW C, cM C, cT C)
def setCR (C : CS) (R : RS) : CS := (cK C, R, cN C, cW C, cM C, cT C)
def setCT (C : CS) (t : Nat) : CS := (cK C, cR C, cN C, cW C, cM C, t)
def cOk (C : CS) : Prop := kOk (cK C) ∧ rOk (cR C) ∧ nT (cN C) + 2401200 < 2 ^ 30
abbrev stK (K : KS) (i : Int32) : Bool := !(decide (kKd K (ix i) = nI 1) && decide (kAn K (ix i) = 0))
abbrev ovK (K : KS) (t : Nat) (i : Int32) : Bool := !(!decide (kKd K (ix i) = nI 4) && !decide (kEn K (ix i) ≤ nI t))
theorem incK_ok {K : KS} {i : Nat} {b : Bool} (h : kOk K) : kOk (incK K i (bI b)) := by
  refine ⟨h.1, fun j hj => ?_, h.2.2⟩
  show upd (kIc K) i (bI b) j = 0 ∨ upd (kIc K) i (bI b) j = 1
  by_cases e : j = i
  · rw [e, pk_us]; cases b
    · exact Or.inl rfl
    · exact Or.inr rfl
  · rw [pk_un e]; exact h.2.1 j hj
theorem addK_ok {K : KS} {k p s a b x : Int32} (h : kOk K) (hn : kN K < 100) (h2 : k = nI 2 → inI x (nI 0) (nI 19) = true) (h4 : k = nI 4 → ¬ x / nI 100 = 0) (hp : bPc p = false) : kOk (addK K k p s a b x) := by
  refine ⟨by show kN K + 1 ≤ 100; omega, h.2.1, fun c hc => ?_⟩
  have hc2 : c < kN K + 1 := hc
  show (upd (kKd K) (kN K) k c = nI 2 → ∃ i, i < 20 ∧ upd (kXs K) (kN K) x c = nI i) ∧ (upd (kKd K) (kN K) k c = nI 4 → ¬ upd (kXs K) (kN K) x c / nI 100 = 0) ∧ (∃ i, i < 60 ∧ upd (kPc K) (kN K) p c = nI i)
  by_cases e : c = kN K
  · rw [e, pk_us, pk_us, pk_us]
    refine ⟨fun z => ?_, h4, ?_⟩
    · obtain ⟨e1, -, e2⟩ := ix_in (by decide) (by decide) (h2 z)
      exact ⟨ix x, by omega, e1⟩
    · obtain ⟨e1, -, e2⟩ := ix_in (by decide) (by decide) (notF hp)
      exact ⟨ix p, by omega, e1⟩
  · rw [pk_un e, pk_un e, pk_un e]
    exact h.2.2 c (by omega)
theorem giveK_ok {K : KS} {c : Nat} {v : Int32} (h : kOk K) : kOk (giveK K c v) := by
  unfold giveK; split
  · exact h
  · exact h
theorem giveK_n {K : KS} {c : Nat} {v : Int32} : kN (giveK K c v) = kN K ∧ kEn (giveK K c v) = kEn K ∧ kKd (giveK K c v) = kKd K := by
  unfold giveK; split <;> exact ⟨rfl, rfl, rfl⟩
theorem bad_1 {k p x : Int32} (h : bKi k x = true) : bBad k p x = true := by
  unfold bKi at h; unfold bBad
  rcases Bool.or_eq_true_iff.mp h with h | h
  · rw [h]; rfl
  · rw [h, Bool.or_true, Bool.or_true]
theorem bad_p {k p x : Int32} (h : bPc p = true) : bBad k p x = true := by unfold bBad; unfold bPc at h; rw [h, Bool.true_or, Bool.or_true]
theorem bad_no {k p x : Int32} (h1 : bKi k x = false) (h2 : bPc p = false) : bBad k p x = false := by
  unfold bKi at h1; unfold bPc at h2; unfold bBad
  rw [Bool.or_eq_false_iff] at h1
  rw [h1.1, h1.2, h2]; rfl
theorem en_eq {k a b : Int32} (h : inI a (nI 0) (nI 99999) = true) : bEn k a b = (bEnd k && (!inI b (nI 0) (nI 99999) || decide (b ≤ a))) := by
  unfold bEn
  congr 1
  rw [Bool.eq_iff_iff, Bool.or_eq_true, Bool.or_eq_true, Bool.not_eq_true', decide_eq_true_eq, decide_eq_true_eq, ← Bool.not_eq_true, inI_iff, Int32.le_iff_toInt_le, Int32.lt_iff_toInt_lt]
  rw [inI_iff] at h
  have e1 := nI_toInt (n := 0) (by decide)
  have e2 := nI_toInt (n := 99999) (by decide)
  omega
theorem rng_s {k s a b x : Int32} (h : inI s (nI 1) (nI 3) = false) : bRng k s a b x = true := by unfold bRng; rw [h]; rfl
theorem rng_a {k s a b x : Int32} (h : inI a (nI 0) (nI 99999) = false) : bRng k s a b x = true := by unfold bRng; rw [h, Bool.not_false, Bool.true_or, Bool.or_true]
theorem rng_e {k s a b x : Int32} (h : inI a (nI 0) (nI 99999) = true) (h2 : bEn k a b = true) : bRng k s a b x = true := by unfold bRng; rw [en_eq h] at h2; rw [h2, Bool.true_or, Bool.or_true, Bool.or_true]
theorem rng_x {k s a b x : Int32} (h : numM k x = false) : bRng k s a b x = true := by unfold bRng; rw [h, Bool.not_false, Bool.or_true, Bool.or_true, Bool.or_true]
theorem rng_no {k s a b x : Int32} (h1 : inI s (nI 1) (nI 3) = true) (h2 : inI a (nI 0) (nI 99999) = true) (h3 : bEn k a b = false) (h4 : numM k x = true) : bRng k s a b x = false := by
  unfold bRng; rw [en_eq h2] at h3; rw [h1, h2, h3, h4]; rfl
def closC (C : CS) (k p s a b x : Int32) : CS := tellC (setCK C (addK (cK C) k p s a (if bEnd k then b else nI 100000) x))
def ansC (C : CS) (i : Int32) (b : Bool) : CS := tellC (setCK C (ansK (cK C) (ix i) (if b then nI 1 else nI 2)))
def incC (C : CS) (i : Int32) (b : Bool) : CS := tellC (setCK C (incK (cK C) (ix i) (bI b)))
def liftC (C : CS) (i v : Int32) : CS := if gaveK (cK C) (ix i) v = true then tellC (setCK C (endK (giveK (cK C) (ix i) v) (ix i) (nI (cT C)))) else setCK C (giveK (cK C) (ix i) v)
abbrev fuR (R : RS) (u p : Int32) : Bool := !decide (p = (-1 : Int32)) && decide (12 ≤ rL R (ix u))
def stepC (C : CS) (u p s : Int32) : CS := if p = (-1 : Int32) then setCR C (emptyR (cR C) (ix u)) else setCR C (stepR (cR C) (ix u) (plI p s))
def stepCr (C : CS) (u p : Int32) : Int32 := if p = (-1 : Int32) then nI 0 else nI (rL (cR C) (ix u) + 1)
def blkCr (C : CS) (u : Int32) : Int32 := nI (cntN (fun k => closedK (cK C) (rP (cR C) (ix u * 12 + k)) (nI (cT C))) (rL (cR C) (ix u)))
abbrev noK (n : Nat) (i w : Int32) : Bool := !(!decide (i < 0) && (!decide (nI n ≤ i) && !decide (i < nI n - nI 100))) || !inI w (nI 0) (nI 4)
