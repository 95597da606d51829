/-! behind i places of tellChanges -/
def tellCi (C : CS) (i : Nat) : CS := (cK C, cR C, lookN (cR C) (cW C) (clB (cK C) (cT C)) (nI (cT C)) (cN C) i, toldB (cW C) (clB (cK C) (cT C)) i, clB (cK C) (cT C), cT C)
def tellCb (C : CS) (i : Nat) : CS := (cK C, cR C, lookN (cR C) (cW C) (clB (cK C) (cT C)) (nI (cT C)) (cN C) i, updB (toldB (cW C) (clB (cK C) (cT C)) i) i (clB (cK C) (cT C) i), clB (cK C) (cT C), cT C)
theorem tellCi_e {C : CS} {i : Nat} (h : bI (cW (tellCi C i) i) = bI (cM (tellCi C i) i)) : tellCi C i = tellCi C (i + 1) := by
  have h1 : toldB (cW C) (clB (cK C) (cT C)) i i = clB (cK C) (cT C) i := bI_inj.mp h
  rw [toldB_at] at h1
  unfold tellCi
  rw [← toldB_e h1, lookN, if_pos h1]
theorem tellCi_n {C : CS} {i : Nat} (h : ¬ bI (cW (tellCi C i) i) = bI (cM (tellCi C i) i)) : setCN (tellCb C i) (tellN (cR (tellCb C i)) i (cM (tellCb C i) i) (nI (cT (tellCb C i))) (cN (tellCb C i)) 10) = tellCi C (i + 1) := by
  have h1 : ¬ cW C i = clB (cK C) (cT C) i := fun z => h (bI_inj.mpr (by show toldB (cW C) (clB (cK C) (cT C)) i i = _; rw [toldB_at]; exact z))
  unfold tellCi
  rw [← toldB_s, lookN, if_neg h1]
  rfl
theorem tellCi_0 (C : CS) : setCM C (clB (cK C) (cT C)) = tellCi C 0 := rfl
theorem tellCi_120 (C : CS) : tellCi C 120 = tellC C := rfl
