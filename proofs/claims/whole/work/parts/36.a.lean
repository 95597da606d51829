/-! the reference's look() -/
abbrev clM (K : MK) (t : Nat) : Nat → Bool := fun pl => isClosedM K (nI (pl / 2)) (nI (pl % 2 + 1)) (nI t)
def setE (M : MS) (v : Int32) : MS := (sK M, sR M, sN M, sW M, sC M, v)
def lookMi (M : MS) (i : Nat) : MS := (sK M, sR M, lookN (sR M) (sW M) (clM (sK M) (sC M)) (nI (sC M)) (sN M) i, toldB (sW M) (clM (sK M) (sC M)) i, sC M, sE M)
def lookMu (M : MS) (i u : Nat) : MS := (sK M, sR M, tellN (sR M) i (clM (sK M) (sC M) i) (nI (sC M)) (lookN (sR M) (sW M) (clM (sK M) (sC M)) (nI (sC M)) (sN M) i) u, toldB (sW M) (clM (sK M) (sC M)) i, sC M, sE M)
def lookMn (M : MS) (i u : Nat) : MS := (sK M, sR M, noteN (tellN (sR M) i (clM (sK M) (sC M) i) (nI (sC M)) (lookN (sR M) (sW M) (clM (sK M) (sC M)) (nI (sC M)) (sN M) i) u) u i (clM (sK M) (sC M) i) (nI (sC M)), toldB (sW M) (clM (sK M) (sC M)) i, sC M, sE M)
def lookM (M : MS) : MS := lookMi M 120
theorem lookMu_s {M : MS} {i u : Nat} (h : hasR (sR M) u i = true) : lookMn M i u = lookMu M i (u + 1) := by
  unfold lookMn lookMu
  rw [tellN, if_pos h]
theorem lookMu_n {M : MS} {i u : Nat} (h : hasR (sR M) u i = false) : lookMu M i u = lookMu M i (u + 1) := by
  unfold lookMu
  rw [tellN, if_neg (by rw [h]; decide)]
/-- what look() has behind a place: was is now -/
def lookMw (M : MS) (i u : Nat) : MS := (sK M, sR M, tellN (sR M) i (clM (sK M) (sC M) i) (nI (sC M)) (lookN (sR M) (sW M) (clM (sK M) (sC M)) (nI (sC M)) (sN M) i) u, updB (toldB (sW M) (clM (sK M) (sC M)) i) i (clM (sK M) (sC M) i), sC M, sE M)
theorem lookMw_e {M : MS} {i u : Nat} (h : u = 10 ∧ ¬ sW M i = clM (sK M) (sC M) i ∨ u = 0 ∧ sW M i = clM (sK M) (sC M) i) : lookMw M i u = lookMi M (i + 1) := by
  unfold lookMw lookMi
  rw [toldB_s, lookN]
  rcases h with ⟨rfl, h⟩ | ⟨rfl, h⟩
  · rw [if_neg h]
  · rw [if_pos h, tellN]
def thrM (o t h : Bool) : Int32 := if o then nI 1 else if t then nI 2 else if h then nI 3 else nI 0
