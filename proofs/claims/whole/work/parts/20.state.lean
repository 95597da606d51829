/-! the closures' cells and what is read off them (the landed side) -/
abbrev KF : Type := Nat → Int32
abbrev KS : Type := KF × KF × KF × KF × KF × KF × KF × KF × KF × Nat
abbrev kKd (S : KS) : KF := S.1
abbrev kPc (S : KS) : KF := S.2.1
abbrev kSd (S : KS) : KF := S.2.2.1
abbrev kSt (S : KS) : KF := S.2.2.2.1
abbrev kEn (S : KS) : KF := S.2.2.2.2.1
abbrev kXs (S : KS) : KF := S.2.2.2.2.2.1
abbrev kAn (S : KS) : KF := S.2.2.2.2.2.2.1
abbrev kWd (S : KS) : KF := S.2.2.2.2.2.2.2.1
abbrev kIc (S : KS) : KF := S.2.2.2.2.2.2.2.2.1
abbrev kN (S : KS) : Nat := S.2.2.2.2.2.2.2.2.2
abbrev tyL (cI cZ : ClassId) : List (ClassId × FieldType) := [(cI, .int), (cZ, .boolean)]
abbrev wK (a : Nat → Nat) (cI cZ : ClassId) (S : KS) : va_W :=
  [(a 0, .inr (0, [.ref (a 1), .ref (a 2), .ref (a 3), .ref (a 4), .ref (a 5), .ref (a 6), .ref (a 7), .ref (a 8), .ref (a 9), .int (nI (kN S))])),
   (a 1, .inl (cI, 100, .inl (kKd S))), (a 2, .inl (cI, 100, .inl (kPc S))), (a 3, .inl (cI, 100, .inl (kSd S))), (a 4, .inl (cI, 100, .inl (kSt S))), (a 5, .inl (cI, 100, .inl (kEn S))),
   (a 6, .inl (cI, 100, .inl (kXs S))), (a 7, .inl (cI, 100, .inl (kAn S))), (a 8, .inl (cI, 100, .inl (kWd S))), (a 9, .inl (cZ, 20, .inl (kIc S)))]
/-- what every state that comes has: numbers in their ranges -/
def kOk (S : KS) : Prop := kN S ≤ 100 ∧ (∀ i, i < 20 → kIc S i = 0 ∨ kIc S i = 1) ∧
  ∀ c, c < kN S → (kKd S c = nI 2 → ∃ i, i < 20 ∧ kXs S c = nI i) ∧ (kKd S c = nI 4 → ¬ kXs S c / nI 100 = 0)
/-- x % y as the machine has it -/
abbrev rI (x y : Int32) : Int32 := x - x / y * y
abbrev mopK (S : KS) (c : Nat) (t : Int32) : Int32 := rI (t - kSt S c) (kXs S c / nI 100)
def holdsK (S : KS) (c : Nat) (t : Int32) : Bool :=
  if t < kSt S c then false else if t < kEn S c then
    (if kKd S c = nI 1 then decide (kAn S c = nI 1) else if kKd S c = nI 2 then decide (kIc S (kXs S c).toNatClampNeg = 1) else
     if kKd S c = nI 4 then !decide (rI (kXs S c) (nI 100) ≤ mopK S c t) else true) else false
def coversK (S : KS) (c pl : Nat) : Bool := decide (kPc S c = nI (pl / 2)) && !decide (kSd S c &&& nI (pl % 2 + 1) = 0)
def onK (S : KS) (c pl : Nat) (t : Int32) : Bool := coversK S c pl && holdsK S c t
def anyN (P : Nat → Bool) : Nat → Bool | 0 => false | n + 1 => anyN P n || P n
theorem anyN_of {P : Nat → Bool} {n c : Nat} (h : c < n) (hp : P c = true) : anyN P n = true := by
  induction n with
  | zero => omega
  | succ n ih =>
    rw [anyN]
    rcases Nat.lt_or_ge c n with q | q
    · rw [ih q]; rfl
    · have e : c = n := by omega
      subst e
      rw [hp, Bool.or_true]
theorem anyN_iff {P : Nat → Bool} {n : Nat} : anyN P n = true ↔ ∃ c, c < n ∧ P c = true := by
  induction n with
  | zero => exact ⟨fun h => by simp [anyN] at h, fun ⟨c, h, _⟩ => by omega⟩
  | succ n ih =>
    rw [anyN, Bool.or_eq_true, ih]
    constructor
    · rintro (⟨c, h1, h2⟩ | h)
      · exact ⟨c, by omega, h2⟩
      · exact ⟨n, by omega, h⟩
    · rintro ⟨c, h1, h2⟩
      rcases Nat.lt_or_ge c n with q | q
      · exact Or.inl ⟨c, q, h2⟩
      · have e : c = n := by omega
        subst e
        exact Or.inr h2
theorem anyN_congr {P P' : Nat → Bool} {n : Nat} (h : ∀ c, c < n → P c = P' c) : anyN P n = anyN P' n := by
  induction n with
  | zero => rfl
  | succ n ih => rw [anyN, anyN, ih (fun c hc => h c (by omega)), h n (by omega)]
def cntN (P : Nat → Bool) : Nat → Nat | 0 => 0 | n + 1 => cntN P n + (if P n then 1 else 0)
theorem cntN_le (P : Nat → Bool) (n : Nat) : cntN P n ≤ n := by
  induction n with
  | zero => exact Nat.le_refl _
  | succ n ih => rw [cntN]; split <;> omega
theorem cntN_congr {P P' : Nat → Bool} {n : Nat} (h : ∀ c, c < n → P c = P' c) : cntN P n = cntN P' n := by
  induction n with
  | zero => rfl
  | succ n ih => rw [cntN, cntN, ih (fun c hc => h c (by omega)), h n (by omega)]
/-- the first place where P holds, else -1 -/
def fstN (P : Nat → Bool) : Nat → Nat → Int32 | _, 0 => -1 | c, k + 1 => if P c then nI c else fstN P (c + 1) k
theorem fstN_congr {P P' : Nat → Bool} {k : Nat} : ∀ {c : Nat}, (∀ d, c ≤ d → d < c + k → P d = P' d) → fstN P c k = fstN P' c k := by
  induction k with
  | zero => intro c _; rfl
  | succ k ih =>
    intro c h
    rw [fstN, fstN, h c (Nat.le_refl _) (by omega), ih (fun d h1 h2 => h d (by omega) (by omega))]
def minN (P : Nat → Bool) (v : Nat → Int32) : Nat → Int32 | 0 => nI 100 | n + 1 => if P n then (if v n < minN P v n then v n else minN P v n) else minN P v n
theorem minN_congr {P P' : Nat → Bool} {v v' : Nat → Int32} {n : Nat} (h : ∀ c, c < n → P c = P' c) (hv : ∀ c, c < n → v c = v' c) : minN P v n = minN P' v' n := by
  induction n with
  | zero => rfl
  | succ n ih => rw [minN, minN, ih (fun c hc => h c (by omega)) (fun c hc => hv c (by omega)), h n (by omega), hv n (by omega)]
def closedK (S : KS) (pl : Nat) (t : Int32) : Bool := anyN (fun c => !decide (kKd S c = nI 5) && onK S c pl t) (kN S)
def aheadK (S : KS) (d c : Nat) : Bool := if kEn S d < kEn S c then true else decide (kEn S d = kEn S c) && decide (d < c)
def rankK (S : KS) (c pl : Nat) (t : Int32) : Nat := cntN (fun d => aheadK S d c && onK S d pl t) (kN S)
def holdingK (S : KS) (pl : Nat) (t i : Int32) : Int32 := fstN (fun c => onK S c pl t && decide (nI (rankK S c pl t) = i)) 0 (kN S)
def percentK (S : KS) (pl : Nat) (t : Int32) : Int32 := minN (fun c => decide (kKd S c = nI 5) && onK S c pl t) (kXs S) (kN S)
abbrev mnI (x y : Int32) : Int32 := if y < x then y else x
def changeK (S : KS) (c : Nat) (t : Int32) : Int32 :=
  if t < kEn S c then (if kSt S c ≤ t then (if kKd S c = nI 4 then
    mnI (t - mopK S c t + (if rI (kXs S c) (nI 100) ≤ mopK S c t then kXs S c / nI 100 else rI (kXs S c) (nI 100))) (kEn S c) else kEn S c) else kSt S c) else nI 100000
def nextK (S : KS) (t : Int32) : Nat → Int32 | 0 => nI 100000 | n + 1 => mnI (nextK S t n) (changeK S n t)
def nextOnK (S : KS) (pl : Nat) (t : Int32) : Nat → Int32 | 0 => nI 100000 | n + 1 => if coversK S n pl then mnI (nextOnK S pl t n) (changeK S n t) else nextOnK S pl t n
