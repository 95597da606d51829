/-! the closures' cells and what is read off them (the landed side) -/
abbrev KF : Type := Nat → Int32
abbrev KS : Type := KF × KF × KF × KF × KF × KF × KF × KF × KF × Nat
abbrev kKd (S : KS) : KF := S.1
abbrev kPc (S : KS) : KF := S.2.1
abbrev kSd (S : KS) : KF := S.2.2.1
abbrev kSt (S : KS) : KF := S.2.2.2.1
abbrev kEn (S : KS) : KF := S.2.2.2.2.1
abbrev kXs (S : KS) : KF := S.2.2.2.2.2.1
abbrev kAn (S : KS) : KF := S.2.2.2.2.2.2.1
abbrev kWd (S : KS) : KF := S.2.2.2.2.2.2.2.1
abbrev kIc (S : KS) : KF := S.2.2.2.2.2.2.2.2.1
abbrev kN (S : KS) : Nat := S.2.2.2.2.2.2.2.2.2
abbrev tyL (cI cZ : ClassId) : List (ClassId × FieldType) := [(cI, .int), (cZ, .boolean)]
abbrev wK (a : Nat → Nat) (cI cZ : ClassId) (S : KS) : va_W :=
  [(a 0, .inr (0, [.ref (a 1), .ref (a 2), .ref (a 3), .ref (a 4), .ref (a 5), .ref (a 6), .ref (a 7), .ref (a 8), .ref (a 9), .int (nI (kN S))])),
   (a 1, .inl (cI, 100, .inl (kKd S))), (a 2, .inl (cI, 100, .inl (kPc S))), (a 3, .inl (cI, 100, .inl (kSd S))), (a 4, .inl (cI, 100, .inl (kSt S))), (a 5, .inl (cI, 100, .inl (kEn S))),
   (a 6, .inl (cI, 100, .inl (kXs S))), (a 7, .inl (cI, 100, .inl (kAn S))), (a 8, .inl (cI, 100, .inl (kWd S))), (a 9, .inl (cZ, 20, .inl (kIc S)))]
/-- what every state that comes has: numbers in their ranges -/
def kOk (S : KS) : Prop := kN S ≤ 100 ∧ (∀ i, i < 20 → kIc S i = 0 ∨ kIc S i = 1) ∧
  ∀ c, c < kN S → (kKd S c = nI 2 → ∃ i, i < 20 ∧ kXs S c = nI i) ∧ (kKd S c = nI 4 → ¬ kXs S c / nI 100 = 0) ∧ (∃ i, i < 60 ∧ kPc S c = nI i)
/-- x % y as the machine has it -/
abbrev rI (x y : Int32) : Int32 := x - x / y * y
abbrev mopK (S : KS) (c : Nat) (t : Int32) : Int32 := rI (t - kSt S c) (kXs S c / nI 100)
def holdsK (S : KS) (c : Nat) (t : Int32) : Bool :=
  if t < kSt S c then false else if t < kEn S c then
    (if kKd S c = nI 1 then decide (kAn S c = nI 1) else if kKd S c = nI 2 then decide (kIc S (kXs S c).toNatClampNeg = 1) else
     if kKd S c = nI 4 then !decide (rI (kXs S c) (nI 100) ≤ mopK S c t) else true) else false
def coversK (S : KS) (c pl : Nat) : Bool := decide (kPc S c = nI (pl / 2)) && !decide (kSd S c &&& nI (pl % 2 + 1) = 0)
def onK (S : KS) (c pl : Nat) (t : Int32) : Bool := coversK S c pl && holdsK S c t
def anyN (P : Nat → Bool) : Nat → Bool | 0 => false | n + 1 => anyN P n || P n
theorem anyN_of {P : Nat → Bool} {n c : Nat} (h : c < n) (hp : P c = true) : anyN P n = true := by
  induction n with
  | zero => omega
  | succ n ih =>
    rw [anyN]
    rcases Nat.lt_or_ge c n with q | q
    · rw [ih q]; rfl
    · have e : c = n := by omega
      subst e
      rw [hp, Bool.or_true]
theorem anyN_iff {P : Nat → Bool} {n : Nat} : anyN P n = true ↔ ∃ c, c < n ∧ P c = true := by
  induction n with
  | zero => exact ⟨fun h => by simp [anyN] at h, fun ⟨c, h, _⟩ => by omega⟩
  | succ n ih =>
    rw [anyN, Bool.or_eq_true, ih]
    constructor
    · rintro (⟨c, h1, h2⟩ | h)
      · exact ⟨c, by omega, h2⟩
      · exact ⟨n, by omega, h⟩
    · rintro ⟨c, h1, h2⟩
      rcases Nat.lt_or_ge c n with q | q
      · exact Or.inl ⟨c, q, h2⟩
      · have e : c = n := by omega
        subst e
        exact Or.inr h2
theorem anyN_congr {P P' : Nat → Bool} {n : Nat} (h : ∀ c, c < n → P c = P' c) : anyN P n = anyN P' n := by
  induction n with
  | zero => rfl
  | succ n ih => rw [anyN, anyN, ih (fun c hc => h c (by omega)), h n (by omega)]
def cntN (P : Nat → Bool) : Nat → Nat | 0 => 0 | n + 1 => cntN P n + (if P n then 1 else 0)
theorem cntN_le (P : Nat → Bool) (n : Nat) : cntN P n ≤ n := by
  induction n with
  | zero => exact Nat.le_refl _
  | succ n ih => rw [cntN]; split <;> omega
theorem cntN_congr {P P' : Nat → Bool} {n : Nat} (h : ∀ c, c < n → P c = P' c) : cntN P n = cntN P' n := by
  induction n with
  | zero => rfl
  | succ n ih => rw [cntN, cntN, ih (fun c hc => h c (by omega)), h n (by omega)]
/-- the first place where P holds, else -1 -/
def fstN (P : Nat → Bool) : Nat → Nat → Int32 | _, 0 => -1 | c, k + 1 => if P c then nI c else fstN P (c + 1) k
theorem fstN_congr {P P' : Nat → Bool} {k : Nat} : ∀ {c : Nat}, (∀ d, c ≤ d → d < c + k → P d = P' d) → fstN P c k = fstN P' c k := by
  induction k with
  | zero => intro c _; rfl
  | succ k ih =>
    intro c h
    rw [fstN, fstN, h c (Nat.le_refl _) (by omega), ih (fun d h1 h2 => h d (by omega) (by omega))]
def minN (P : Nat → Bool) (v : Nat → Int32) : Nat → Int32 | 0 => nI 100 | n + 1 => if P n then (if v n < minN P v n then v n else minN P v n) else minN P v n
theorem minN_congr {P P' : Nat → Bool} {v v' : Nat → Int32} {n : Nat} (h : ∀ c, c < n → P c = P' c) (hv : ∀ c, c < n → v c = v' c) : minN P v n = minN P' v' n := by
  induction n with
  | zero => rfl
  | succ n ih => rw [minN, minN, ih (fun c hc => h c (by omega)) (fun c hc => hv c (by omega)), h n (by omega), hv n (by omega)]
def closedK (S : KS) (pl : Nat) (t : Int32) : Bool := anyN (fun c => !decide (kKd S c = nI 5) && onK S c pl t) (kN S)
def aheadK (S : KS) (d c : Nat) : Bool := if kEn S d < kEn S c then true else decide (kEn S d = kEn S c) && decide (d < c)
def rankK (S : KS) (c pl : Nat) (t : Int32) : Nat := cntN (fun d => aheadK S d c && onK S d pl t) (kN S)
def holdingK (S : KS) (pl : Nat) (t i : Int32) : Int32 := fstN (fun c => onK S c pl t && decide (nI (rankK S c pl t) = i)) 0 (kN S)
def percentK (S : KS) (pl : Nat) (t : Int32) : Int32 := minN (fun c => decide (kKd S c = nI 5) && onK S c pl t) (kXs S) (kN S)
abbrev mnI (x y : Int32) : Int32 := if y < x then y else x
def changeK (S : KS) (c : Nat) (t : Int32) : Int32 :=
  if t < kEn S c then (if kSt S c ≤ t then (if kKd S c = nI 4 then
    mnI (t - mopK S c t + (if rI (kXs S c) (nI 100) ≤ mopK S c t then kXs S c / nI 100 else rI (kXs S c) (nI 100))) (kEn S c) else kEn S c) else kSt S c) else nI 100000
def nextK (S : KS) (t : Int32) : Nat → Int32 | 0 => nI 100000 | n + 1 => mnI (nextK S t n) (changeK S n t)
def nextOnK (S : KS) (pl : Nat) (t : Int32) : Nat → Int32 | 0 => nI 100000 | n + 1 => if coversK S n pl then mnI (nextOnK S pl t n) (changeK S n t) else nextOnK S pl t n

/-! writes -/
def addK (S : KS) (k pi si f t x : Int32) : KS := (upd (kKd S) (kN S) k, upd (kPc S) (kN S) pi, upd (kSd S) (kN S) si, upd (kSt S) (kN S) f, upd (kEn S) (kN S) t, upd (kXs S) (kN S) x, upd (kAn S) (kN S) (nI 0), upd (kWd S) (kN S) (-1 : Int32), kIc S, kN S + 1)
def ansK (S : KS) (c : Nat) (v : Int32) : KS := (kKd S, kPc S, kSd S, kSt S, kEn S, kXs S, upd (kAn S) c v, kWd S, kIc S, kN S)
def incK (S : KS) (i : Nat) (v : Int32) : KS := (kKd S, kPc S, kSd S, kSt S, kEn S, kXs S, kAn S, kWd S, upd (kIc S) i v, kN S)
def endK (S : KS) (c : Nat) (v : Int32) : KS := (kKd S, kPc S, kSd S, kSt S, upd (kEn S) c v, kXs S, kAn S, kWd S, kIc S, kN S)
def wrdK (S : KS) (c : Nat) (v : Int32) : KS := (kKd S, kPc S, kSd S, kSt S, kEn S, kXs S, kAn S, upd (kWd S) c v, kIc S, kN S)
def giveK (S : KS) (c : Nat) (v : Int32) : KS := if kKd S c = nI 3 ∧ kWd S c = (-1 : Int32) then wrdK S c v else S
def gaveK (S : KS) (c : Nat) (v : Int32) : Bool := !decide (kKd S c = nI 3) || !decide (kWd (giveK S c v) c = v)
/-- cells whose contents agree below their length are one -/
theorem xcell_congr {cA : ClassId} {n : Nat} {f g : Nat → Int32} (h : ∀ j, j < n → f j = g j) : vp_cell cA (n, .inl f) = vp_cell cA (n, .inl g) := by
  rw [vp_cell_i, vp_cell_i]
  unfold arrV
  congr 1
  apply Array.ext
  · simp
  · intro i h1 h2
    simp at h1 h2 ⊢
    exact h i h1
theorem xP_congr {D : va_G} {w1 w2 : va_W} {b : Nat} {cA : ClassId} {n : Nat} {f g : Nat → Int32} {H : Heap} (h : ∀ j, j < n → f j = g j) (hP : va_P D vwCl (w1 ++ (b, .inl (cA, n, .inl f)) :: w2) H) : va_P D vwCl (w1 ++ (b, .inl (cA, n, .inl g)) :: w2) H := by
  intro k q hq
  rcases Nat.lt_trichotomy k w1.length with hk | hk | hk
  · rw [List.getElem?_append_left hk] at hq
    exact hP k q (by rw [List.getElem?_append_left hk]; exact hq)
  · subst hk
    rw [List.getElem?_append_right (Nat.le_refl _), Nat.sub_self] at hq
    have e1 : (b, (.inl (cA, n, .inl g) : va_E)) = q := Option.some.inj hq
    subst e1
    have h1 := hP w1.length (b, .inl (cA, n, .inl f)) (by rw [List.getElem?_append_right (Nat.le_refl _), Nat.sub_self]; rfl)
    have h2 : H[b]? = some (vp_cell cA (n, .inl f)) := h1
    show H[b]? = some (vp_cell cA (n, .inl g))
    rw [h2, xcell_congr h]
  · rw [List.getElem?_append_right (Nat.le_of_lt hk)] at hq
    obtain ⟨j, hj⟩ : ∃ j, k - w1.length = j + 1 := ⟨k - w1.length - 1, by omega⟩
    rw [hj, List.getElem?_cons_succ] at hq
    exact hP k q (by rw [List.getElem?_append_right (Nat.le_of_lt hk), hj, List.getElem?_cons_succ]; exact hq)
theorem xD_addr {A : Nat → Prop} {w1 w2 : va_W} (h : va_D A w1) (ha : w2.map (·.1) = w1.map (·.1)) : va_D A w2 := by
  have hk : ∀ (k : Nat) (q : Nat × va_E), w2[k]? = some q → ∃ e2, w1[k]? = some (q.1, e2) := by
    intro k q hq
    have h2 : (w2.map (·.1))[k]? = some q.1 := by rw [List.getElem?_map, hq]; rfl
    rw [ha, List.getElem?_map] at h2
    cases hw : w1[k]? with
    | none => rw [hw] at h2; cases h2
    | some z =>
      rw [hw] at h2
      have h3 : z.1 = q.1 := Option.some.inj h2
      exact ⟨z.2, by rw [← h3]⟩
  refine ⟨fun i j a d hi hj had => ?_, fun k q hq => ?_⟩
  · obtain ⟨x1, hx1⟩ := hk i a hi
    obtain ⟨x2, hx2⟩ := hk j d hj
    exact h.1 i j _ _ hx1 hx2 had
  · obtain ⟨x1, hx1⟩ := hk k q hq
    exact h.2 k (q.1, x1) hx1
def zfil (rw0 : KF) (i : Nat) : KF := fun j => if j < i then nI 0 else rw0 j
theorem zfil_s (rw0 : KF) (i : Nat) : upd (zfil rw0 i) i (nI 0) = zfil rw0 (i + 1) := by
  funext j
  unfold upd zfil
  by_cases h : j = i
  · rw [if_pos h, if_pos (by omega)]
  · rw [if_neg h]
    by_cases h2 : j < i
    · rw [if_pos h2, if_pos (by omega)]
    · rw [if_neg h2, if_neg (by omega)]
def rowK (S : KS) (t : Int32) (c : Nat) : KF := fun pl => bI (anyN (fun d => !decide (kKd S d = nI 5) && onK S d pl t) c)
def markK (S : KS) (c : Nat) (r : KF) : KF := fun pl => if coversK S c pl then nI 1 else r pl
theorem rowK_s (S : KS) (t : Int32) (c : Nat) : rowK S t (c + 1) = if (!decide (kKd S c = nI 5) && holdsK S c t) = true then markK S c (rowK S t c) else rowK S t c := by
  funext pl
  unfold rowK
  rw [anyN, onK]
  by_cases h : (!decide (kKd S c = nI 5) && holdsK S c t) = true
  · rw [if_pos h]
    rw [Bool.and_eq_true] at h
    rw [h.1, h.2, Bool.true_and, Bool.and_true]
    unfold markK
    cases hc : coversK S c pl with
    | true => rw [Bool.or_true]; rfl
    | false => rw [Bool.or_false]; rfl
  · rw [if_neg h]
    rw [Bool.not_eq_true, Bool.and_eq_false_iff] at h
    rcases h with h | h
    · rw [h, Bool.false_and, Bool.or_false]
    · rw [h, Bool.and_false, Bool.and_false, Bool.or_false]
theorem markK_of {S : KS} {c pi : Nat} (hp : kPc S c = nI pi) (hpi : pi < 60) (r : KF) (j : Nat) (hj : j < 120) :
    markK S c r j = (if kSd S c &&& nI 2 = 0 then (if kSd S c &&& nI 1 = 0 then r else upd r (2 * pi + 0) (nI 1)) else upd (if kSd S c &&& nI 1 = 0 then r else upd r (2 * pi + 0) (nI 1)) (2 * pi + 1) (nI 1)) j := by
  have e : coversK S c j = (decide (pi = j / 2) && !decide (kSd S c &&& nI (j % 2 + 1) = 0)) := by
    unfold coversK
    rw [hp]
    congr 1
    exact decide_eq_decide.mpr (nI_eq (by omega) (by omega))
  unfold markK
  rw [e]
  by_cases h3 : pi = j / 2
  · rcases (show j % 2 = 0 ∨ j % 2 = 1 by omega) with h | h
    · have e1 : j = 2 * pi + 0 := by omega
      have e2 : ¬ j = 2 * pi + 1 := by omega
      rw [h, decide_eq_true h3, Bool.true_and]
      by_cases h1 : kSd S c &&& nI 1 = 0 <;> by_cases h2 : kSd S c &&& nI 2 = 0
      · rw [if_pos h2, if_pos h1, decide_eq_true h1]; rfl
      · rw [if_neg h2, if_pos h1, decide_eq_true h1, pk_un e2]; rfl
      · rw [if_pos h2, if_neg h1, decide_eq_false h1, e1, pk_us]; rfl
      · rw [if_neg h2, if_neg h1, decide_eq_false h1, pk_un e2, e1, pk_us]; rfl
    · have e1 : ¬ j = 2 * pi + 0 := by omega
      have e2 : j = 2 * pi + 1 := by omega
      rw [h, decide_eq_true h3, Bool.true_and]
      by_cases h1 : kSd S c &&& nI 1 = 0 <;> by_cases h2 : kSd S c &&& nI 2 = 0
      · rw [if_pos h2, if_pos h1, decide_eq_true h2]; rfl
      · rw [if_neg h2, if_pos h1, decide_eq_false h2, e2, pk_us]; rfl
      · rw [if_pos h2, if_neg h1, decide_eq_true h2, pk_un e1]; rfl
      · rw [if_neg h2, if_neg h1, decide_eq_false h2, e2, pk_us]; rfl
  · have e1 : ¬ j = 2 * pi + 0 := by omega
    have e2 : ¬ j = 2 * pi + 1 := by omega
    rw [decide_eq_false h3, Bool.false_and]
    by_cases h1 : kSd S c &&& nI 1 = 0 <;> by_cases h2 : kSd S c &&& nI 2 = 0
    · rw [if_pos h2, if_pos h1]; rfl
    · rw [if_neg h2, if_pos h1, pk_un e2]; rfl
    · rw [if_pos h2, if_neg h1, pk_un e1]; rfl
    · rw [if_neg h2, if_neg h1, pk_un e2, pk_un e1]; rfl
