/-! nothing changes before the next change -/
/-- the numbers of closure c, as whole numbers -/
def kRg (S : KS) (c : Nat) : Prop := ∃ st en : Nat, kSt S c = nI st ∧ kEn S c = nI en ∧ st ≤ 99999 ∧ en ≤ 100000 ∧ (kKd S c = nI 4 → ∃ x : Nat, kXs S c = nI x ∧ 1 ≤ x / 100 ∧ x / 100 ≤ 99 ∧ x % 100 ≤ x / 100)
theorem x_per {x : Nat} (h : x / 100 ≤ 99) : nI x / nI 100 = nI (x / 100) ∧ rI (nI x) (nI 100) = nI (x % 100) := ⟨pk_div (by omega) (by decide) (by decide), pk_rem (by omega) (by decide) (by decide)⟩
theorem mop_nat {S : KS} {c st x t : Nat} (h1 : kSt S c = nI st) (h2 : kXs S c = nI x) (hx : 1 ≤ x / 100) (hx2 : x / 100 ≤ 99) (hst : st ≤ t) (ht : t < 2 ^ 30) : mopK S c (nI t) = nI ((t - st) % (x / 100)) := by
  show rI (nI t - kSt S c) (kXs S c / nI 100) = _
  rw [h1, h2, (x_per hx2).1, pk_sub hst]
  exact pk_rem (by omega) (by omega) (by omega)
theorem hold_same {S : KS} {c t m : Nat} (h : kRg S c) (htm : t ≤ m) (hm : m < 100000) (hlt : nI m < changeK S c (nI t)) : holdsK S c (nI m) = holdsK S c (nI t) := by
  obtain ⟨st, en, e1, e2, h1, h2, h4⟩ := h
  unfold changeK at hlt
  unfold holdsK
  rw [e1, e2] at hlt ⊢
  by_cases c1 : t < en
  · rw [if_pos (nI_lt c1 (by omega))] at hlt
    by_cases c2 : st ≤ t
    · rw [if_pos (nI_le c2 (by omega))] at hlt
      rw [if_neg (nI_nlt c2 (by omega)), if_neg (nI_nlt (show st ≤ m by omega) (by omega)), if_pos (nI_lt c1 (by omega))]
      by_cases c3 : kKd S c = nI 4
      · obtain ⟨x, e3, x1, x2, x3⟩ := h4 c3
        have n1 : ¬ kKd S c = nI 1 := by rw [c3]; decide
        have n2 : ¬ kKd S c = nI 2 := by rw [c3]; decide
        rw [if_pos c3, mop_nat e1 e3 x1 x2 c2 (by omega), e3, (x_per x2).1, (x_per x2).2] at hlt
        obtain ⟨g, hg⟩ : ∃ g, g = (t - st) % (x / 100) := ⟨_, rfl⟩
        have hgp : g < x / 100 := by rw [hg]; exact Nat.mod_lt _ (by omega)
        have hgt : g ≤ t - st := by rw [hg]; exact Nat.mod_le _ _
        rw [← hg] at hlt
        -- the turn
        obtain ⟨u, hu⟩ : ∃ u, u = if x % 100 ≤ g then x / 100 else x % 100 := ⟨_, rfl⟩
        have hu1 : (if nI (x % 100) ≤ nI g then nI (x / 100) else nI (x % 100)) = nI u := by
          rw [hu]
          by_cases q : x % 100 ≤ g
          · rw [if_pos (nI_le q (by omega)), if_pos q]
          · rw [if_neg (nI_ge (by omega) (by omega)), if_neg q]
        rw [hu1, pk_sub (by omega), nI_add] at hlt
        have hub : u ≤ x / 100 := by rw [hu]; split <;> omega
        have hmin : mnI (nI (t - g + u)) (nI en) = nI (min (t - g + u) en) := mnI_min (by omega) (by omega)
        rw [hmin] at hlt
        have hlt2 : m < min (t - g + u) en := (nI_ltI (by omega) (by omega)).mp hlt
        have hme : m < en := by omega
        have hmu : m < t - g + u := by omega
        rw [if_pos (nI_lt hme (by omega)), if_neg n1, if_neg n2, if_pos c3, if_neg n1, if_neg n2, if_pos c3]
        rw [mop_nat e1 e3 x1 x2 c2 (by omega), mop_nat e1 e3 x1 x2 (show st ≤ m by omega) (by omega), e3, (x_per x2).2, ← hg]
        have hmg : (m - st) % (x / 100) = g + (m - t) := by
          have q1 : m - st = (t - st) + (m - t) := by omega
          have q2 : t - st = x / 100 * ((t - st) / (x / 100)) + g := by rw [hg]; exact (Nat.div_add_mod _ _).symm
          rw [q1, q2, Nat.add_assoc, Nat.mul_add_mod]
          exact Nat.mod_eq_of_lt (by omega)
        rw [hmg]
        congr 1
        apply decide_eq_decide.mpr
        rw [nI_leI (by omega) (by omega), nI_leI (by omega) (by omega)]
        by_cases q : x % 100 ≤ g
        · exact ⟨fun _ => q, fun _ => by omega⟩
        · rw [if_neg q] at hu
          exact ⟨fun z => by omega, fun z => absurd z q⟩
      · rw [if_neg c3] at hlt
        have hme : m < en := (nI_ltI (by omega) (by omega)).mp hlt
        rw [if_pos (nI_lt hme (by omega)), if_neg c3, if_neg c3]
    · rw [if_neg (nI_ge (by omega) (by omega))] at hlt
      have hms : m < st := (nI_ltI (by omega) (by omega)).mp hlt
      rw [if_pos (nI_lt hms (by omega)), if_pos (nI_lt (show t < st by omega) (by omega))]
  · rw [if_neg (nI_nlt (show en ≤ m by omega) (by omega)), if_neg (nI_nlt (show en ≤ t by omega) (by omega))]
    by_cases q1 : nI m < nI st <;> by_cases q2 : nI t < nI st <;> simp [q1, q2]
theorem mnI_lt {x a b : Int32} (h : x < mnI a b) : x < a ∧ x < b := by
  have e : mnI a b = if b < a then b else a := rfl
  rw [e] at h
  by_cases q : b < a
  · rw [if_pos q] at h
    exact ⟨Int32.lt_trans h q, h⟩
  · rw [if_neg q] at h
    exact ⟨h, Int32.lt_of_lt_of_le h (Int32.not_lt.mp q)⟩
theorem next_lt {S : KS} {t x : Int32} {n : Nat} (h : x < nextK S t n) : ∀ c, c < n → x < changeK S c t := by
  induction n with
  | zero => intro c hc; omega
  | succ n ih =>
    intro c hc
    rw [nextK] at h
    obtain ⟨h1, h2⟩ := mnI_lt h
    rcases Nat.lt_or_ge c n with q | q
    · exact ih h1 c q
    · rw [show c = n by omega]; exact h2
theorem nextOn_lt {S : KS} {pl : Nat} {t x : Int32} {n : Nat} (h : x < nextOnK S pl t n) : ∀ c, c < n → coversK S c pl = true → x < changeK S c t := by
  induction n with
  | zero => intro c hc; omega
  | succ n ih =>
    intro c hc hv
    rw [nextOnK] at h
    rcases Nat.lt_or_ge c n with q | q
    · by_cases g : coversK S n pl = true
      · rw [if_pos g] at h; exact ih (mnI_lt h).1 c q hv
      · rw [if_neg g] at h; exact ih h c q hv
    · have e : c = n := by omega
      subst e
      rw [if_pos hv] at h
      exact (mnI_lt h).2
def kRgs (S : KS) : Prop := ∀ c, c < kN S → kRg S c
theorem seg_c {S : KS} (h : kRgs S) {pl t m : Nat} (htm : t ≤ m) (hm : m < 100000) {c : Nat} (hc : c < kN S) (hlt : nI m < nextOnK S pl (nI t) (kN S)) : onK S c pl (nI m) = onK S c pl (nI t) := by
  unfold onK
  by_cases hv : coversK S c pl = true
  · rw [hold_same (h c hc) htm hm (nextOn_lt hlt c hc hv)]
  · rw [Bool.not_eq_true] at hv
    rw [hv, Bool.false_and, Bool.false_and]
theorem seg_on {S : KS} (h : kRgs S) : segOn S := by
  intro pl t m _ htm hm hlt
  unfold closedK
  exact anyN_congr (fun c hc => by rw [seg_c h htm hm hc hlt])
theorem seg_all {S : KS} (h : kRgs S) {t m : Nat} (htm : t ≤ m) (hm : m < 100000) (hlt : nI m < nextK S (nI t) (kN S)) : clB S m = clB S t := by
  funext pl
  show closedK S pl (nI m) = closedK S pl (nI t)
  unfold closedK
  apply anyN_congr
  intro c hc
  congr 1
  unfold onK
  rw [hold_same (h c hc) htm hm (next_lt hlt c hc)]
