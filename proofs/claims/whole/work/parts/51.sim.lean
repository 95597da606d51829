/-! the class's state and the reference's -/
abbrev noEnd (k : Int32) : Prop := k = nI 2 ∨ k = nI 3
def cRel (K : KS) (M : MK) (c : Nat) : Prop :=
  (kKd K c = mKd M c ∧ kPc K c = mPc M c ∧ kSd K c = mSd M c ∧ kSt K c = mFr M c ∧ kXs K c = mNu M c ∧ kWd K c = mWd M c) ∧
  ((kAn K c = nI 0 ∧ mAn M c = (-1 : Int32)) ∨ (kAn K c = nI 1 ∧ mAn M c = nI 1) ∨ (kAn K c = nI 2 ∧ mAn M c = nI 0)) ∧
  (∃ st, st ≤ 99999 ∧ mFr M c = nI st) ∧ (∃ pi, pi < 60 ∧ mPc M c = nI pi) ∧ (mSd M c = nI 1 ∨ mSd M c = nI 2 ∨ mSd M c = nI 3) ∧
  (∃ tt, (¬ noEnd (mKd M c) → tt ≤ 99999 ∧ mTo M c = nI tt) ∧
    ((mLi M c = (-1 : Int32) ∧ (noEnd (mKd M c) → kEn K c = nI 100000) ∧ (¬ noEnd (mKd M c) → kEn K c = nI tt)) ∨
     (∃ l, l ≤ 99999 ∧ mLi M c = nI l ∧ kEn K c = nI l ∧ (¬ noEnd (mKd M c) → l < tt)))) ∧
  (mKd M c = nI 4 → ∃ x : Nat, mNu M c = nI x ∧ 1 ≤ x / 100 ∧ x / 100 ≤ 99 ∧ x % 100 ≤ x / 100) ∧ (mKd M c = nI 2 → ∃ i, i < 20 ∧ mNu M c = nI i)
def kRel (K : KS) (M : MK) : Prop := kN K = mN M ∧ kN K ≤ 100 ∧ (∀ i, i < 20 → kIc K i = mOp M i ∧ (mOp M i = 0 ∨ mOp M i = 1)) ∧ ∀ c, c < kN K → cRel K M c
theorem nI_nm1 {n : Nat} (h : n < 2 ^ 31) : ¬ nI n = (-1 : Int32) := by
  intro z
  have e := congrArg Int32.toInt z
  rw [nI_toInt h] at e
  have e2 : ((-1 : Int32)).toInt = -1 := rfl
  omega
theorem kRel.okK {K : KS} {M : MK} (h : kRel K M) : kOk K := by
  obtain ⟨h1, h2, h3, h4⟩ := h
  refine ⟨h2, fun i hi => by rw [(h3 i hi).1]; exact (h3 i hi).2, fun c hc => ?_⟩
  obtain ⟨⟨e1, e2, -, -, e5, -⟩, -, -, hp, -, -, h7, h8⟩ := h4 c hc
  rw [e1, e2, e5]
  refine ⟨h8, fun z => ?_, hp⟩
  obtain ⟨x, ex, x1, x2, -⟩ := h7 z
  rw [ex, (x_per x2).1]
  exact nI_ne0 (by omega) (by omega)
theorem kRel.okM {K : KS} {M : MK} (h : kRel K M) : mOk M := by
  obtain ⟨h1, h2, h3, h4⟩ := h
  refine ⟨by omega, fun i hi => (h3 i hi).2, fun c hc => ?_⟩
  obtain ⟨-, -, -, -, -, -, h7, h8⟩ := h4 c (by omega)
  refine ⟨h8, fun z => ?_⟩
  obtain ⟨x, ex, x1, x2, -⟩ := h7 z
  rw [ex, (x_per x2).1]
  exact nI_ne0 (by omega) (by omega)
theorem kRel.rgs {K : KS} {M : MK} (h : kRel K M) : kRgs K := by
  obtain ⟨h1, h2, h3, h4⟩ := h
  intro c hc
  obtain ⟨⟨e1, -, -, e4, e5, -⟩, -, ⟨st, hst, est⟩, -, -, ⟨tt, ht1, ht2⟩, h7, -⟩ := h4 c hc
  have hx : kKd K c = nI 4 → ∃ x : Nat, kXs K c = nI x ∧ 1 ≤ x / 100 ∧ x / 100 ≤ 99 ∧ x % 100 ≤ x / 100 := by rw [e1, e5]; exact h7
  rcases ht2 with ⟨-, a1, a2⟩ | ⟨l, hl, -, el, -⟩
  · by_cases q : noEnd (mKd M c)
    · exact ⟨st, 100000, by rw [e4]; exact est, a1 q, hst, Nat.le_refl _, hx⟩
    · exact ⟨st, tt, by rw [e4]; exact est, a2 q, hst, by have := (ht1 q).1; omega, hx⟩
  · exact ⟨st, l, by rw [e4]; exact est, el, hst, by omega, hx⟩
theorem holds_eq {K : KS} {M : MK} (h : kRel K M) {c t : Nat} (hc : c < kN K) (ht : t < 100000) : holdsK K c (nI t) = holdsM M c (nI t) := by
  obtain ⟨h1, h2, h3, h4⟩ := h
  obtain ⟨⟨e1, -, -, e4, e5, -⟩, han, ⟨st, hst, est⟩, -, -, ⟨tt, ht1, ht2⟩, h7, h8⟩ := h4 c hc
  unfold holdsK holdsM
  rw [e1, e4, e5]
  by_cases q1 : nI t < mFr M c
  · rw [if_pos q1, if_pos q1]
  · rw [if_neg q1, if_neg q1]
    have hmop : mopK K c (nI t) = rI (nI t - mFr M c) (mNu M c / nI 100) := by show rI (nI t - kSt K c) (kXs K c / nI 100) = _; rw [e4, e5]
    rw [hmop]
    have hans : (mKd M c = nI 1 ∧ ¬ mAn M c = nI 1) ↔ (mKd M c = nI 1 ∧ ¬ kAn K c = nI 1) := by
      rcases han with ⟨a1, a2⟩ | ⟨a1, a2⟩ | ⟨a1, a2⟩ <;> rw [a1, a2]
      · exact ⟨fun z => ⟨z.1, by decide⟩, fun z => ⟨z.1, by decide⟩⟩
      · exact ⟨fun z => ⟨z.1, by decide⟩, fun z => ⟨z.1, by decide⟩⟩
    -- behind the end: both hold
    have core : nI t < kEn K c → (¬ noEnd (mKd M c) → ¬ mTo M c ≤ nI t) →
        (if mKd M c = nI 1 then decide (kAn K c = nI 1) else if mKd M c = nI 2 then decide (kIc K (mNu M c).toNatClampNeg = 1) else if mKd M c = nI 4 then !decide (rI (mNu M c) (nI 100) ≤ rI (nI t - mFr M c) (mNu M c / nI 100)) else true) =
        (if mKd M c = nI 2 then decide (mOp M (mNu M c).toNatClampNeg = 1) else if mKd M c = nI 3 then true else if mTo M c ≤ nI t then false else if (mKd M c = nI 1 ∧ ¬ mAn M c = nI 1) then false else if mKd M c = nI 4 then !decide (rI (mNu M c) (nI 100) ≤ rI (nI t - mFr M c) (mNu M c / nI 100)) else true) := by
      intro _ hto
      by_cases k2 : mKd M c = nI 2
      · obtain ⟨i, hi, ei⟩ := h8 k2
        have n1 : ¬ mKd M c = nI 1 := by rw [k2]; decide
        rw [if_neg n1, if_pos k2, if_pos k2, ei, nI_clamp (by omega), (h3 i hi).1]
      · by_cases k3 : mKd M c = nI 3
        · have n1 : ¬ mKd M c = nI 1 := by rw [k3]; decide
          have n4 : ¬ mKd M c = nI 4 := by rw [k3]; decide
          rw [if_neg n1, if_neg k2, if_neg n4, if_neg k2, if_pos k3]
        · have hto2 := hto (fun z => z.elim k2 k3)
          simp only [if_neg k2, if_neg k3, if_neg hto2]
          by_cases k1 : mKd M c = nI 1
          · have n4 : ¬ mKd M c = nI 4 := by rw [k1]; decide
            simp only [if_pos k1]
            by_cases an : kAn K c = nI 1
            · simp only [if_neg (show ¬ (mKd M c = nI 1 ∧ ¬ mAn M c = nI 1) from fun z => (hans.mp z).2 an), if_neg n4, decide_eq_true an]
            · simp only [if_pos (hans.mpr ⟨k1, an⟩), decide_eq_false an]
          · simp only [if_neg k1, if_neg (show ¬ (mKd M c = nI 1 ∧ ¬ mAn M c = nI 1) from fun z => k1 z.1)]
    rcases ht2 with ⟨a0, a1, a2⟩ | ⟨l, hl, el, eK, a3⟩
    · rw [if_neg (show ¬ (¬ mLi M c = (-1 : Int32) ∧ ¬ nI t < mLi M c) from fun z => z.1 a0)]
      by_cases q : noEnd (mKd M c)
      · have hlt : nI t < kEn K c := by rw [a1 q]; exact nI_lt (by omega) (by omega)
        rw [if_pos hlt]
        exact core hlt (fun z => absurd q z)
      · obtain ⟨b1, b2⟩ := ht1 q
        by_cases g : t < tt
        · have hlt : nI t < kEn K c := by rw [a2 q]; exact nI_lt g (by omega)
          rw [if_pos hlt]
          exact core hlt (fun _ => by rw [b2]; exact nI_ge g (by omega))
        · have hlt : ¬ nI t < kEn K c := by rw [a2 q]; exact nI_nlt (by omega) (by omega)
          rw [if_neg hlt, if_neg (show ¬ mKd M c = nI 2 from fun z => q (Or.inl z)), if_neg (show ¬ mKd M c = nI 3 from fun z => q (Or.inr z)), if_pos (show mTo M c ≤ nI t by rw [b2]; exact nI_le (by omega) (by omega))]
    · rw [el, eK]
      by_cases g : t < l
      · rw [if_pos (nI_lt g (by omega)), if_neg (show ¬ (¬ nI l = (-1 : Int32) ∧ ¬ nI t < nI l) from fun z => z.2 (nI_lt g (by omega)))]
        refine core (by rw [eK]; exact nI_lt g (by omega)) (fun q => ?_)
        obtain ⟨b1, b2⟩ := ht1 q
        have := a3 q
        rw [b2]; exact nI_ge (by omega) (by omega)
      · rw [if_neg (nI_nlt (by omega) (by omega)), if_pos (show ¬ nI l = (-1 : Int32) ∧ ¬ nI t < nI l from ⟨nI_nm1 (by omega), nI_nlt (by omega) (by omega)⟩)]
theorem covers_eq {K : KS} {M : MK} (h : kRel K M) {c pl : Nat} (hc : c < kN K) : coversK K c pl = isOnM M c (nI (pl / 2)) (nI (pl % 2 + 1)) := by
  obtain ⟨⟨-, e2, e3, -⟩, -, -, -, hs, -⟩ := h.2.2.2 c hc
  unfold coversK isOnM
  rw [e2, e3]
  congr 1
  rcases (show pl % 2 = 0 ∨ pl % 2 = 1 by omega) with q | q <;> rw [q] <;> rcases hs with z | z | z <;> rw [z] <;> decide
theorem on_eq {K : KS} {M : MK} (h : kRel K M) {c pl t : Nat} (hc : c < kN K) (ht : t < 100000) : onK K c pl (nI t) = (isOnM M c (nI (pl / 2)) (nI (pl % 2 + 1)) && holdsM M c (nI t)) := by
  unfold onK; rw [covers_eq h hc, holds_eq h hc ht]
theorem closed_eq {K : KS} {M : MK} (h : kRel K M) {pl t : Nat} (ht : t < 100000) : closedK K pl (nI t) = isClosedM M (nI (pl / 2)) (nI (pl % 2 + 1)) (nI t) := by
  unfold closedK isClosedM
  rw [← h.1]
  exact anyN_congr (fun c hc => by rw [on_eq h hc ht, (h.2.2.2 c hc).1.1])
theorem perc_eq {K : KS} {M : MK} (h : kRel K M) {pl t : Nat} (ht : t < 100000) : percentK K pl (nI t) = percM M (nI (pl / 2)) (nI (pl % 2 + 1)) (nI t) := by
  unfold percentK percM
  rw [← h.1]
  exact minN_congr (fun c hc => by rw [on_eq h hc ht, (h.2.2.2 c hc).1.1]) (fun c hc => (h.2.2.2 c hc).1.2.2.2.2.1)
theorem end_nat {K : KS} {M : MK} (h : kRel K M) {c : Nat} (hc : c < kN K) : ∃ e e' : Nat, kEn K c = nI e ∧ endM M c = nI e' ∧ ((e = e' ∧ e ≤ 99999) ∨ (e = 100000 ∧ e' = 1000000)) := by
  obtain ⟨-, -, -, -, -, ⟨tt, ht1, ht2⟩, -, -⟩ := h.2.2.2 c hc
  unfold endM
  rcases ht2 with ⟨a0, a1, a2⟩ | ⟨l, hl, el, eK, -⟩
  · rw [if_pos a0]
    by_cases q : noEnd (mKd M c)
    · rw [if_pos q]; exact ⟨100000, 1000000, a1 q, rfl, Or.inr ⟨rfl, rfl⟩⟩
    · rw [if_neg q]; obtain ⟨b1, b2⟩ := ht1 q; exact ⟨tt, tt, a2 q, b2, Or.inl ⟨rfl, b1⟩⟩
  · rw [if_neg (by rw [el]; exact nI_nm1 (by omega))]
    exact ⟨l, l, eK, el, Or.inl ⟨rfl, hl⟩⟩
theorem ahead_eq {K : KS} {M : MK} (h : kRel K M) {d c : Nat} (hd : d < kN K) (hc : c < kN K) : aheadK K d c = aheadM M d c := by
  obtain ⟨e1, f1, a1, b1, g1⟩ := end_nat h hd
  obtain ⟨e2, f2, a2, b2, g2⟩ := end_nat h hc
  unfold aheadK aheadM
  rw [a1, a2, b1, b2]
  have hl : nI e1 < nI e2 ↔ nI f1 < nI f2 := by rw [nI_ltI (by omega) (by omega), nI_ltI (by omega) (by omega)]; omega
  have he : nI e1 = nI e2 ↔ nI f1 = nI f2 := by rw [nI_eq (by omega) (by omega), nI_eq (by omega) (by omega)]; omega
  by_cases q : nI e1 < nI e2
  · rw [if_pos q, if_pos (hl.mp q)]
  · rw [if_neg q, if_neg (fun z => q (hl.mpr z))]
    congr 1
    exact decide_eq_decide.mpr he
theorem rank_eq {K : KS} {M : MK} (h : kRel K M) {c pl t : Nat} (hc : c < kN K) (ht : t < 100000) : rankK K c pl (nI t) = rankM M c (nI (pl / 2)) (nI (pl % 2 + 1)) (nI t) := by
  unfold rankK rankM
  rw [← h.1]
  exact cntN_congr (fun d hd => by rw [on_eq h hd ht, ahead_eq h hd hc, Bool.and_comm, Bool.and_assoc])
theorem holding_eq {K : KS} {M : MK} (h : kRel K M) {pl t : Nat} {i : Int32} (ht : t < 100000) : holdingK K pl (nI t) i = holdingM M (nI (pl / 2)) (nI (pl % 2 + 1)) (nI t) i := by
  unfold holdingK holdingM
  rw [← h.1]
  exact fstN_congr (fun c _ hc => by rw [on_eq h (by omega) ht, rank_eq h (by omega) ht, Bool.and_assoc])
