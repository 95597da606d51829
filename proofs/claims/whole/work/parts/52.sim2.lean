/-! the relation kept by each call -/
def liOk (M : MK) (t : Nat) : Prop := ∀ c, c < mN M → mLi M c = (-1 : Int32) ∨ ∃ l, l ≤ t ∧ mLi M c = nI l
def simP (C : CS) (M : MS) : Prop := kRel (cK C) (sK M) ∧ cR C = sR M ∧ cN C = sN M ∧ cW C = sW M ∧ cT C = sC M ∧ cT C ≤ 99999 ∧ rOk (cR C) ∧ liOk (sK M) (cT C)
def sim (C : CS) (M : MS) : Prop := simP C M ∧ ∀ pl, pl < 120 → cW C pl = clB (cK C) (cT C) pl
theorem cl_eq {C : CS} {M : MS} (h : simP C M) : clB (cK C) (cT C) = clM (sK M) (sC M) := by
  obtain ⟨h1, -, -, -, h5, h6, -⟩ := h
  funext pl
  show closedK (cK C) pl (nI (cT C)) = isClosedM (sK M) (nI (pl / 2)) (nI (pl % 2 + 1)) (nI (sC M))
  rw [closed_eq h1 (by omega), h5]
theorem tell_sim {C : CS} {M : MS} (h : simP C M) : sim (tellC C) (lookM M) := by
  have hc := cl_eq h
  obtain ⟨h1, h2, h3, h4, h5, h6, h7, h8⟩ := h
  refine ⟨⟨h1, h2, ?_, ?_, h5, h6, h7, h8⟩, fun pl hpl => ?_⟩
  · show lookN (cR C) (cW C) (clB (cK C) (cT C)) (nI (cT C)) (cN C) 120 = lookN (sR M) (sW M) (clM (sK M) (sC M)) (nI (sC M)) (sN M) 120
    rw [hc, h2, h3, h4, h5]
  · show toldB (cW C) (clB (cK C) (cT C)) 120 = toldB (sW M) (clM (sK M) (sC M)) 120
    rw [hc, h4]
  · show toldB (cW C) (clB (cK C) (cT C)) 120 pl = clB (cK C) (cT C) pl
    unfold toldB
    rw [if_pos hpl]
theorem tellC_n (C : CS) : nT (cN (tellC C)) ≤ nT (cN C) + 1200 := (lookN_le (cR C) (cW C) (clB (cK C) (cT C)) (nI (cT C)) (cN C) 120).2
theorem cRel_ext {K K' : KS} {M M' : MK} {c : Nat} (h : cRel K M c) (e1 : kKd K' c = kKd K c) (e2 : kPc K' c = kPc K c) (e3 : kSd K' c = kSd K c) (e4 : kSt K' c = kSt K c) (e5 : kEn K' c = kEn K c) (e6 : kXs K' c = kXs K c) (e7 : kAn K' c = kAn K c) (e8 : kWd K' c = kWd K c)
    (f1 : mKd M' c = mKd M c) (f2 : mPc M' c = mPc M c) (f3 : mSd M' c = mSd M c) (f4 : mFr M' c = mFr M c) (f5 : mTo M' c = mTo M c) (f6 : mNu M' c = mNu M c) (f7 : mAn M' c = mAn M c) (f8 : mLi M' c = mLi M c) (f9 : mWd M' c = mWd M c) : cRel K' M' c := by
  unfold cRel at h ⊢
  rw [e1, e2, e3, e4, e5, e6, e7, e8, f1, f2, f3, f4, f5, f6, f7, f8, f9]
  exact h
theorem add_rel {K : KS} {M : MK} {k p s a b x : Int32} (h : kRel K M) (hn : kN K < 100) (hb : bBad k p x = false) (hr : bRng k s a b x = false) : kRel (addK K k p s a (if bEnd k then b else nI 100000) x) (adM M k p s a b x) := by
  obtain ⟨h1, h2, h3, h4⟩ := h
  refine ⟨by show kN K + 1 = mN M + 1; omega, by show kN K + 1 ≤ 100; omega, h3, fun c hc => ?_⟩
  have hc2 : c < kN K + 1 := hc
  by_cases e : c = kN K
  · obtain ⟨hk, hb2⟩ := Bool.or_eq_false_iff.mp hb
    obtain ⟨hp, hx2⟩ := Bool.or_eq_false_iff.mp hb2
    obtain ⟨hs, hr2⟩ := Bool.or_eq_false_iff.mp hr
    obtain ⟨ha, hr3⟩ := Bool.or_eq_false_iff.mp hr2
    obtain ⟨he, hnu⟩ := Bool.or_eq_false_iff.mp hr3
    obtain ⟨ep, -, hp9⟩ := ix_in (by decide) (by decide) (notF hp)
    obtain ⟨es, hs1, hs9⟩ := ix_in (by decide) (by decide) (notF hs)
    obtain ⟨ea, -, ha9⟩ := ix_in (by decide) (by decide) (notF ha)
    have eM : c = mN M := by omega
    subst e
    unfold cRel
    show ((upd (kKd K) (kN K) k (kN K) = upd (mKd M) (mN M) k (kN K) ∧ upd (kPc K) (kN K) p (kN K) = upd (mPc M) (mN M) p (kN K) ∧ upd (kSd K) (kN K) s (kN K) = upd (mSd M) (mN M) s (kN K) ∧ upd (kSt K) (kN K) a (kN K) = upd (mFr M) (mN M) a (kN K) ∧ upd (kXs K) (kN K) x (kN K) = upd (mNu M) (mN M) x (kN K) ∧ upd (kWd K) (kN K) (-1 : Int32) (kN K) = upd (mWd M) (mN M) (-1 : Int32) (kN K)) ∧
      ((upd (kAn K) (kN K) (nI 0) (kN K) = nI 0 ∧ upd (mAn M) (mN M) (-1 : Int32) (kN K) = (-1 : Int32)) ∨ (upd (kAn K) (kN K) (nI 0) (kN K) = nI 1 ∧ upd (mAn M) (mN M) (-1 : Int32) (kN K) = nI 1) ∨ (upd (kAn K) (kN K) (nI 0) (kN K) = nI 2 ∧ upd (mAn M) (mN M) (-1 : Int32) (kN K) = nI 0)) ∧
      (∃ st, st ≤ 99999 ∧ upd (mFr M) (mN M) a (kN K) = nI st) ∧ (∃ pi, pi < 60 ∧ upd (mPc M) (mN M) p (kN K) = nI pi) ∧ (upd (mSd M) (mN M) s (kN K) = nI 1 ∨ upd (mSd M) (mN M) s (kN K) = nI 2 ∨ upd (mSd M) (mN M) s (kN K) = nI 3) ∧
      (∃ tt, (¬ noEnd (upd (mKd M) (mN M) k (kN K)) → tt ≤ 99999 ∧ upd (mTo M) (mN M) b (kN K) = nI tt) ∧
        ((upd (mLi M) (mN M) (-1 : Int32) (kN K) = (-1 : Int32) ∧ (noEnd (upd (mKd M) (mN M) k (kN K)) → upd (kEn K) (kN K) (if bEnd k then b else nI 100000) (kN K) = nI 100000) ∧ (¬ noEnd (upd (mKd M) (mN M) k (kN K)) → upd (kEn K) (kN K) (if bEnd k then b else nI 100000) (kN K) = nI tt)) ∨
         (∃ l, l ≤ 99999 ∧ upd (mLi M) (mN M) (-1 : Int32) (kN K) = nI l ∧ upd (kEn K) (kN K) (if bEnd k then b else nI 100000) (kN K) = nI l ∧ (¬ noEnd (upd (mKd M) (mN M) k (kN K)) → l < tt)))) ∧
      (upd (mKd M) (mN M) k (kN K) = nI 4 → ∃ x' : Nat, upd (mNu M) (mN M) x (kN K) = nI x' ∧ 1 ≤ x' / 100 ∧ x' / 100 ≤ 99 ∧ x' % 100 ≤ x' / 100) ∧ (upd (mKd M) (mN M) k (kN K) = nI 2 → ∃ i, i < 20 ∧ upd (mNu M) (mN M) x (kN K) = nI i))
    rw [← h1]
    simp only [pk_us]
    have hend : bEnd k = true ↔ ¬ noEnd k := by
      unfold bEnd noEnd
      rw [Bool.and_eq_true, Bool.not_eq_true', Bool.not_eq_true', decide_eq_false_iff_not, decide_eq_false_iff_not, not_or]
    refine ⟨⟨by trivial, by trivial, by trivial, by trivial, by trivial, by trivial⟩, Or.inl ⟨by trivial, by trivial⟩, ⟨ix a, ha9, ea⟩, ⟨ix p, by omega, ep⟩, ?_, ?_, ?_, ?_⟩
    · rcases (show ix s = 1 ∨ ix s = 2 ∨ ix s = 3 by omega) with z | z | z <;> rw [es, z]
      · exact Or.inl rfl
      · exact Or.inr (Or.inl rfl)
      · exact Or.inr (Or.inr rfl)
    · by_cases q : noEnd k
      · refine ⟨0, fun z => absurd q z, Or.inl ⟨by trivial, fun _ => ?_, fun z => absurd q z⟩⟩
        rw [if_neg (fun z => hend.mp z q)]
      · have hbe := hend.mpr q
        rw [hbe, Bool.true_and, Bool.or_eq_false_iff] at he
        obtain ⟨eb, -, hb9⟩ := ix_in (by decide) (by decide) (notF he.1)
        refine ⟨ix b, fun _ => ⟨hb9, eb⟩, Or.inl ⟨by trivial, fun z => absurd z q, fun _ => ?_⟩⟩
        rw [if_pos hbe]; exact eb
    · intro z
      have hnu2 := notF hnu
      rw [z, numM, if_pos rfl, Bool.and_eq_true, Bool.and_eq_true, Bool.not_eq_true', Bool.not_eq_true', decide_eq_false_iff_not, decide_eq_false_iff_not] at hnu2
      obtain ⟨n1, n2, n3⟩ := hnu2
      obtain ⟨ex, exi⟩ := ix_of (v := x) (by rw [Int32.lt_iff_toInt_lt] at n2; have z0 : (0 : Int32).toInt = 0 := rfl; omega)
      have hxb : ix x < 2 ^ 31 := by have z1 := Int32.toInt_lt x; omega
      rw [ex, pk_div hxb (by decide) (by decide)] at n1 n3
      have hrem : rI (nI (ix x)) (nI 100) = nI (ix x % 100) := pk_rem hxb (by decide) (by decide)
      rw [hrem] at n3
      rw [inI_iff, nI_toInt (by decide), nI_toInt (by omega), nI_toInt (by decide)] at n1
      have n4 : ¬ ix x / 100 < ix x % 100 := fun w => n3 (nI_lt w (by omega))
      exact ⟨ix x, ex, by omega, by omega, by omega⟩
    · intro z
      have := bad_2 hb z
      obtain ⟨ex, -, hx9⟩ := ix_in (by decide) (by decide) this
      exact ⟨ix x, by omega, ex⟩
  · have eM : ¬ c = mN M := by omega
    exact cRel_ext (h4 c (by omega)) (pk_un e) (pk_un e) (pk_un e) (pk_un e) (pk_un e) (pk_un e) (pk_un e) (pk_un e) (pk_un eM) (pk_un eM) (pk_un eM) (pk_un eM) (pk_un eM) (pk_un eM) (pk_un eM) (pk_un eM) (pk_un eM)
theorem inc_rel {K : KS} {M : MK} {i : Nat} {b : Bool} (h : kRel K M) : kRel (incK K i (bI b)) (opM M i (bI b)) := by
  obtain ⟨h1, h2, h3, h4⟩ := h
  refine ⟨h1, h2, fun j hj => ?_, h4⟩
  show upd (kIc K) i (bI b) j = upd (mOp M) i (bI b) j ∧ (upd (mOp M) i (bI b) j = 0 ∨ upd (mOp M) i (bI b) j = 1)
  by_cases e : j = i
  · rw [e, pk_us, pk_us]
    cases b
    · exact ⟨rfl, Or.inl rfl⟩
    · exact ⟨rfl, Or.inr rfl⟩
  · rw [pk_un e, pk_un e]; exact h3 j hj
theorem ans_rel {K : KS} {M : MK} {i : Nat} {b : Bool} (h : kRel K M) : kRel (ansK K i (if b then nI 1 else nI 2)) (anM M i (bI b)) := by
  obtain ⟨h1, h2, h3, h4⟩ := h
  refine ⟨h1, h2, h3, fun c hc => ?_⟩
  by_cases e : c = i
  · obtain ⟨g1, -, g3⟩ := h4 c hc
    refine ⟨g1, ?_, g3⟩
    show (upd (kAn K) i (if b then nI 1 else nI 2) c = nI 0 ∧ upd (mAn M) i (bI b) c = (-1 : Int32)) ∨ (upd (kAn K) i (if b then nI 1 else nI 2) c = nI 1 ∧ upd (mAn M) i (bI b) c = nI 1) ∨ (upd (kAn K) i (if b then nI 1 else nI 2) c = nI 2 ∧ upd (mAn M) i (bI b) c = nI 0)
    rw [e, pk_us, pk_us]
    cases b
    · exact Or.inr (Or.inr ⟨rfl, rfl⟩)
    · exact Or.inr (Or.inl ⟨rfl, rfl⟩)
  · exact cRel_ext (h4 c hc) rfl rfl rfl rfl rfl rfl (pk_un e) rfl rfl rfl rfl rfl rfl rfl (pk_un e) rfl rfl
theorem st_eq {K : KS} {M : MK} {i : Int32} (h : kRel K M) (hb : bCl (kN K) i = false) : stK K i = stA M i := by
  obtain ⟨ei, hi⟩ := ix_cl h.2.1 (notF hb)
  obtain ⟨⟨e1, -⟩, han, -⟩ := h.2.2.2 (ix i) hi
  unfold stK stA
  rw [← h.1, hb, Bool.not_false, Bool.true_and, e1]
  congr 2
  apply decide_eq_decide.mpr
  rcases han with ⟨a1, a2⟩ | ⟨a1, a2⟩ | ⟨a1, a2⟩ <;> rw [a1, a2] <;> decide
