/-! class and reference: every call's code and answer are one, and the relation is kept -/
def inv (C : CS) (M : MS) (k : Nat) : Prop := sim C M ∧ nT (cN C) ≤ 1200 * (cT C + k)
theorem three_eq {a b c a' b' c' : Bool} (h1 : a = a') (h2 : a = false → b = b') (h3 : a = false → b = false → c = c') : thrM a b c = thrM a' b' c' ∧ (a || b || c) = (a' || b' || c') := by
  subst h1
  cases a with
  | true => exact ⟨rfl, rfl⟩
  | false =>
    have h2 := h2 rfl
    subst h2
    cases b with
    | true => exact ⟨rfl, rfl⟩
    | false => rw [h3 rfl rfl]; exact ⟨rfl, rfl⟩
theorem thr0 {a b c : Bool} (h : thrM a b c = nI 0) : (a || b || c) = false := by
  cases a <;> cases b <;> cases c <;> first | rfl | exact absurd h (by decide)
theorem inv_E {C : CS} {M : MS} {k : Nat} {v : Int32} (h : inv C M k) : inv C (setE M v) (k + 1) := ⟨h.1, Nat.le_trans h.2 (by omega)⟩
theorem p_gen {C C' : CS} {M M' : MS} {k : Nat} {a b c a' b' c' : Bool} {f : Nat → Int64} {x r : Int32} (h : inv C M k) (e3 : thrM a b c = thrM a' b' c' ∧ (a || b || c) = (a' || b' || c'))
    (hT : (a' || b' || c') = true → M' = setE M (thrM a' b' c')) (hF : ok3 a b c → (a' || b' || c') = false → inv C' M' (k + 1) ∧ sE M' = thrM a' b' c' ∧ x = r) :
    inv (nxC (a || b || c) C C') M' (k + 1) ∧ sE M' = thrM a b c ∧ (thrM a b c = nI 0 → nxF (a || b || c) f x.toInt64 0 = r.toInt64) := by
  cases q : (a || b || c) with
  | true =>
    have q2 : (a' || b' || c') = true := by rw [← e3.2]; exact q
    have e := hT q2
    refine ⟨by rw [nxC_t rfl, e]; exact inv_E h, by rw [e, e3.1]; rfl, fun z => ?_⟩
    rw [thr0 z] at q; cases q
  | false =>
    have q2 : (a' || b' || c') = false := by rw [← e3.2]; exact q
    obtain ⟨g1, g2, g3⟩ := hF (orF3 q) q2
    refine ⟨by rw [nxC_f rfl]; exact g1, by rw [g2, e3.1], fun _ => ?_⟩
    rw [nxF_f rfl, g3]
    show (if 0 = 0 then r.toInt64 else f 0) = _
    rw [if_pos rfl]
theorem inv_tell {C : CS} {M : MS} {k n : Nat} (h : simP C M) (hn : nT (cN C) ≤ n) (hn2 : n ≤ 1200 * (cT C + k)) : inv (tellC C) (lookM M) (k + 1) := by
  refine ⟨tell_sim h, Nat.le_trans (tellC_n C) ?_⟩
  have e : cT (tellC C) = cT C := rfl
  rw [e]
  omega
theorem liOk_ad {K : MK} {t : Nat} {k p s a b x : Int32} (h : liOk K t) : liOk (adM K k p s a b x) t := by
  intro c hc
  have hc2 : c < mN K + 1 := hc
  show upd (mLi K) (mN K) (-1 : Int32) c = (-1 : Int32) ∨ ∃ l, l ≤ t ∧ upd (mLi K) (mN K) (-1 : Int32) c = nI l
  by_cases e : c = mN K
  · rw [e, pk_us]; exact Or.inl rfl
  · rw [pk_un e]; exact h c (by omega)
theorem liOk_li {K : MK} {t i : Nat} (h : liOk K t) : liOk (liM K i (nI t)) t := by
  intro c hc
  show upd (mLi K) i (nI t) c = (-1 : Int32) ∨ ∃ l, l ≤ t ∧ upd (mLi K) i (nI t) c = nI l
  by_cases e : c = i
  · rw [e, pk_us]; exact Or.inr ⟨t, Nat.le_refl _, rfl⟩
  · rw [pk_un e]; exact h c hc
theorem p_close {C : CS} {M : MS} {k : Nat} {f : Nat → Int64} {k1 p1 s1 a1 b1 x1 : Int32} (h : inv C M k) :
    inv (nxC ((bBad k1 p1 x1) || (bRng k1 s1 a1 b1 x1) || (decide (100 ≤ kN (cK C)))) C (closC C k1 p1 s1 a1 b1 x1)) (closMs M k1 p1 s1 a1 b1 x1) (k + 1) ∧ sE (closMs M k1 p1 s1 a1 b1 x1) = thrM (bBad k1 p1 x1) (bRng k1 s1 a1 b1 x1) (decide (100 ≤ kN (cK C))) ∧
    (thrM (bBad k1 p1 x1) (bRng k1 s1 a1 b1 x1) (decide (100 ≤ kN (cK C))) = nI 0 → nxF ((bBad k1 p1 x1) || (bRng k1 s1 a1 b1 x1) || (decide (100 ≤ kN (cK C)))) f (nI (kN (cK C))).toInt64 0 = (closMr M k1 p1 s1 a1 b1 x1).toInt64) := by
  obtain ⟨h1, h2, h3, h4, h5, h6, h7, h8⟩ := h.1.1
  have hn := h1.1
  have hn2 := h1.2.1
  refine p_gen h (three_eq rfl (fun _ => rfl) (fun _ _ => decide_eq_decide.mpr (show 100 ≤ kN (cK C) ↔ mN (sK M) = 100 by omega))) (fun q => by unfold closMs; rw [if_pos q]) (fun g q => ?_)
  have q' : ¬ noC M k1 p1 s1 a1 b1 x1 = true := by rw [Bool.not_eq_true]; exact q
  unfold closMs closMr
  rw [if_neg q', if_neg q']
  have g3 := of_decide_eq_false g.2.2
  refine ⟨inv_tell (C := setCK C _) ⟨add_rel h1 (by omega) g.1 g.2.1, h2, h3, h4, h5, h6, h7, liOk_ad h8⟩ (Nat.le_refl _) h.2, rfl, ?_⟩
  rw [hn]
theorem p_answer {C : CS} {M : MS} {k : Nat} {i1 : Int32} {b1 : Bool} (h : inv C M k) :
    inv (nxC ((bCl (kN (cK C)) i1) || (stK (cK C) i1) || false) C (ansC C i1 b1)) (ansMs M i1 b1) (k + 1) ∧ sE (ansMs M i1 b1) = thrM (bCl (kN (cK C)) i1) (stK (cK C) i1) false := by
  obtain ⟨h1, h2, h3, h4, h5, h6, h7, h8⟩ := h.1.1
  have hn := h1.1
  have z := p_gen (f := fun _ => 0) (x := 0) (r := 0) (C' := ansC C i1 b1) (M' := ansMs M i1 b1) (a' := bCl (mN (sK M)) i1) (b' := stA (sK M) i1) (c' := false) (c := false) (a := bCl (kN (cK C)) i1) (b := stK (cK C) i1) h (three_eq (by rw [hn]) (fun z => st_eq h1 z) (fun _ _ => rfl)) (fun q => by unfold ansMs; rw [if_pos q]) (fun g q => ?_)
  · exact ⟨z.1, z.2.1⟩
  · unfold ansMs
    rw [if_neg (by rw [q]; decide)]
    exact ⟨inv_tell (C := setCK C _) ⟨ans_rel h1, h2, h3, h4, h5, h6, h7, h8⟩ (Nat.le_refl _) h.2, rfl, rfl⟩
theorem p_incident {C : CS} {M : MS} {k : Nat} {i1 : Int32} {b1 : Bool} (h : inv C M k) :
    inv (nxC ((bIn i1) || false || false) C (incC C i1 b1)) (incMs M i1 b1) (k + 1) ∧ sE (incMs M i1 b1) = thrM (bIn i1) false false := by
  obtain ⟨h1, h2, h3, h4, h5, h6, h7, h8⟩ := h.1.1
  have z := p_gen (f := fun _ => 0) (x := 0) (r := 0) (C' := incC C i1 b1) (M' := incMs M i1 b1) (a' := bIn i1) (b' := false) (c' := false) (c := false) (a := bIn i1) (b := false) h ⟨rfl, rfl⟩ (fun q => by unfold incMs; rw [if_pos q]) (fun g q => ?_)
  · exact ⟨z.1, z.2.1⟩
  · unfold incMs
    rw [if_neg (by rw [q]; decide)]
    exact ⟨inv_tell (C := setCK C _) ⟨inc_rel h1, h2, h3, h4, h5, h6, h7, h8⟩ (Nat.le_refl _) h.2, rfl, rfl⟩
theorem give_cl {K : KS} {c : Nat} {v : Int32} {t : Nat} : clB (giveK K c v) t = clB K t := by
  unfold giveK
  split
  · rfl
  · rfl
theorem p_lift {C : CS} {M : MS} {k : Nat} {f : Nat → Int64} {i1 v1 : Int32} (h : inv C M k) :
    inv (nxC ((bCl (kN (cK C)) i1) || (bBy v1) || (ovK (cK C) (cT C) i1)) C (liftC C i1 v1)) (liftMs M i1 v1) (k + 1) ∧ sE (liftMs M i1 v1) = thrM (bCl (kN (cK C)) i1) (bBy v1) (ovK (cK C) (cT C) i1) ∧
    (thrM (bCl (kN (cK C)) i1) (bBy v1) (ovK (cK C) (cT C) i1) = nI 0 → nxF ((bCl (kN (cK C)) i1) || (bBy v1) || (ovK (cK C) (cT C) i1)) f (bI (gaveK (cK C) (ix i1) v1)).toInt64 0 = (liftMr M i1 v1).toInt64) := by
  obtain ⟨h1, h2, h3, h4, h5, h6, h7, h8⟩ := h.1.1
  have hn := h1.1
  refine p_gen (a' := bCl (mN (sK M)) i1) (b' := bBy v1) (c' := ovL (sK M) (sC M) i1) h (three_eq (by rw [hn]) (fun _ => rfl) (fun z _ => by rw [← h5]; exact ov_eq h1 h8 h6 z)) (fun q => by unfold liftMs; rw [if_pos q]) (fun g q => ?_)
  obtain ⟨e1, e2, e3⟩ := gave_eq h1 g.1 g.2.1
  have q' : ¬ noL M i1 v1 = true := by rw [Bool.not_eq_true]; exact q
  unfold liftMs liftMr liftC
  rw [if_neg q', if_neg q', e1]
  cases w : keepW (sK M) i1 v1 with
  | true =>
    rw [if_pos rfl, if_pos rfl, if_neg (by decide)]
    refine ⟨⟨⟨⟨e2 w, h2, h3, h4, h5, h6, h7, h8⟩, fun pl hpl => ?_⟩, Nat.le_trans h.2 (by show _ ≤ 1200 * (cT C + (k + 1)); omega)⟩, rfl, rfl⟩
    show cW C pl = clB (giveK (cK C) (ix i1) v1) (cT C) pl
    rw [give_cl]; exact h.1.2 pl hpl
  | false =>
    rw [if_pos (show (!false) = true from rfl), if_neg (show ¬ false = true by decide), if_neg (show ¬ false = true by decide), e3 w]
    have ho : ovL (sK M) (cT C) i1 = false := by rw [← ov_eq h1 h8 h6 g.1]; exact g.2.2
    refine ⟨inv_tell (C := setCK C _) ⟨?_, h2, h3, h4, h5, h6, h7, ?_⟩ (Nat.le_refl _) h.2, rfl, rfl⟩
    · rw [← h5]; exact lift_rel h1 h6 g.1 ho
    · rw [← h5]; exact liOk_li h8
theorem p_step {C : CS} {M : MS} {k : Nat} {f : Nat → Int64} {u1 p1 s1 : Int32} (h : inv C M k) :
    inv (nxC ((bUp u1 p1) || (bSd p1 s1) || (fuR (cR C) u1 p1)) C (stepC C u1 p1 s1)) (stepMs M u1 p1 s1) (k + 1) ∧ sE (stepMs M u1 p1 s1) = thrM (bUp u1 p1) (bSd p1 s1) (fuR (cR C) u1 p1) ∧
    (thrM (bUp u1 p1) (bSd p1 s1) (fuR (cR C) u1 p1) = nI 0 → nxF ((bUp u1 p1) || (bSd p1 s1) || (fuR (cR C) u1 p1)) f (stepCr C u1 p1).toInt64 0 = (stepMr M u1 p1 s1).toInt64) := by
  obtain ⟨h1, h2, h3, h4, h5, h6, h7, h8⟩ := h.1.1
  have hu : bUp u1 p1 = false → u1 = nI (ix u1) ∧ ix u1 < 10 := fun z => by
    obtain ⟨e1, -, e2⟩ := ix_in (by decide) (by decide) (notF (Bool.or_eq_false_iff.mp z).1)
    exact ⟨e1, by omega⟩
  refine p_gen (a' := bUp u1 p1) (b' := bSd p1 s1) (c' := bFl (sR M) u1 p1) h (three_eq rfl (fun _ => rfl) (fun z _ => ?_)) (fun q => by unfold stepMs; rw [if_pos q]) (fun g q => ?_)
  · have hb := (h7 (ix u1) (hu z).2).1
    unfold fuR bFl
    rw [z, Bool.not_false, Bool.true_and, ← h2]
    congr 1
    exact decide_eq_decide.mpr (by omega)
  · have q' : ¬ noS M u1 p1 s1 = true := by rw [Bool.not_eq_true]; exact q
    obtain ⟨eu, hu9⟩ := hu g.1
    unfold stepMs stepMr stepC stepCr
    rw [if_neg q', if_neg q']
    have hg3 := g.2.2
    unfold fuR at hg3
    by_cases pm : p1 = (-1 : Int32)
    · rw [if_pos pm, if_pos pm, if_pos pm, if_pos pm]
      exact ⟨⟨⟨⟨h1, congrArg (fun R => emptyR R (ix u1)) h2, h3, h4, h5, h6, emptyR_ok h7, h8⟩, h.1.2⟩, Nat.le_trans h.2 (by show _ ≤ 1200 * (cT C + (k + 1)); omega)⟩, rfl, rfl⟩
    · rw [if_neg pm, if_neg pm, if_neg pm, if_neg pm]
      have hp : inI p1 (nI 0) (nI 59) = true := by
        have z := (Bool.or_eq_false_iff.mp g.1).2
        rw [decide_eq_false pm, Bool.not_false, Bool.true_and] at z
        exact notF z
      have hs : inI s1 (nI 1) (nI 2) = true := by
        have z := g.2.1
        unfold bSd at z
        rw [decide_eq_false pm, Bool.not_false, Bool.true_and] at z
        exact notF z
      obtain ⟨-, -, hp9⟩ := ix_in (by decide) (by decide) hp
      obtain ⟨-, hs8, hs9⟩ := ix_in (by decide) (by decide) hs
      have epl : 2 * ix p1 + ix s1 - 1 = plI p1 s1 := by unfold plI; omega
      rw [decide_eq_false pm, Bool.not_false, Bool.true_and] at hg3
      have hl : rL (cR C) (ix u1) < 12 := by have z := of_decide_eq_false hg3; omega
      rw [epl]
      refine ⟨⟨⟨⟨h1, congrArg (fun R => stepR R (ix u1) (plI p1 s1)) h2, h3, h4, h5, h6, stepR_ok h7 hu9 hl (by unfold plI; omega), h8⟩, h.1.2⟩, Nat.le_trans h.2 (by show _ ≤ 1200 * (cT C + (k + 1)); omega)⟩, rfl, ?_⟩
      rw [h2]
theorem tk_eq {t : Nat} {v : Int32} (ht : t ≤ 99999) : bTk t v = bTi t v ∧ (bTk t v = false → v = nI (ix v) ∧ t + ix v ≤ 99999) := by
  unfold bTk bTi
  cases q : inI v (nI 1) (nI 2000) with
  | false => exact ⟨rfl, fun z => absurd z (by rw [Bool.not_false, Bool.true_or]; decide)⟩
  | true =>
    obtain ⟨e1, e2, e3⟩ := ix_in (by decide) (by decide) q
    rw [Bool.not_true, Bool.false_or, Bool.false_or]
    generalize hj : ix v = j at *
    rw [e1, pk_sub ht, nI_add]
    by_cases g : t + j ≤ 99999
    · rw [decide_eq_false (nI_nlt (show j ≤ 99999 - t by omega) (by omega)), decide_eq_true (nI_le g (by omega))]
      exact ⟨rfl, fun _ => ⟨rfl, g⟩⟩
    · rw [decide_eq_true (nI_lt (show 99999 - t < j by omega) (by omega)), decide_eq_false (nI_ge (show 99999 < t + j by omega) (by omega))]
      exact ⟨rfl, fun z => absurd z (by decide)⟩
theorem p_tick {C : CS} {M : MS} {k : Nat} {f : Nat → Int64} {v1 : Int32} (h : inv C M k) :
    inv (nxC ((bTk (cT C) v1) || false || false) C ((tkS C (ix v1)).1)) (tickMs M v1) (k + 1) ∧ sE (tickMs M v1) = thrM (bTk (cT C) v1) false false ∧
    (thrM (bTk (cT C) v1) false false = nI 0 → nxF ((bTk (cT C) v1) || false || false) f (tickCr C v1).toInt64 0 = (tickMr M v1).toInt64) := by
  obtain ⟨h1, h2, h3, h4, h5, h6, h7, h8⟩ := h.1.1
  obtain ⟨e1, e2⟩ := tk_eq (v := v1) h6
  refine p_gen (a' := bTi (sC M) v1) (b' := false) (c' := false) h (three_eq (by rw [← h5]; exact e1) (fun _ => rfl) (fun _ _ => rfl)) (fun q => by unfold tickMs; rw [if_pos q]) (fun g q => ?_)
  have q' : ¬ (bTi (sC M) v1 || false || false) = true := by rw [q]; decide
  obtain ⟨ev, hv⟩ := e2 g.1
  have hM : tickMs M v1 = tickN (setE M (thrM (bTi (sC M) v1) false false)) (ix v1) := by unfold tickMs; rw [if_neg q']
  have hs : sim C (setE M (thrM (bTi (sC M) v1) false false)) := h.1
  have hk := (tick_sim hs (ix v1) hv).1
  have hc := tkS_K C (ix v1)
  have hm := tickN_K (setE M (thrM (bTi (sC M) v1) false false)) (ix v1)
  refine ⟨⟨by rw [hM]; exact hk, ?_⟩, by rw [hM, hm.2.2.2.1]; rfl, ?_⟩
  · rw [hc.2.2.1]
    have z := hc.2.2.2
    have z2 := h.2
    generalize nT (cN (tkS C (ix v1)).1) = A1 at *
    omega
  · unfold tickCr tickMr
    rw [if_neg q', hM, ← hk.1.2.2.1, h3]
theorem opnN_congr {P P' : Nat → Bool} {n : Nat} : ∀ {k : Nat}, (∀ d, k ≤ d → d < k + n → P d = P' d) → opnN P k n = opnN P' k n := by
  induction n with
  | zero => intro k _; rfl
  | succ n ih =>
    intro k h
    rw [opnN, opnN, h k (Nat.le_refl _) (by omega), ih (fun d h1 h2 => h d (by omega) (by omega))]
theorem sumN_congr {P P' : Nat → Bool} {a n : Nat} (h : ∀ d, a ≤ d → d < a + n → P d = P' d) : sumN P a n = sumN P' a n := by
  induction n with
  | zero => rfl
  | succ n ih => rw [sumN, sumN, ih (fun d h1 h2 => h d h1 (by omega)), h (a + n) (by omega) (by omega)]
theorem st_in {s t : Int32} (h : bSt s t = false) : inI s (nI 1) (nI 2) = true ∧ inI t (nI 0) (nI 99999) = true := ⟨notF (Bool.or_eq_false_iff.mp h).1, notF (Bool.or_eq_false_iff.mp h).2⟩
theorem pl_eq {K : KS} {M : MK} {p s : Int32} (h : kRel K M) (h1 : bPc p = false) (h2 : inI s (nI 1) (nI 2) = true) {t : Nat} (ht : t < 100000) : closedK K (plI p s) (nI t) = isClosedM M p s (nI t) := by
  obtain ⟨-, e1, e2, e3, e4⟩ := plI_lt h1 h2
  rw [closed_eq h ht, e1, e2, ← e3, ← e4]
theorem p_closed {C : CS} {M : MS} {k : Nat} {f : Nat → Int64} {p1 s1 t1 : Int32} (h : inv C M k) :
    inv (nxC ((bPc p1) || (bSt s1 t1) || false) C C) (closedMs M p1 s1 t1) (k + 1) ∧ sE (closedMs M p1 s1 t1) = thrM (bPc p1) (bSt s1 t1) false ∧
    (thrM (bPc p1) (bSt s1 t1) false = nI 0 → nxF ((bPc p1) || (bSt s1 t1) || false) f (bI (closedK (cK C) (plI p1 s1) t1)).toInt64 0 = (closedMr M p1 s1 t1).toInt64) := by
  refine p_gen h ⟨rfl, rfl⟩ (fun q => rfl) (fun g q => ⟨inv_E h, rfl, ?_⟩)
  unfold closedMr
  rw [if_neg (by rw [q]; decide)]
  obtain ⟨i1, i2⟩ := st_in g.2.1
  obtain ⟨et, -, ht⟩ := ix_in (by decide) (by decide) i2
  rw [et, pl_eq h.1.1.1 g.1 i1 (by omega)]
theorem p_opens {C : CS} {M : MS} {k : Nat} {f : Nat → Int64} {p1 s1 t1 : Int32} (h : inv C M k) :
    inv (nxC ((bPc p1) || (bSt s1 t1) || false) C C) (closedMs M p1 s1 t1) (k + 1) ∧ sE (closedMs M p1 s1 t1) = thrM (bPc p1) (bSt s1 t1) false ∧
    (thrM (bPc p1) (bSt s1 t1) false = nI 0 → nxF ((bPc p1) || (bSt s1 t1) || false) f (opCr C p1 s1 t1).toInt64 0 = (opensMr M p1 s1 t1).toInt64) := by
  refine p_gen h ⟨rfl, rfl⟩ (fun q => rfl) (fun g q => ⟨inv_E h, rfl, ?_⟩)
  unfold opensMr opCr
  rw [if_neg (by rw [q]; decide)]
  obtain ⟨i1, i2⟩ := st_in g.2.1
  obtain ⟨et, -, ht⟩ := ix_in (by decide) (by decide) i2
  exact opnN_congr (fun d h1 h2 => pl_eq h.1.1.1 g.1 i1 (by omega))
theorem p_minutes {C : CS} {M : MS} {k : Nat} {f : Nat → Int64} {p1 s1 a1 b1 : Int32} (h : inv C M k) :
    inv (nxC ((bPc p1) || (bMi s1 a1 b1) || false) C C) (minMs M p1 s1 a1 b1) (k + 1) ∧ sE (minMs M p1 s1 a1 b1) = thrM (bPc p1) (bMi s1 a1 b1) false ∧
    (thrM (bPc p1) (bMi s1 a1 b1) false = nI 0 → nxF ((bPc p1) || (bMi s1 a1 b1) || false) f (minCr C p1 s1 a1 b1).toInt64 0 = (minMr M p1 s1 a1 b1).toInt64) := by
  refine p_gen h ⟨rfl, rfl⟩ (fun q => rfl) (fun g q => ⟨inv_E h, rfl, ?_⟩)
  unfold minMr minCr
  rw [if_neg (by rw [q]; decide)]
  have g2 := Bool.or_eq_false_iff.mp g.2.1
  have g3 := Bool.or_eq_false_iff.mp g2.2
  have g4 := Bool.or_eq_false_iff.mp g3.2
  obtain ⟨eb, -, hb⟩ := ix_in (by decide) (by decide) (notF g4.1)
  exact congrArg nI (sumN_congr (fun d h1 h2 => pl_eq h.1.1.1 g.1 (notF g2.1) (by omega)))
theorem p_reason {C : CS} {M : MS} {k : Nat} {f : Nat → Int64} {p1 s1 t1 i1 : Int32} (h : inv C M k) :
    inv (nxC ((bPc p1) || (bRe s1 t1 i1) || false) C C) (reasMs M p1 s1 t1 i1) (k + 1) ∧ sE (reasMs M p1 s1 t1 i1) = thrM (bPc p1) (bRe s1 t1 i1) false ∧
    (thrM (bPc p1) (bRe s1 t1 i1) false = nI 0 → nxF ((bPc p1) || (bRe s1 t1 i1) || false) f (holdingK (cK C) (plI p1 s1) t1 i1).toInt64 0 = (reasMr M p1 s1 t1 i1).toInt64) := by
  refine p_gen h ⟨rfl, rfl⟩ (fun q => rfl) (fun g q => ⟨inv_E h, rfl, ?_⟩)
  unfold reasMr
  rw [if_neg (by rw [q]; decide)]
  have g2 := Bool.or_eq_false_iff.mp g.2.1
  have g3 := Bool.or_eq_false_iff.mp g2.2
  obtain ⟨et, -, ht⟩ := ix_in (by decide) (by decide) (notF g3.1)
  obtain ⟨-, e1, e2, e3, e4⟩ := plI_lt g.1 (notF g2.1)
  rw [et, holding_eq h.1.1.1 (by omega), e1, e2, ← e3, ← e4]
theorem p_speed {C : CS} {M : MS} {k : Nat} {f : Nat → Int64} {p1 s1 t1 : Int32} (h : inv C M k) :
    inv (nxC ((bPc p1) || (bSt s1 t1) || false) C C) (closedMs M p1 s1 t1) (k + 1) ∧ sE (closedMs M p1 s1 t1) = thrM (bPc p1) (bSt s1 t1) false ∧
    (thrM (bPc p1) (bSt s1 t1) false = nI 0 → nxF ((bPc p1) || (bSt s1 t1) || false) f (percentK (cK C) (plI p1 s1) t1).toInt64 0 = (speedMr M p1 s1 t1).toInt64) := by
  refine p_gen h ⟨rfl, rfl⟩ (fun q => rfl) (fun g q => ⟨inv_E h, rfl, ?_⟩)
  unfold speedMr
  rw [if_neg (by rw [q]; decide)]
  obtain ⟨i1, i2⟩ := st_in g.2.1
  obtain ⟨et, -, ht⟩ := ix_in (by decide) (by decide) i2
  obtain ⟨-, e1, e2, e3, e4⟩ := plI_lt g.1 i1
  rw [et, perc_eq h.1.1.1 (by omega), e1, e2, ← e3, ← e4]
theorem no_eq {n : Nat} {i w : Int32} (hn : n < 2 ^ 30) : noK n i w = bNo n i w := by
  unfold noK bNo
  congr 2
  rw [Bool.eq_iff_iff, inI_iff, Bool.and_eq_true, Bool.and_eq_true, Bool.not_eq_true', Bool.not_eq_true', Bool.not_eq_true', decide_eq_false_iff_not, decide_eq_false_iff_not, decide_eq_false_iff_not, Int32.lt_iff_toInt_lt, Int32.lt_iff_toInt_lt, Int32.le_iff_toInt_le, nI_toInt (by omega), pk_sub_toInt (by omega) (by decide), pk_sub_toInt (by omega) (by decide)]
  have e0 : ((0 : Int32)).toInt = 0 := rfl
  rw [e0]
  unfold loN
  by_cases c : nI n ≤ nI 100
  · have c2 := (nI_leI (by omega) (by decide)).mp c
    rw [if_pos c, nI_toInt (by decide)]
    omega
  · have c2 : ¬ n ≤ 100 := fun z => c (nI_le z (by decide))
    rw [if_neg c, pk_sub_toInt (by omega) (by decide)]
    omega
theorem p_notice {C : CS} {M : MS} {k : Nat} {f : Nat → Int64} {i1 w1 : Int32} (h : inv C M k) (hk : nT (cN C) < 2 ^ 30) :
    inv (nxC ((noK (nT (cN C)) i1 w1) || false || false) C C) (notMs M i1 w1) (k + 1) ∧ sE (notMs M i1 w1) = thrM (noK (nT (cN C)) i1 w1) false false ∧
    (thrM (noK (nT (cN C)) i1 w1) false false = nI 0 → nxF ((noK (nT (cN C)) i1 w1) || false || false) f (nRw (cN C) (fstT (ix i1) + ix w1)).toInt64 0 = (notMr M i1 w1).toInt64) := by
  have h3 := h.1.1.2.2.1
  refine p_gen (a' := bNo (nT (sN M)) i1 w1) (b' := false) (c' := false) h (three_eq (by rw [← h3]; exact no_eq hk) (fun _ => rfl) (fun _ _ => rfl)) (fun q => rfl) (fun g q => ⟨inv_E h, rfl, ?_⟩)
  unfold notMr
  rw [if_neg (by rw [q]; decide), h3]
theorem p_blocked {C : CS} {M : MS} {k : Nat} {f : Nat → Int64} {u1 : Int32} (h : inv C M k) :
    inv (nxC ((bUn u1) || false || false) C C) (blkMs M u1) (k + 1) ∧ sE (blkMs M u1) = thrM (bUn u1) false false ∧
    (thrM (bUn u1) false false = nI 0 → nxF ((bUn u1) || false || false) f (blkCr C u1).toInt64 0 = (blkMr M u1).toInt64) := by
  obtain ⟨h1, h2, h3, h4, h5, h6, h7, h8⟩ := h.1.1
  refine p_gen h ⟨rfl, rfl⟩ (fun q => rfl) (fun g q => ⟨inv_E h, rfl, ?_⟩)
  unfold blkMr blkCr
  rw [if_neg (by rw [q]; decide), h2]
  refine congrArg nI (cntN_congr (fun d _ => ?_))
  unfold plB
  rw [closed_eq h1 (by omega), h5]
theorem inv.c {C : CS} {M : MS} {k : Nat} (h : inv C M k) (hk : k ≤ 512) : cOk C ∧ segOn (cK C) ∧ mOk (sK M) ∧ rOk (sR M) ∧ nT (sN M) + 1200 < 2 ^ 30 ∧ nT (sN M) + 2401200 < 2 ^ 30 ∧ nT (cN C) < 2 ^ 30 := by
  obtain ⟨h1, h2, h3, h4, h5, h6, h7, h8⟩ := h.1.1
  have hn := h.2
  have hb : nT (cN C) + 2401200 < 2 ^ 30 := by omega
  rw [← h2, ← h3]
  exact ⟨⟨h1.okK, h7, hb⟩, seg_on h1.rgs, h1.okM, h7, by omega, hb, by omega⟩
theorem inv_0 : inv C0 M0 0 := by
  refine ⟨⟨⟨⟨rfl, by decide, fun i _ => ⟨rfl, Or.inl rfl⟩, fun c hc => absurd hc (Nat.not_lt_zero c)⟩, rfl, rfl, rfl, rfl, by decide, fun u _ => ⟨Nat.zero_le 12, fun k hk => absurd hk (Nat.not_lt_zero k)⟩, fun c hc => absurd hc (Nat.not_lt_zero c)⟩, fun pl _ => rfl⟩, by decide⟩
