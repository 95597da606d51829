/-! lift, step, tick -/
theorem ov_eq {K : KS} {M : MK} {i : Int32} {t : Nat} (h : kRel K M) (hl : liOk M t) (ht : t ≤ 99999) (hb : bCl (kN K) i = false) : ovK K t i = ovL M t i := by
  obtain ⟨ei, hi⟩ := ix_cl h.2.1 (notF hb)
  obtain ⟨⟨e1, -⟩, -, -, -, -, ⟨tt, ht1, ht2⟩, -, -⟩ := h.2.2.2 (ix i) hi
  unfold ovK ovL
  rw [← h.1, hb, Bool.not_false, Bool.true_and, e1]
  rcases ht2 with ⟨a0, a1, a2⟩ | ⟨l, hl9, el, eK, -⟩
  · rw [decide_eq_true a0, Bool.not_true, Bool.false_or]
    by_cases k4 : mKd M (ix i) = nI 4
    · rw [decide_eq_true k4]; rfl
    · rw [decide_eq_false k4, Bool.not_false, Bool.true_and, Bool.false_or, Bool.not_not]
      by_cases q : noEnd (mKd M (ix i))
      · rw [a1 q, decide_eq_false (nI_ge (show t < 100000 by omega) (by omega))]
        rcases q with q | q
        · rw [decide_eq_true q]; rfl
        · rw [decide_eq_true q, Bool.not_true, Bool.false_and, Bool.and_false]
      · obtain ⟨b1, b2⟩ := ht1 q
        rw [a2 q, b2, decide_eq_false (fun z => q (Or.inl z)), decide_eq_false (fun z => q (Or.inr z)), Bool.not_false, Bool.true_and, Bool.true_and]
        by_cases g : t < tt
        · rw [decide_eq_false (nI_ge g (by omega)), decide_eq_true (nI_lt g (by omega))]; rfl
        · rw [decide_eq_true (nI_le (show tt ≤ t by omega) (by omega)), decide_eq_false (nI_nlt (show tt ≤ t by omega) (by omega))]; rfl
  · have hlt : l ≤ t := by
      rcases hl (ix i) (by rw [← h.1]; exact hi) with z | ⟨l2, g1, g2⟩
      · rw [el] at z; exact absurd z (nI_nm1 (by omega))
      · rw [el] at g2; have := (nI_eq (by omega) (by omega)).mp g2; omega
    rw [el, eK, decide_eq_false (nI_nm1 (show l < 2 ^ 31 by omega)), decide_eq_true (nI_le hlt (by omega)), Bool.not_true, Bool.and_false]
    rfl
theorem gave_eq {K : KS} {M : MK} {i v : Int32} (h : kRel K M) (hb : bCl (kN K) i = false) (hv : bBy v = false) : gaveK K (ix i) v = !keepW M i v ∧
    (keepW M i v = true → kRel (giveK K (ix i) v) (wdM M (ix i) v)) ∧ (keepW M i v = false → giveK K (ix i) v = K) := by
  obtain ⟨ei, hi⟩ := ix_cl h.2.1 (notF hb)
  obtain ⟨h1, h2, h3, h4⟩ := h
  obtain ⟨⟨e1, -, -, -, -, e6⟩, -⟩ := h4 (ix i) hi
  obtain ⟨ev, -, hv9⟩ := ix_in (by decide) (by decide) (notF hv)
  have hvm : ¬ v = (-1 : Int32) := by rw [ev]; exact nI_nm1 (by omega)
  have hrel : ∀ K', (kKd K' = kKd K ∧ kPc K' = kPc K ∧ kSd K' = kSd K ∧ kSt K' = kSt K ∧ kEn K' = kEn K ∧ kXs K' = kXs K ∧ kAn K' = kAn K ∧ kIc K' = kIc K ∧ kN K' = kN K) → (∀ c, c < kN K → kWd K' c = upd (mWd M) (ix i) v c) → kRel K' (wdM M (ix i) v) := by
    intro K' ⟨g1, g2, g3, g4, g5, g6, g7, g8, g9⟩ hw
    refine ⟨by rw [g9]; exact h1, by rw [g9]; exact h2, by rw [g8]; exact h3, fun c hc => ?_⟩
    rw [g9] at hc
    obtain ⟨⟨q1, q2, q3, q4, q5, q6⟩, qr⟩ := h4 c hc
    unfold cRel
    rw [g1, g2, g3, g4, g5, g6, g7]
    exact ⟨⟨q1, q2, q3, q4, q5, hw c hc⟩, qr⟩
  unfold gaveK keepW giveK
  by_cases k3 : kKd K (ix i) = nI 3
  · have k3' : mKd M (ix i) = nI 3 := by rw [← e1]; exact k3
    rw [decide_eq_true k3, decide_eq_true k3', Bool.not_true, Bool.false_or, Bool.true_and, ← e6]
    by_cases w1 : kWd K (ix i) = (-1 : Int32)
    · rw [if_pos ⟨k3, w1⟩, decide_eq_true w1, Bool.true_or]
      refine ⟨?_, fun _ => hrel _ ⟨rfl, rfl, rfl, rfl, rfl, rfl, rfl, rfl, rfl⟩ (fun c hc => ?_), fun z => absurd z (by decide)⟩
      · rw [decide_eq_true (show kWd (wrdK K (ix i) v) (ix i) = v from pk_us)]
      · show upd (kWd K) (ix i) v c = upd (mWd M) (ix i) v c
        by_cases e : c = ix i
        · rw [e, pk_us, pk_us]
        · rw [pk_un e, pk_un e]; exact (h4 c hc).1.2.2.2.2.2
    · rw [if_neg (fun z => w1 z.2), decide_eq_false w1, Bool.false_or]
      refine ⟨rfl, fun z => hrel _ ⟨rfl, rfl, rfl, rfl, rfl, rfl, rfl, rfl, rfl⟩ (fun c hc => ?_), fun _ => rfl⟩
      by_cases e : c = ix i
      · rw [e, pk_us]; exact of_decide_eq_true z
      · rw [pk_un e]; exact (h4 c hc).1.2.2.2.2.2
  · have k3' : ¬ mKd M (ix i) = nI 3 := by rw [← e1]; exact k3
    rw [decide_eq_false k3, decide_eq_false k3', if_neg (fun z => k3 z.1)]
    exact ⟨rfl, fun z => absurd z (by rw [Bool.false_and]; decide), fun _ => rfl⟩
theorem lift_rel {K : KS} {M : MK} {i : Int32} {t : Nat} (h : kRel K M) (ht : t ≤ 99999) (hb : bCl (kN K) i = false) (ho : ovL M t i = false) : kRel (endK K (ix i) (nI t)) (liM M (ix i) (nI t)) := by
  obtain ⟨ei, hi⟩ := ix_cl h.2.1 (notF hb)
  have hn := h.1
  obtain ⟨h1, h2, h3, h4⟩ := h
  unfold ovL at ho
  rw [← hn, hb, Bool.not_false, Bool.true_and, Bool.or_eq_false_iff, Bool.or_eq_false_iff] at ho
  obtain ⟨o1, o2, o3⟩ := ho
  have a0 := of_decide_eq_true (notF o1)
  refine ⟨h1, h2, h3, fun c hc => ?_⟩
  by_cases e : c = ix i
  · obtain ⟨g1, g2, g3, g4, g5, ⟨tt, ht1, -⟩, g7⟩ := h4 c hc
    refine ⟨g1, g2, g3, g4, g5, ⟨tt, ht1, Or.inr ⟨t, ht, ?_, ?_, fun q => ?_⟩⟩, g7⟩
    · show upd (mLi M) (ix i) (nI t) c = nI t; rw [e, pk_us]
    · show upd (kEn K) (ix i) (nI t) c = nI t; rw [e, pk_us]
    · have q' : ¬ noEnd (mKd M c) := q
      obtain ⟨b1, b2⟩ := ht1 q'
      rw [e] at q' b2
      rw [decide_eq_false (fun z => q' (Or.inl z)), decide_eq_false (fun z => q' (Or.inr z)), Bool.not_false, Bool.true_and, Bool.true_and, b2] at o3
      exact (nI_ltI (by omega) (by omega)).mp (of_decide_eq_true (notF o3))
  · exact cRel_ext (h4 c hc) rfl rfl rfl rfl (pk_un e) rfl rfl rfl rfl rfl rfl rfl rfl rfl rfl (pk_un e) rfl
theorem stepR_ok {R : RS} {u pl : Nat} (h : rOk R) (hu : u < 10) (hl : rL R u < 12) (hp : pl < 120) : rOk (stepR R u pl) := by
  intro v hv
  have h0 := h v hv
  show updN (rL R) u (rL R u + 1) v ≤ 12 ∧ ∀ k, k < updN (rL R) u (rL R u + 1) v → updN (rP R) (u * 12 + rL R u) pl (v * 12 + k) < 120
  unfold updN
  by_cases e : v = u
  · subst e
    rw [if_pos rfl]
    refine ⟨by omega, fun k hk => ?_⟩
    by_cases e2 : v * 12 + k = v * 12 + rL R v
    · rw [if_pos e2]; exact hp
    · rw [if_neg e2]; exact h0.2 k (by omega)
  · rw [if_neg e]
    refine ⟨h0.1, fun k hk => ?_⟩
    rw [if_neg (by have := h0.1; omega)]
    exact h0.2 k hk
theorem emptyR_ok {R : RS} {u : Nat} (h : rOk R) : rOk (emptyR R u) := by
  intro v hv
  show updN (rL R) u 0 v ≤ 12 ∧ ∀ k, k < updN (rL R) u 0 v → rP R (v * 12 + k) < 120
  unfold updN
  by_cases e : v = u
  · rw [if_pos e]; exact ⟨by omega, fun k hk => by omega⟩
  · rw [if_neg e]; exact h v hv
theorem liOk_mono {M : MK} {t t2 : Nat} (h : liOk M t) (h2 : t ≤ t2) : liOk M t2 := by
  intro c hc
  rcases h c hc with z | ⟨l, a, b⟩
  · exact Or.inl z
  · exact Or.inr ⟨l, by omega, b⟩
/-- a minute in which nothing changes tells nothing -/
theorem look_no {C : CS} {M : MS} (h : simP C M) (hw : ∀ pl, pl < 120 → cW C pl = clB (cK C) (cT C) pl) : sim C (lookM M) := by
  have hc := cl_eq h
  obtain ⟨h1, h2, h3, h4, h5, h6, h7, h8⟩ := h
  refine ⟨⟨h1, h2, ?_, ?_, h5, h6, h7, h8⟩, hw⟩
  · show cN C = lookN (sR M) (sW M) (clM (sK M) (sC M)) (nI (sC M)) (sN M) 120
    rw [lookN_same _ _ _ _ _ _ (fun j hj => by rw [← h4, ← hc]; exact hw j hj)]
    exact h3
  · show cW C = toldB (sW M) (clM (sK M) (sC M)) 120
    funext j
    unfold toldB
    by_cases q : j < 120
    · rw [if_pos q, ← hc]; exact hw j q
    · rw [if_neg q, h4]
theorem tick_sim {C : CS} {M : MS} (h : sim C M) : ∀ k, cT C + k ≤ 99999 → sim (tkS C k).1 (tickN M k) ∧ ∃ t0, t0 ≤ cT C + k ∧ (tkS C k).2 = nextK (cK C) (nI t0) (kN (cK C)) ∧ clB (cK C) (cT C + k) = clB (cK C) t0 := by
  intro k
  induction k with
  | zero => intro _; exact ⟨h, cT C, Nat.le_refl _, rfl, rfl⟩
  | succ k ih =>
    intro hk
    obtain ⟨⟨hP, hw⟩, t0, g1, g2, g3⟩ := ih (by omega)
    obtain ⟨k1, k2, k3, k4⟩ := tkS_K C k
    generalize hst : tkS C k = st at *
    obtain ⟨Ck, ch⟩ := st
    have hst2 := hst.symm
    have k1' : cK Ck = cK C := k1
    have k3' : cT Ck = cT C + k := k3
    have g2' : ch = nextK (cK C) (nI t0) (kN (cK C)) := g2
    have hP1 : simP (setCT Ck (cT Ck + 1)) (addC (tickN M k)) := by
      obtain ⟨a1, a2, a3, a4, a5, a6, a7, a8⟩ := hP
      exact ⟨a1, a2, a3, a4, congrArg (· + 1) a5, by show cT Ck + 1 ≤ 99999; omega, a7, liOk_mono a8 (Nat.le_succ _)⟩
    by_cases q : nI (cT Ck + 1) < ch
    · rw [← tkS_l hst2 q]
      have hseg : clB (cK C) (cT C + (k + 1)) = clB (cK C) t0 := seg_all (h.1.1.rgs) (by omega) (by omega) (by rw [← g2', show cT C + (k + 1) = cT Ck + 1 by omega]; exact q)
      refine ⟨look_no hP1 (fun pl hpl => ?_), t0, by omega, g2', hseg⟩
      show cW Ck pl = clB (cK Ck) (cT Ck + 1) pl
      have z : cW Ck pl = clB (cK Ck) (cT Ck) pl := hw pl hpl
      rw [z, k1', show cT Ck + 1 = cT C + (k + 1) by omega, hseg, k3', g3]
    · rw [← tkS_g hst2 q]
      refine ⟨tell_sim hP1, cT C + (k + 1), Nat.le_refl _, ?_, rfl⟩
      show nextK (cK Ck) (nI (cT Ck + 1)) (kN (cK Ck)) = _
      rw [k1', show cT Ck + 1 = cT C + (k + 1) by omega]
