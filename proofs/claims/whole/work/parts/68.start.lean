/-! what the claim's start gives -/
abbrev xpre : Cond := Jvm.Cond.and given_1 narrow_1
theorem xst_nc : ∀ q ∈ xeP, Cond.not (.castable q.1 q.2) ∈ flatC xpre := by decide +kernel
theorem xst_str : ∀ q ∈ xsL, Cond.exactly (.string "ClosureRows" q.1) "java/lang/String" ∈ flatC xpre := by decide +kernel
theorem xst_us : Cond.isRef (.static Bundle.tN "UNASSIGNED_STACK" Bundle.steD) ∈ flatC xpre := by decide +kernel
theorem xst_ss : Cond.isRef (.static Bundle.tN "SUPPRESSED_SENTINEL" Bundle.listD) ∈ flatC xpre := by decide +kernel
theorem xst_ref : ∀ q ∈ xsL, Cond.stringRef RX3 q.1 q.2 ∈ lw_tbl := by decide +kernel
theorem xst_dec : ∀ x ∈ xdL, Cond.declares x ∈ lw_tbl := by decide +kernel
theorem xst_cast : ∀ X ∈ xeL, Cond.castable X X ∈ lw_tbl := by decide +kernel
theorem xst_nest : ∀ q ∈ xnL, Cond.methodLinkNest q.1 q.2.1 q.2.2.1 q.2.2.2 ∈ lw_tbl := by decide +kernel
theorem xst_l1 : Cond.laysStatic Bundle.tN "UNASSIGNED_STACK" Bundle.steD ∈ lw_tbl := by decide +kernel
theorem xst_l2 : Cond.laysStatic Bundle.tN "SUPPRESSED_SENTINEL" Bundle.listD ∈ lw_tbl := by decide +kernel
theorem xst_in : Cond.initialized Bundle.tN ∈ lw_tbl := by decide +kernel
theorem xE_0 {args : Array Value} {s : State} (h : xpre.before args s = true) : xE s := fun q hq => va_Nc.of (flat_of_before _ h _ (xst_nc q hq))
theorem xN_0 {args : Array Value} {s : State} (ht : ∀ w ∈ lw_tbl, w.before args s = true) : xN s := fun q hq => va_Nw.of rfl (ht _ (xst_nest q hq))
theorem xT_0 {args : Array Value} {s : State} (ht : ∀ w ∈ lw_tbl, w.before args s = true) (h : xpre.before args s = true) : xT s.heap.size s := by
  have hf := flat_of_before _ h
  refine ⟨vx_Zqof (ht _ xst_l1) (ht _ xst_in) (hf _ xst_us) (fun a ha => Nat.not_le.mpr ha), vx_Zqof (ht _ xst_l2) (ht _ xst_in) (hf _ xst_ss) (fun a ha => Nat.not_le.mpr ha), fun q hq => ?_, fun x hx => va_Nw.of rfl (ht _ (xst_dec x hx)), fun X hX => va_Nw.of rfl (ht _ (xst_cast X hX)), Nat.le_refl _⟩
  obtain ⟨a, c, cell, k, q1, -⟩ := Cond.exactly_spec (args := args) (first := s) (o := none) (s := s) (idx := []) (t := .string "ClosureRows" q.1) (cls := "java/lang/String") (hf _ (xst_str q hq))
  exact ⟨a, vk_R.of (ht _ (xst_ref q hq)) q1⟩
theorem xarr_0 {args : Array Value} {s : State} {ty : FieldType} (h : (Cond.arrayClass ty).before args s = true) : ∃ cA : ClassId, ArrOfT s cA ty ∧ s.vm.findClass ("[" ++ ty.toString) = some cA := by
  obtain ⟨cA, kA, comp, h1, h2, h3⟩ := Cond.arrayClass_spec h
  exact ⟨cA, fun n z => ⟨fun k h => (by cases h), kA, h2, comp, h3⟩, h1⟩
theorem xK_0 {args : Array Value} {s : State} (ht : ∀ w ∈ wBIG, w.before args s = true) (hI : (Cond.arrayClass .int).before args s = true) (hZ : (Cond.arrayClass .boolean).before args s = true) (hJ : (Cond.arrayClass .long).before args s = true)
    (h0 : (Cond.instantiable RX0 10).before args s = true) (h1 : (Cond.instantiable RX1 2).before args s = true) (h2 : (Cond.instantiable RX2 2).before args s = true) (h3 : (Cond.instantiable RX3 6).before args s = true) (h4 : (Cond.instantiable RX4 18).before args s = true) :
    ∃ (D : va_G) (cI cZ cL : ClassId), va_K D vwCl (tyJ cI cZ cL) s := by
  obtain ⟨c0, i0, g0⟩ := u_known (C := RX0) (T := TX0) (N := 10) (n := 10) ht inX0 h0
  obtain ⟨c1, i1, g1⟩ := u_known (C := RX1) (T := TX1) (N := 2) (n := 2) ht inX1 h1
  obtain ⟨c2, i2, g2⟩ := u_known (C := RX2) (T := TX2) (N := 2) (n := 2) ht inX2 h2
  obtain ⟨c3, i3, g3⟩ := u_known (C := RX3) (T := TX3) (N := 6) (n := 6) ht inX3 h3
  obtain ⟨c4, i4, g4⟩ := u_known (C := RX4) (T := TX4) (N := 18) (n := 18) ht inX4 h4
  obtain ⟨cI, a1, b1⟩ := xarr_0 hI
  obtain ⟨cZ, a2, b2⟩ := xarr_0 hZ
  obtain ⟨cL, a3, b3⟩ := xarr_0 hJ
  refine ⟨(fun k => if k = 0 then c0 else if k = 1 then c1 else if k = 2 then c2 else if k = 3 then c3 else c4, fun k => if k = 0 then i0 else if k = 1 then i1 else if k = 2 then i2 else if k = 3 then i3 else i4), cI, cZ, cL, ?_, ?_⟩
  · intro k q hq
    match k, hq with
    | 0, hq => cases hq; exact g0
    | 1, hq => cases hq; exact g1
    | 2, hq => cases hq; exact g2
    | 3, hq => cases hq; exact g3
    | 4, hq => cases hq; exact g4
    | k + 5, hq => simp [vwCl] at hq
  · intro k q hq
    match k, hq with
    | 0, hq => cases hq; exact ⟨a1, b1⟩
    | 1, hq => cases hq; exact ⟨a2, b2⟩
    | 2, hq => cases hq; exact ⟨a3, b3⟩
    | k + 3, hq => simp [tyJ] at hq
