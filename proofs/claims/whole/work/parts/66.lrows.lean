/-! rows of the law: calls of its wrappers, its script -/
def xcL (index : Nat) (y : MethodName) (bytes : ByteArray) (maxL : Nat) (hh : List (Nat × Nat × Nat × Nat)) (n : Nat) : Prop :=
  Cond.codeWith y bytes maxL (some .int) hh ∈ wBIG ∧ Cond.methodLink RL index y ∈ wBIG ∧ Cond.static y ∈ wBIG ∧ Cond.initialized y.cls ∈ wBIG ∧ xcD y n
theorem xcL.cw {R : Room} {s : State} {args : Array Value} {index maxL n mc ms : Nat} {y : MethodName} {bytes : ByteArray} {hh : List (Nat × Nat × Nat × Nat)} {rm : Room} (k : xcL index y bytes maxL hh n) (ht : ∀ w ∈ wBIG, w.before args s = true) (hrc : rm.cells = mc) (hrs : rm.slots = ms) (hR : rm.frames + 1 ≤ R.frames ∧ 8 + (maxL + 11) + rm.locals ≤ R.locals) :
    vx_CSW R s args RL index y bytes maxL (some .int) hh (.codeWith y bytes maxL (some .int) hh :: wBIG) rm mc ms n := by
  obtain ⟨h1, h2, h3, h4, h7⟩ := k
  exact ⟨⟨hrc, hrs, hR.1, hR.2, xw_all ht h1, List.mem_cons_self⟩, ht _ h1, ht _ h4, ⟨h7.1, h7.2.1⟩, h7.sig, ht _ h2, ht _ h3⟩
section XLL
variable {p : Program} {l : Launch} {e : Env} {R : Room} {s : State} {m : MethodId} {args : Array Value} {below : List Frame} {meth : Method} {c : Code} {H : Heap} {locs : List Loc} {cells slots : Nat} {Q : State → Prop}
variable {cc : ByteArray} {pc nL : Nat} {ls : Array Slot} {st0 rest As : List Value} {index maxL n f q : Nat} {y : MethodName} {bytes : ByteArray} {D : va_G} {ws wc wr w1 ws2 : va_W} {tys : List (ClassId × FieldType)} {r : Int32} {hh : List (Nat × Nat × Nat × Nat)}
theorem xwL (hx : p.tables.exec = Jvm.exec) (hb : c.code = cc) (hml : c.maxLocals = nL) (hown : s.vm.findClass RL = some m.cls) (ht : ∀ w ∈ wBIG, w.before args s = true) (hN : xN s) (hT9 : xT s.heap.size s) (hE : xE s)
    (k : xcL index y bytes maxL hh n) (hM : xLW l y bytes maxL hh (xrt f q) As D s.heap.size wc tys r w1) (hR : f + 1 ≤ R.frames ∧ 8 + (maxL + 11) + q ≤ R.locals)
    (hP : va_P D vwCl ws H) (hD : va_D (fun q => s.heap.size ≤ q) ws) (hS : va_S (fun q => s.heap.size ≤ q) s.heap H locs) (hK : va_K D vwCl tys s)
    (isC isR perm : List Nat) (hC : isC.map (fun i => ws[i]?) = wc.map some) (hRr : isR.map (fun i => ws[i]?) = wr.map some) (hnC : va_nd isC = true) (hnR : va_nd isR = true) (hdis : ∀ i ∈ isR, i ∉ isC) (ha : w1.map (·.1) = wc.map (·.1)) (hp : perm.map (fun i => (wr ++ w1)[i]?) = ws2.map some) (hnp : va_nd perm = true)
    (hn : As.length = n) (hsize : ls.size = nL) (hst : st0 = As.reverse ++ rest) (hcat : (rest.map fun v => v.category).sum ≤ 8) (hdg : decode cc pc = .ok (.invokestatic index, 3)) (hf : cells + 1 ≤ R.cells ∧ slots + 6 ≤ R.slots)
    (kk : ∀ (H1 : Heap) (locs1 : List Loc), va_P D vwCl ws2 H1 → va_D (fun q => s.heap.size ≤ q) ws2 → va_S (fun q => s.heap.size ≤ q) s.heap H1 locs1 → W p l e R s m args below meth c H1 locs1 (cells + 1) (slots + 6) Q (F0 m (pc + 3) ls (.int r :: rest))) : W p l e R s m args below meth c H locs cells slots Q (F0 m pc ls st0) := by
  obtain ⟨d1, d2, d3⟩ := xD_of hD isC hC hnC ha
  have hPc : va_P D vwCl wc H := xP_sub hP hC
  have d4 : va_D (fun q => s.heap.size ≤ q) wc := hD.sub isC hnC hC
  have hwc : ∀ z, xA wc z → s.heap.size ≤ z := fun z ⟨j, e1, h⟩ => d2 j _ h
  intro T hT X
  obtain ⟨v, st₀, t, T', L, e0, X', hL, e1, -, ⟨hv, hq, hz, hk⟩, st⟩ := vx_runSW (As := As) (rest := rest) ⟨hx, hb, hml, hown, ht⟩ hM (k.cw ht rfl rfl hR) ⟨fun a U g mk h => ⟨h.1, h.2.1.calling, h.2.2.1, h.2.2.2.1.calling, h.2.2.2.2.calling⟩, fun U hU hW => ⟨rfl, xB.at hPc hK hN hU hW, d4, hT9.at hS hU hW, hE.at hW⟩⟩ (g := F0 m pc ls st0) rfl hn hsize hst (lv_room hcat) hdg hf T hT X
  cases hv
  rw [e0] at hz hk
  have hq2 : va_P D vwCl w1 T'.heap := by rw [e1]; exact hq
  have hk2 : ∀ z : Nat, z < H.size → ¬ xA wc z → T'.heap[z]? = H[z]? := fun z h1 h2 => by rw [e1]; exact hk z h1 h2
  obtain ⟨g1, g2⟩ := xjoin hP hD isC isR perm hC hRr hnC hnR hdis ha hp hnp hk2 hq2
  obtain ⟨t2, a1, b1⟩ := kk T'.heap (locs ++ L) g1 g2
    ⟨Nat.le_trans hS.1 (by rw [e1]; exact hz), fun z h1 h2 => by rw [hk2 z (Nat.lt_of_lt_of_le h1 hS.1) (fun w => h2 (hwc z w))]; exact hS.2.1 z h1 h2, fun z hz9 => by
      rcases List.mem_append.mp hz9 with h | h
      · exact hS.2.2 z h
      · exact hwc _ (hL z h)⟩ T' rfl X'
  exact ⟨t2, st t2 a1, b1⟩
theorem xs_ld {b L : Nat} {xs : Nat → Int32} (hx : p.tables.exec = Jvm.exec) (hb : c.code = cc) (hX : va_X b L xs s s.heap) (hbl : b < s.heap.size) (hL : L ≤ 3584) (hS : va_S (fun q => s.heap.size ≤ q) s.heap H locs) {i : Nat} (hi : i < L) (hdg : decode cc pc = .ok (.iaload, 1))
    (kk : W p l e R s m args below meth c H locs cells slots Q (F0 m (pc + 1) ls (.int (xs i) :: rest))) : W p l e R s m args below meth c H locs cells slots Q (F0 m pc ls (.int (nI i) :: .ref b :: rest)) := by
  refine va_sld hx hb hX hbl (Nat.not_le.mpr hbl) hS (vp_in_nI hi (by omega)) hdg ?_
  rw [nI_clamp (by omega)]; exact kk
end XLL
theorem bI_dn {x : Int32} (h : x = 0) : bI (!decide (x = 0)) = 0 := by rw [decide_eq_true h]; rfl
theorem bI_dt {x : Int32} (h : ¬ x = 0) : bI (!decide (x = 0)) = nI 1 := by rw [decide_eq_false h]; rfl
theorem lift01 {M : MS} {i v : Int32} : liftMr M i v = 0 ∨ liftMr M i v = nI 1 := by
  unfold liftMr; split
  · exact Or.inl rfl
  · split
    · exact Or.inl rfl
    · exact Or.inr rfl
theorem closed01 {M : MS} {p s t : Int32} : closedMr M p s t = 0 ∨ closedMr M p s t = nI 1 := by
  unfold closedMr; split
  · exact Or.inl rfl
  · cases isClosedM (sK M) p s t
    · exact Or.inl rfl
    · exact Or.inr rfl
abbrev wL (a u : Nat → Nat) (o : Nat) (cI cZ cL : ClassId) (C : CS) (f : Nat → Int64) (M : MS) : va_W := wJ a o cI cZ cL C f ++ wM u cI cZ M
