/-! the law's wrappers: contract, call row, catching -/
abbrev tyJ (cI cZ cL : ClassId) : List (ClassId × FieldType) := [(cI, .int), (cZ, .boolean), (cL, .long)]
abbrev wJ (a : Nat → Nat) (o : Nat) (cI cZ cL : ClassId) (C : CS) (f : Nat → Int64) : va_W :=
  [(a 17, .inr (3, [.ref (a 0), .ref (a 10), .ref (a 13), .ref (a 15), .ref (a 16), .int (nI (cT C))])),
   (a 0, .inr (0, [.ref (a 1), .ref (a 2), .ref (a 3), .ref (a 4), .ref (a 5), .ref (a 6), .ref (a 7), .ref (a 8), .ref (a 9), .int (nI (kN (cK C)))])),
   (a 1, .inl (cI, 100, .inl (kKd (cK C)))), (a 2, .inl (cI, 100, .inl (kPc (cK C)))), (a 3, .inl (cI, 100, .inl (kSd (cK C)))), (a 4, .inl (cI, 100, .inl (kSt (cK C)))), (a 5, .inl (cI, 100, .inl (kEn (cK C)))),
   (a 6, .inl (cI, 100, .inl (kXs (cK C)))), (a 7, .inl (cI, 100, .inl (kAn (cK C)))), (a 8, .inl (cI, 100, .inl (kWd (cK C)))), (a 9, .inl (cZ, 20, .inl (kIc (cK C)))),
   (a 10, .inr (2, [.ref (a 11), .ref (a 12)])), (a 11, .inl (cI, 120, .inl (nF (rP (cR C))))), (a 12, .inl (cI, 10, .inl (nF (rL (cR C))))),
   (a 13, .inr (1, [.ref (a 14), .int (nI (nT (cN C)))])), (a 14, .inl (cI, 500, .inl (nRw (cN C)))),
   (a 15, .inl (cZ, 120, .inl (bF (cW C)))), (a 16, .inl (cZ, 120, .inl (bF (cM C)))), (o, .inl (cL, 1, .inr (.inl f)))]
def xeP : List (String × String) := [(eIA, eIO), (eIA, eIS), (eIA, eUO), (eIO, eIA), (eIO, eIS), (eIO, eUO), (eIS, eIA), (eIS, eIO), (eIS, eUO), (eUO, eIA), (eUO, eIO), (eUO, eIS)]
/-- no exception's class is another's -/
def xE (U : State) : Prop := ∀ q ∈ xeP, va_Nc q.1 q.2 U
theorem xE.at {s U : State} (h : xE s) (hW : s.WarmedH U.vm) : xE U := fun q hq => va_Nc.moved hW.alike (h q hq)
theorem xE.calling {U : State} {g : JFrame} {mk : MethodId} {a : Array Value} (h : xE U) : xE (U.calling g mk a) := fun q hq => va_Nc.moved (u := U) (U := U.calling g mk a) (Vm.Alike.refl U.vm) (h q hq)
def nxC (t : Bool) (C C' : CS) : CS := if t = true then C else C'
def nxF (t : Bool) (f : Nat → Int64) (x : Int64) : Nat → Int64 := if t = true then f else vp_updL f 0 x
theorem nxC_t {t : Bool} {C C' : CS} (h : t = true) : nxC t C C' = C := if_pos h
theorem nxC_f {t : Bool} {C C' : CS} (h : t = false) : nxC t C C' = C' := if_neg (by rw [h]; decide)
theorem nxF_t {t : Bool} {f : Nat → Int64} {x : Int64} (h : t = true) : nxF t f x = f := if_pos h
theorem nxF_f {t : Bool} {f : Nat → Int64} {x : Int64} (h : t = false) : nxF t f x = vp_updL f 0 x := if_neg (by rw [h]; decide)
theorem any_ok {a b c : Bool} (h : ok3 a b c) : (a || b || c) = false := by rw [h.1, h.2.1, h.2.2]; rfl
theorem any_1 {a b c : Bool} (h : a = true) : (a || b || c) = true := by rw [h]; rfl
theorem any_2 {a b c : Bool} (h : b = true) : (a || b || c) = true := by rw [h]; cases a <;> rfl
theorem any_3 {a b c : Bool} (h : c = true) : (a || b || c) = true := by rw [h]; cases a <;> cases b <;> rfl
theorem thr_ok {a b c : Bool} (h : ok3 a b c) : nI 0 = thrM a b c := by rw [h.1, h.2.1, h.2.2]; rfl
theorem thr_1 {a b c : Bool} (h : a = true) : nI 1 = thrM a b c := by rw [h]; rfl
theorem thr_2 {a b c : Bool} (h1 : a = false) (h : b = true) : nI 2 = thrM a b c := by rw [h1, h]; rfl
theorem thr_3 {a b c : Bool} (h1 : a = false) (h2 : b = false) (h : c = true) : nI 3 = thrM a b c := by rw [h1, h2, h]; rfl
def xLW (l : Launch) (y : MethodName) (bytes : ByteArray) (maxL : Nat) (hh : List (Nat × Nat × Nat × Nat)) (rm : Room) (av : List Value) (D : va_G) (h0 : Nat) (ws : va_W) (tys : List (ClassId × FieldType)) (r : Int32) (ws' : va_W) : Prop :=
  Met l y (.codeWith y bytes maxL (some .int) hh :: wBIG) rm (va_Pc av (fun U => xB D ws tys U ∧ va_D (fun q => h0 ≤ q) ws ∧ xT h0 U ∧ xE U)) (xQw (some (.int r)) D ws ws') 1 6 (xA ws)
section XLW
variable {p : Program} {l : Launch} {e : Env} {R : Room} {s : State} {m : MethodId} {args : Array Value} {below : List Frame} {meth : Method} {c : Code} {H : Heap} {locs : List Loc} {cells slots : Nat} {Q : State → Prop}
variable {cc : ByteArray} {pc nL : Nat} {ls : Array Slot} {st0 rest As : List Value} {own C : String} {index maxL n f q h0 : Nat} {y : MethodName} {bytes : ByteArray} {ret : Option FieldType} {D : va_G} {ws wc wr w1 ws2 ws' : va_W} {tys tyc : List (ClassId × FieldType)} {b : Nat} {r : Option Value} {PASS : Prop} {FAIL : String → Prop}
theorem xLW.of {rm : Room} {av : List Value} {r : Int32} {hh : List (Nat × Nat × Nat × Nat)} (hy : plainName y.cls = true) (hlen : (lg_sl av).length ≤ maxL)
    (body : ∀ (p : Program) (e : Env) (s : State) (m : MethodId) (args : Array Value) (below : List Frame) (meth : Method) (c : Code), p.tables.exec = Jvm.exec → c.code = bytes → meth.sig.returnType = some .int → c.maxLocals = maxL → s.vm.findClass y.cls = some m.cls → meth.locks = false → c.exceptionTable.toList = tableOf hh →
      (∀ w ∈ wBIG, w.before args s = true) → xN s → xT h0 s → xE s → va_P D vwCl ws s.heap → va_K D vwCl tys s → va_D (fun q => h0 ≤ q) ws → va_D (xA ws) ws → ∀ ls : Array Slot, lv_has ls maxL (lv_args 0 av) →
      W p l e rm s m args below meth c s.heap [] 0 0 (MQ below (xQw (some (.int r)) D ws ws') args s 1 6 (xA ws)) (F0 m 0 ls [])) : xLW l y bytes maxL hh rm av D h0 ws tys r ws' := by
  refine va_MetW (cc := bytes) (maxL := maxL) (ret := some .int) (hh := hh) hy rfl ?_
  intro p e s m args below meth c s₁ B hml hv
  obtain ⟨rfl, ⟨hP, hK, hN⟩, hD, hT, hE⟩ := hv
  have hts := atoms_spec (ws := .codeWith y bytes maxL (some .int) hh :: wBIG) B.pre
  have hl := lv_entry av (n := maxL) hlen
  rw [lg_entry_eq]
  exact body p e s m _ below meth c B.exec B.bytes B.returns hml (findClass_of_methodNamed B.named) B.notSynchronized (vx_table (x := y) B (hts _ List.mem_cons_self)) (fun w h => hts w (List.mem_cons_of_mem _ h)) hN hT hE hP hK hD ⟨hD.1, fun k q hk => ⟨k, q.2, hk⟩⟩ _ hl
theorem xP_sub {isC : List Nat} (hP : va_P D vwCl ws H) (hC : isC.map (fun i => ws[i]?) = wc.map some) : va_P D vwCl wc H := by
  intro j z hz
  have h1 : (isC.map (fun i => ws[i]?))[j]? = some (some z) := by rw [hC, List.getElem?_map, hz]; rfl
  rw [List.getElem?_map] at h1
  cases hi : isC[j]? with
  | none => rw [hi] at h1; cases h1
  | some i => rw [hi] at h1; exact hP i z (Option.some.inj h1)
theorem xP_keep {H1 : Heap} (hP : va_P D vwCl ws H) (hk : ∀ q : Nat, q < H.size → H1[q]? = H[q]?) : va_P D vwCl ws H1 := by
  exact va_P.kept hP (fun k q hq => hk q.1 (vx_lt hP hq))
/-- a call of the face -/
theorem xlV (hx : p.tables.exec = Jvm.exec) (hb : c.code = cc) (hml : c.maxLocals = nL) (hown : s.vm.findClass own = some m.cls) (ht : ∀ w ∈ wBIG, w.before args s = true) (hN : xN s) (hT9 : xT h0 s)
    (k : xcV own C index y bytes maxL ret n) (hM : xTP l y bytes maxL ret (xrt f q) (.ref b :: As) D h0 wc tyc r w1 PASS FAIL) (hR : f + 1 ≤ R.frames ∧ 8 + (maxL + 11) + q ≤ R.locals)
    (hP : va_P D vwCl ws s.heap) (hD0 : va_D (fun q => h0 ≤ q) ws) (hD : va_D (xA ws) ws) (hK : va_K D vwCl tyc s)
    (isC isR perm : List Nat) (hC : isC.map (fun i => ws[i]?) = wc.map some) (hRr : isR.map (fun i => ws[i]?) = wr.map some) (hnC : va_nd isC = true) (hnR : va_nd isR = true) (hdis : ∀ i ∈ isR, i ∉ isC) (ha : w1.map (·.1) = wc.map (·.1)) (hp : perm.map (fun i => (wr ++ w1)[i]?) = ws2.map some) (hnp : va_nd perm = true)
    {ci : Nat} {fs : List Value} {qc : vw_C} (he : wc[0]? = some (b, .inr (ci, fs))) (hc : vwCl[ci]? = some qc) (hqc : qc.1 = C)
    (hn : As.length = n) (hsize : ls.size = nL) (hst : st0 = As.reverse ++ .ref b :: rest) (hcat : (rest.map fun v => v.category).sum ≤ 8) (hdg : decode cc pc = .ok (.invokevirtual index, 3)) (hf : 0 + 1 ≤ R.cells ∧ 0 + 6 ≤ R.slots)
    (kx : ∀ (E : String) (ce : Cell) (q9 : Addr) (H1 : Heap) (locs1 : List Loc), FAIL E → va_P D vwCl ws H1 → va_S (xA ws) s.heap H1 locs1 → H1[q9]? = some ce → ce.vm = .none → s.vm.findClass E = some ce.cls → vx_W p l e R s m args below meth c H1 locs1 1 6 Q (F0 m pc ls rest) q9)
    (kk : PASS → ∀ (H1 : Heap) (locs1 : List Loc), va_P D vwCl ws2 H1 → va_D (xA ws) ws2 → va_S (xA ws) s.heap H1 locs1 → W p l e R s m args below meth c H1 locs1 1 6 Q (F0 m (pc + 3) ls (r.toList ++ rest))) : W p l e R s m args below meth c s.heap [] 0 0 Q (F0 m pc ls st0) := by
  subst hqc
  obtain ⟨d1, d2, d3⟩ := xD_of hD isC hC hnC ha
  have hPc : va_P D vwCl wc s.heap := xP_sub hP hC
  have hwc : ∀ z, xA wc z → xA ws z := fun z ⟨j, e1, h⟩ => d2 j _ h
  have d4 : va_D (fun q => h0 ≤ q) wc := hD0.sub isC hnC hC
  intro T hT X
  rcases vx_runV (As := As) (rest := rest) ⟨hx, hb, hml, hown, ht⟩ hM (k.cw ht rfl rfl hR) ⟨fun a U g mk h => ⟨h.1, h.2.1.calling, h.2.2.1, h.2.2.2.calling⟩, va_recv hK hPc hc he, fun U hU hW => ⟨rfl, xB.at hPc hK hN hU hW, d4, hT9.at va_S.rf hU hW⟩⟩ (g := F0 m pc ls st0) rfl hn hsize hst (lv_room hcat) hdg hf T hT X with ⟨v, st₀, t, T', L, e0, X', hL, e1, e2, ⟨⟨hv, hq, hz, hk⟩, hps⟩, st⟩ | ⟨q9, st₀, t, T', L, E, ce, e0, X', hL, e1, e2, ⟨hF, hz, hk⟩, hce, hcv, hcl, st⟩
  · cases hv
    rw [e0] at hz hk
    have hq2 : va_P D vwCl w1 T'.heap := by rw [e1]; exact hq
    have hk2 : ∀ z : Nat, z < s.heap.size → ¬ xA wc z → T'.heap[z]? = s.heap[z]? := fun z h1 h2 => by rw [e1]; exact hk z h1 h2
    obtain ⟨g1, g2⟩ := xjoin hP hD isC isR perm hC hRr hnC hnR hdis ha hp hnp hk2 hq2
    obtain ⟨t2, a1, b1⟩ := kk hps T'.heap ([] ++ L) g1 g2 ⟨by rw [e1]; exact hz, fun z h1 h2 => hk2 z h1 (fun w => h2 (hwc z w)), fun z hz9 => hwc _ (hL z hz9)⟩ T' rfl X'
    exact ⟨t2, st t2 a1, b1⟩
  · rw [e0] at hz hk
    have hk2 : ∀ z : Nat, z < s.heap.size → T'.heap[z]? = s.heap[z]? := fun z h1 => by rw [e1]; exact hk z h1 (Nat.not_le.mpr h1)
    obtain ⟨t2, a1, b1⟩ := kx E ce q9 T'.heap ([] ++ L) hF (xP_keep hP hk2) ⟨by rw [e1]; exact hz, fun z h1 _ => hk2 z h1, fun z hz9 => hwc _ (hL z hz9)⟩ (by rw [e1]; exact hce) hcv hcl T' rfl X'
    exact ⟨t2, st.trans a1, b1⟩
theorem xl_iret {v v' : Int32} (hx : p.tables.exec = Jvm.exec) (hb : c.code = cc) (hr : meth.sig.returnType = some .int) (hlocks : meth.locks = false) (hS : va_S (xA ws) s.heap H locs) (hP : va_P D vwCl ws' H) (hv : v = v') (hdg : decode cc pc = .ok (.ireturn, 1)) :
    W p l e R s m args below meth c H locs 1 6 (MQ below (xQw (some (.int v')) D ws ws') args s 1 6 (xA ws)) (F0 m pc ls [.int v]) :=
  W.iret hx hb hr (fun t ht _ => ⟨by rw [hv], by rw [ht]; exact hP, hS.F ht⟩) hS.2.2 hdg hlocks
theorem xl_last {a : Nat} {A : Nat → Prop} {H0 : Heap} (hx : p.tables.exec = Jvm.exec) (hb : c.code = cc) (hK : va_K D vwCl tys s) (hP : va_P D vwCl ws H) (hD : va_D A ws) (hS : va_S A H0 H locs) (q0 t0 : Nat) {cA : ClassId} {fn : Nat → Int64} (ha : ws[q0]? = some (a, .inl (cA, 1, .inr (.inl fn)))) (ht : tys[t0]? = some (cA, .long)) {x : Int64} (hdg : decode cc pc = .ok (.lastore, 1))
    (kk : ∀ (H1 : Heap) (locs1 : List Loc), va_P D vwCl (ws.set q0 (a, .inl (cA, 1, .inr (.inl (vp_updL fn 0 x))))) H1 → va_D A (ws.set q0 (a, .inl (cA, 1, .inr (.inl (vp_updL fn 0 x))))) → va_S A H0 H1 locs1 → W p l e R s m args below meth c H1 locs1 cells slots Q (F0 m (pc + 1) ls rest)) : W p l e R s m args below meth c H locs cells slots Q (F0 m pc ls (.long x :: .int (nI 0) :: .ref a :: rest)) := by
  refine va_last hx hb hK hP hD hS q0 t0 ha ht (vp_in_nI (show 0 < 1 by decide) (by decide)) hdg ?_
  rw [nI_clamp (by decide)]; exact kk
theorem xl_lald {a : Nat} (hx : p.tables.exec = Jvm.exec) (hb : c.code = cc) (hK : va_K D vwCl tys s) (hP : va_P D vwCl ws H) (q0 t0 : Nat) {cA : ClassId} {fn : Nat → Int64} (ha : ws[q0]? = some (a, .inl (cA, 1, .inr (.inl fn)))) (ht : tys[t0]? = some (cA, .long)) (hdg : decode cc pc = .ok (.laload, 1))
    (kk : W p l e R s m args below meth c H locs cells slots Q (F0 m (pc + 1) ls (.long (fn 0) :: rest))) : W p l e R s m args below meth c H locs cells slots Q (F0 m pc ls (.int (nI 0) :: .ref a :: rest)) := by
  refine va_lald hx hb hK hP q0 t0 ha ht (vp_in_nI (show 0 < 1 by decide) (by decide)) hdg ?_
  rw [nI_clamp (by decide)]; exact kk
theorem xl_lcmp {x y : Int64} (hx : p.tables.exec = Jvm.exec) (hb : c.code = cc) (h : x = y) (hdg : decode cc pc = .ok (.lcmp, 1))
    (kk : W p l e R s m args below meth c H locs cells slots Q (F0 m (pc + 1) ls (.int 0 :: rest))) : W p l e R s m args below meth c H locs cells slots Q (F0 m pc ls (.long y :: .long x :: rest)) := by
  subst h
  intro T hT X
  obtain ⟨t, a1, b1⟩ := kk T hT X
  refine ⟨t, ?_, b1⟩
  jvm_step X.here [X.here.top, hx, hb, hdg]
  exact a1
end XLW
