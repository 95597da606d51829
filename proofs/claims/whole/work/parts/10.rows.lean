/-! the forms of contracts used here, and rows that call by them -/
/-- links to nest mates' private methods -/
def xnL : List (String × Nat × MethodName × String) := [(RX0, 86, yX3_periodOf, RX3), (RX0, 82, yX3_lengthOf, RX3), (RX0, 56, yX3_placeOf, RX3), (RX1, 23, yX3_pieceOf, RX3), (RX1, 26, yX3_sideOf, RX3), (RX0, 89, yX3_pieceOf, RX3), (RX0, 92, yX3_sideOf, RX3)]
def xN (U : State) : Prop := ∀ q ∈ xnL, va_Nw (.methodLinkNest q.1 q.2.1 q.2.2.1 q.2.2.2) U
theorem xN.warm {s U : State} (hW : s.WarmedH U.vm) (h : xN s) : xN U := fun q hq => va_Nw.warmM hW (h q hq)
/-- what a method's start knows of the state: its cells, the classes, the nest -/
def xB (D : va_G) (ws : va_W) (tys : List (ClassId × FieldType)) (U : State) : Prop := va_P D vwCl ws U.heap ∧ va_K D vwCl tys U ∧ xN U
theorem xB.calling {D : va_G} {ws : va_W} {tys : List (ClassId × FieldType)} {U : State} {g : JFrame} {mk : MethodId} {a : Array Value} (h : xB D ws tys U) : xB D ws tys (U.calling g mk a) :=
  ⟨h.1, va_K.moved (u := U) (U := U.calling g mk a) (Vm.Alike.refl U.vm) h.2.1, fun q hq => va_Nw.same (by rfl) (u := U) (U := U.calling g mk a) rfl (h.2.2 q hq)⟩
theorem xB.at {D : va_G} {ws : va_W} {tys : List (ClassId × FieldType)} {s U : State} {H : Heap} (hP : va_P D vwCl ws H) (hK : va_K D vwCl tys s) (hN : xN s) (hU : U.heap = H) (hW : s.WarmedH U.vm) : xB D ws tys U :=
  ⟨by rw [hU]; exact hP, va_K.moved hW.alike hK, hN.warm hW⟩
abbrev xrm (f k : Nat) : Room := { frames := f, cells := 0, slots := 0, locals := k }
/-- a method that reads: the answer r, the heap as it was -/
def xRO (l : Launch) (y : MethodName) (bytes : ByteArray) (maxL : Nat) (ret : Option FieldType) (rm : Room) (av : List Value) (D : va_G) (ws : va_W) (tys : List (ClassId × FieldType)) (r : Int32) : Prop :=
  Met l y (.code y bytes maxL ret :: wBIG) rm (va_Pc av (xB D ws tys)) (QcRead r) 0 0 (fun _ => False)
/-- the addresses of a world -/
def xA (ws : va_W) (q : Nat) : Prop := ∃ (k : Nat) (e : va_E), ws[k]? = some (q, e)
/-- a method that writes, and makes nothing: the answer r, the world ws' behind it -/
def xQw (r : Option Value) (D : va_G) (ws ws' : va_W) : Array Value → State → Outcome → State → Prop := fun _ st o t => o = .returned r ∧ va_P D vwCl ws' t.heap ∧ va_F (xA ws) st t
def xWR (l : Launch) (y : MethodName) (bytes : ByteArray) (maxL : Nat) (ret : Option FieldType) (rm : Room) (av : List Value) (D : va_G) (ws : va_W) (tys : List (ClassId × FieldType)) (r : Option Value) (ws' : va_W) : Prop :=
  Met l y (.code y bytes maxL ret :: wBIG) rm (va_Pc av (fun U => xB D ws tys U ∧ va_D (fun _ => True) ws)) (xQw r D ws ws') 0 0 (xA ws)
/-- the words of a call -/
def xcD (y : MethodName) (n : Nat) : Prop := y.cls ≠ "java/lang/invoke/MethodHandle" ∧ y.cls ≠ "java/lang/invoke/VarHandle" ∧ (parseMethodDescriptor y.desc).map (fun d => d.parameters.length) = some n
def xcV (own C : String) (index : Nat) (y : MethodName) (bytes : ByteArray) (maxL : Nat) (ret : Option FieldType) (n : Nat) : Prop :=
  Cond.code y bytes maxL ret ∈ wBIG ∧ Cond.methodLink own index y ∈ wBIG ∧ Cond.instanceMethod y ∈ wBIG ∧ Cond.selects C y y ∈ wBIG ∧ Cond.initialized C ∈ wBIG ∧ y.cls = C ∧ xcD y n
def xcS (own : String) (index : Nat) (y : MethodName) (bytes : ByteArray) (maxL : Nat) (ret : Option FieldType) (n : Nat) : Prop :=
  Cond.code y bytes maxL ret ∈ wBIG ∧ Cond.methodLink own index y ∈ wBIG ∧ Cond.static y ∈ wBIG ∧ Cond.initialized y.cls ∈ wBIG ∧ xcD y n
def xcN (own : String) (index : Nat) (y : MethodName) (bytes : ByteArray) (maxL : Nat) (ret : Option FieldType) (n : Nat) (host : String) : Prop :=
  Cond.code y bytes maxL ret ∈ wBIG ∧ (own, index, y, host) ∈ xnL ∧ Cond.static y ∈ wBIG ∧ Cond.initialized y.cls ∈ wBIG ∧ xcD y n
theorem xw_all {args : Array Value} {s : State} {cw : Cond} (ht : ∀ w ∈ wBIG, w.before args s = true) (hc : cw ∈ wBIG) : ∀ w ∈ cw :: wBIG, ∀ (a' : Array Value) (U : State), s.WarmedH U.vm → w.before a' U = true := by
  intro w hw a' U hW
  rcases List.mem_cons.mp hw with h | h
  · rw [h]; exact wbig_at ht hW _ hc
  · exact wbig_at ht hW _ h
theorem xcD.sig {y : MethodName} {n : Nat} (h : xcD y n) : ∀ sig, parseMethodDescriptor y.desc = some sig → n = sig.parameters.length := by
  intro sig hs
  have h2 := h.2.2
  rw [hs] at h2
  exact (Option.some.inj h2).symm
section XC
variable {R : Room} {s : State} {args : Array Value} {own C : String} {index maxL n mc ms : Nat} {y : MethodName} {bytes : ByteArray} {ret : Option FieldType} {rm : Room}
theorem xcV.cw (k : xcV own C index y bytes maxL ret n) (ht : ∀ w ∈ wBIG, w.before args s = true) (hrc : rm.cells = mc) (hrs : rm.slots = ms) (hR : rm.frames + 1 ≤ R.frames ∧ 8 + (maxL + 11) + rm.locals ≤ R.locals) :
    CallW R s args own C index y bytes maxL ret (.code y bytes maxL ret :: wBIG) rm mc ms n := by
  obtain ⟨h1, h2, h3, h4, h5, h6, h7⟩ := k
  exact ⟨⟨hrc, hrs, hR.1, hR.2, xw_all ht h1, List.mem_cons_self, ht _ h1, by rw [h6]; exact ht _ h5, ⟨h7.1, h7.2.1⟩, h7.sig, ht _ h2⟩, ht _ h3, ht _ h4⟩
theorem xcS.cw (k : xcS own index y bytes maxL ret n) (ht : ∀ w ∈ wBIG, w.before args s = true) (hrc : rm.cells = mc) (hrs : rm.slots = ms) (hR : rm.frames + 1 ≤ R.frames ∧ 8 + (maxL + 11) + rm.locals ≤ R.locals) :
    CallB R s args own index y bytes maxL ret (.code y bytes maxL ret :: wBIG) rm mc ms n ∧ (Cond.static y).before args s = true := by
  obtain ⟨h1, h2, h3, h4, h7⟩ := k
  exact ⟨⟨hrc, hrs, hR.1, hR.2, xw_all ht h1, List.mem_cons_self, ht _ h1, ht _ h4, ⟨h7.1, h7.2.1⟩, h7.sig, ht _ h2⟩, ht _ h3⟩
theorem xcN.cw {host : String} (k : xcN own index y bytes maxL ret n host) (ht : ∀ w ∈ wBIG, w.before args s = true) (hN : xN s) (hrc : rm.cells = mc) (hrs : rm.slots = ms) (hR : rm.frames + 1 ≤ R.frames ∧ 8 + (maxL + 11) + rm.locals ≤ R.locals) :
    va_CN R s args own index y host bytes maxL ret (.code y bytes maxL ret :: wBIG) rm mc ms n ∧ (Cond.static y).before args s = true ∧ True := by
  obtain ⟨h1, h2, h3, h4, h7⟩ := k
  exact ⟨⟨⟨hrc, hrs, hR.1, hR.2, xw_all ht h1, List.mem_cons_self⟩, ht _ h1, ht _ h4, ⟨h7.1, h7.2.1⟩, h7.sig, va_Nw.use rfl (hN _ h2)⟩, ht _ h3, trivial⟩
end XC
section XR
variable {p : Program} {l : Launch} {e : Env} {R : Room} {s : State} {m : MethodId} {args : Array Value} {below : List Frame} {meth : Method} {c : Code} {H : Heap} {locs : List Loc} {cells slots : Nat} {Q : State → Prop}
variable {cc : ByteArray} {pc nL : Nat} {ls : Array Slot} {st0 rest As : List Value} {own C : String} {index maxL n f q : Nat} {y : MethodName} {bytes : ByteArray} {ret : Option FieldType} {D : va_G} {wsub : va_W} {tys : List (ClassId × FieldType)} {r : Int32} {b : Nat}
theorem xr_go {a : Array Value} (hr : va_Run p l e R s m args below meth c H locs cells slots 0 0 (F0 m pc ls st0) rest (QcRead r a) (fun _ => False))
    (kk : W p l e R s m args below meth c H locs cells slots Q (F0 m (pc + 3) ls (.int r :: rest))) : W p l e R s m args below meth c H locs cells slots Q (F0 m pc ls st0) := by
  intro T hT X
  obtain ⟨v, st₀, t, T', L, h0, X', hL, e1, -, ⟨hv, hh⟩, st⟩ := hr T hT X
  cases hv
  obtain ⟨t2, a1, b1⟩ := kk T' (by rw [e1, hh, h0]) (Stand.forget X' (fun q h => (hL q h).elim))
  exact ⟨t2, st t2 a1, b1⟩
/-- a call of a reading method: by its object -/
theorem xrV (hx : p.tables.exec = Jvm.exec) (hb : c.code = cc) (hml : c.maxLocals = nL) (hown : s.vm.findClass own = some m.cls) (ht : ∀ w ∈ wBIG, w.before args s = true) (hN : xN s)
    (k : xcV own C index y bytes maxL ret n) (hM : xRO l y bytes maxL ret (xrm f q) (.ref b :: As) D wsub tys r) (hR : f + 1 ≤ R.frames ∧ 8 + (maxL + 11) + q ≤ R.locals)
    (hP : va_P D vwCl wsub H) (hK : va_K D vwCl tys s) {ci : Nat} {fs : List Value} {qc : vw_C} (he : wsub[0]? = some (b, .inr (ci, fs))) (hc : vwCl[ci]? = some qc) (hqc : qc.1 = C)
    (hn : As.length = n) (hsize : ls.size = nL) (hst : st0 = As.reverse ++ .ref b :: rest) (hcat : (rest.map fun v => v.category).sum ≤ 8) (hdg : decode cc pc = .ok (.invokevirtual index, 3)) (hf : cells ≤ R.cells ∧ slots ≤ R.slots)
    (kk : W p l e R s m args below meth c H locs cells slots Q (F0 m (pc + 3) ls (.int r :: rest))) : W p l e R s m args below meth c H locs cells slots Q (F0 m pc ls st0) := by
  subst hqc
  refine xr_go (va_runV (As := As) (rest := rest) ⟨hx, hb, hml, hown, ht⟩ hM (k.cw ht rfl rfl hR) ⟨?_, va_recv hK hP hc he, fun U hU hW => ⟨rfl, xB.at hP hK hN hU hW⟩⟩ rfl hn hsize hst (lv_room hcat) hdg hf) kk
  exact fun a U g mk h => ⟨h.1, h.2.calling⟩
/-- .. a static one of the own class -/
theorem xrS (hx : p.tables.exec = Jvm.exec) (hb : c.code = cc) (hml : c.maxLocals = nL) (hown : s.vm.findClass own = some m.cls) (ht : ∀ w ∈ wBIG, w.before args s = true) (hN : xN s)
    (k : xcS own index y bytes maxL ret n) (hM : xRO l y bytes maxL ret (xrm f q) As D wsub tys r) (hR : f + 1 ≤ R.frames ∧ 8 + (maxL + 11) + q ≤ R.locals)
    (hP : va_P D vwCl wsub H) (hK : va_K D vwCl tys s)
    (hn : As.length = n) (hsize : ls.size = nL) (hst : st0 = As.reverse ++ rest) (hcat : (rest.map fun v => v.category).sum ≤ 8) (hdg : decode cc pc = .ok (.invokestatic index, 3)) (hf : cells ≤ R.cells ∧ slots ≤ R.slots)
    (kk : W p l e R s m args below meth c H locs cells slots Q (F0 m (pc + 3) ls (.int r :: rest))) : W p l e R s m args below meth c H locs cells slots Q (F0 m pc ls st0) := by
  refine xr_go (va_runS (As := As) (rest := rest) ⟨hx, hb, hml, hown, ht⟩ hM (k.cw ht rfl rfl hR) ⟨?_, fun U hU hW => ⟨rfl, xB.at hP hK hN hU hW⟩⟩ rfl hn hsize hst (lv_room hcat) hdg hf) kk
  exact fun a U g mk h => ⟨h.1, h.2.calling⟩
/-- .. a static one of a nest mate -/
theorem xrN {host : String} (hx : p.tables.exec = Jvm.exec) (hb : c.code = cc) (hml : c.maxLocals = nL) (hown : s.vm.findClass own = some m.cls) (ht : ∀ w ∈ wBIG, w.before args s = true) (hN : xN s)
    (k : xcN own index y bytes maxL ret n host) (hM : xRO l y bytes maxL ret (xrm f q) As D wsub tys r) (hR : f + 1 ≤ R.frames ∧ 8 + (maxL + 11) + q ≤ R.locals)
    (hP : va_P D vwCl wsub H) (hK : va_K D vwCl tys s)
    (hn : As.length = n) (hsize : ls.size = nL) (hst : st0 = As.reverse ++ rest) (hcat : (rest.map fun v => v.category).sum ≤ 8) (hdg : decode cc pc = .ok (.invokestatic index, 3)) (hf : cells ≤ R.cells ∧ slots ≤ R.slots)
    (kk : W p l e R s m args below meth c H locs cells slots Q (F0 m (pc + 3) ls (.int r :: rest))) : W p l e R s m args below meth c H locs cells slots Q (F0 m pc ls st0) := by
  refine xr_go (va_runSN (As := As) (rest := rest) ⟨hx, hb, hml, hown, ht⟩ hM (k.cw ht hN rfl rfl hR) ⟨?_, fun U hU hW => ⟨rfl, xB.at hP hK hN hU hW⟩⟩ rfl hn hsize hst (lv_room hcat) hdg hf) kk
  exact fun a U g mk h => ⟨h.1, h.2.calling⟩
/-- the end of a reading body -/
theorem xr_iret {v : Int32} (hx : p.tables.exec = Jvm.exec) (hb : c.code = cc) (hr : meth.sig.returnType = some .int) (hlocks : meth.locks = false) (hv : v = r) (hdg : decode cc pc = .ok (.ireturn, 1)) :
    W p l e R s m args below meth c s.heap [] 0 0 (MQ below (QcRead r) args s 0 0 (fun _ => False)) (F0 m pc ls [.int v]) :=
  W.iret hx hb hr (fun t ht _ => ⟨by rw [hv], ht⟩) (fun q h => nomatch h) hdg hlocks
theorem xr_zret {v : Int32} (hx : p.tables.exec = Jvm.exec) (hb : c.code = cc) (hr : meth.sig.returnType = some .boolean) (hlocks : meth.locks = false) (hn : narrow .boolean (.int v) = .int v) (hv : v = r) (hdg : decode cc pc = .ok (.ireturn, 1)) :
    W p l e R s m args below meth c s.heap [] 0 0 (MQ below (QcRead r) args s 0 0 (fun _ => False)) (F0 m pc ls [.int v]) :=
  W.zret hx hb hr hn (fun t ht _ => ⟨by rw [hv], ht⟩) (fun q h => nomatch h) hdg hlocks
theorem xRO.of {rm : Room} {av : List Value} (hy : plainName y.cls = true) (hlen : (lg_sl av).length ≤ maxL)
    (body : ∀ (p : Program) (e : Env) (s : State) (m : MethodId) (args : Array Value) (below : List Frame) (meth : Method) (c : Code), p.tables.exec = Jvm.exec → c.code = bytes → meth.sig.returnType = ret → c.maxLocals = maxL → s.vm.findClass y.cls = some m.cls → meth.locks = false →
      (∀ w ∈ wBIG, w.before args s = true) → xN s → va_P D vwCl wsub s.heap → va_K D vwCl tys s → ∀ ls : Array Slot, lv_has ls maxL (lv_args 0 av) →
      W p l e rm s m args below meth c s.heap [] 0 0 (MQ below (QcRead r) args s 0 0 (fun _ => False)) (F0 m 0 ls [])) : xRO l y bytes maxL ret rm av D wsub tys r := by
  refine Met.ofW (cc := bytes) (maxL := maxL) (ret := ret) hy rfl ?_
  intro p e s m args below meth c s₁ B hml hv
  obtain ⟨rfl, hP, hK, hN⟩ := hv
  have hts := atoms_spec (ws := .code y bytes maxL ret :: wBIG) B.pre
  have hl := lv_entry av (n := maxL) hlen
  rw [lg_entry_eq]
  exact body p e s m _ below meth c B.exec B.bytes B.returns hml (findClass_of_methodNamed B.named) B.notSynchronized (fun w h => hts w (List.mem_cons_of_mem _ h)) hN hP hK _ hl
theorem xWR.of {rm : Room} {av : List Value} {ws' : va_W} {ro : Option Value} (hy : plainName y.cls = true) (hlen : (lg_sl av).length ≤ maxL)
    (body : ∀ (p : Program) (e : Env) (s : State) (m : MethodId) (args : Array Value) (below : List Frame) (meth : Method) (c : Code), p.tables.exec = Jvm.exec → c.code = bytes → meth.sig.returnType = ret → c.maxLocals = maxL → s.vm.findClass y.cls = some m.cls → meth.locks = false →
      (∀ w ∈ wBIG, w.before args s = true) → xN s → va_P D vwCl wsub s.heap → va_K D vwCl tys s → va_D (xA wsub) wsub → va_S (xA wsub) s.heap s.heap [] → ∀ ls : Array Slot, lv_has ls maxL (lv_args 0 av) →
      W p l e rm s m args below meth c s.heap [] 0 0 (MQ below (xQw ro D wsub ws') args s 0 0 (xA wsub)) (F0 m 0 ls [])) : xWR l y bytes maxL ret rm av D wsub tys ro ws' := by
  refine Met.ofW (cc := bytes) (maxL := maxL) (ret := ret) hy rfl ?_
  intro p e s m args below meth c s₁ B hml hv
  obtain ⟨rfl, ⟨hP, hK, hN⟩, hD⟩ := hv
  have hts := atoms_spec (ws := .code y bytes maxL ret :: wBIG) B.pre
  have hl := lv_entry av (n := maxL) hlen
  rw [lg_entry_eq]
  exact body p e s m _ below meth c B.exec B.bytes B.returns hml (findClass_of_methodNamed B.named) B.notSynchronized (fun w h => hts w (List.mem_cons_of_mem _ h)) hN hP hK ⟨hD.1, fun k q hk => ⟨k, q.2, hk⟩⟩ va_S.rf _ hl
/-- the end of a writing body -/
theorem xw_iret {v : Int32} {ws' : va_W} (hx : p.tables.exec = Jvm.exec) (hb : c.code = cc) (hr : meth.sig.returnType = some .int) (hlocks : meth.locks = false) (hS : va_S (xA wsub) s.heap H locs) (hP : va_P D vwCl ws' H) (hv : v = r) (hdg : decode cc pc = .ok (.ireturn, 1)) :
    W p l e R s m args below meth c H locs 0 0 (MQ below (xQw (some (.int r)) D wsub ws') args s 0 0 (xA wsub)) (F0 m pc ls [.int v]) :=
  W.iret hx hb hr (fun t ht _ => ⟨by rw [hv], by rw [ht]; exact hP, hS.F ht⟩) hS.2.2 hdg hlocks
theorem xw_zret {v : Int32} {ws' : va_W} (hx : p.tables.exec = Jvm.exec) (hb : c.code = cc) (hr : meth.sig.returnType = some .boolean) (hlocks : meth.locks = false) (hn : narrow .boolean (.int v) = .int v) (hS : va_S (xA wsub) s.heap H locs) (hP : va_P D vwCl ws' H) (hv : v = r) (hdg : decode cc pc = .ok (.ireturn, 1)) :
    W p l e R s m args below meth c H locs 0 0 (MQ below (xQw (some (.int r)) D wsub ws') args s 0 0 (xA wsub)) (F0 m pc ls [.int v]) :=
  W.zret hx hb hr hn (fun t ht _ => ⟨by rw [hv], by rw [ht]; exact hP, hS.F ht⟩) hS.2.2 hdg hlocks
theorem xw_vret {ws' : va_W} (hx : p.tables.exec = Jvm.exec) (hb : c.code = cc) (hr : meth.sig.returnType = none) (hlocks : meth.locks = false) (hS : va_S (xA wsub) s.heap H locs) (hP : va_P D vwCl ws' H) (hdg : decode cc pc = .ok (.return_, 1)) :
    W p l e R s m args below meth c H locs 0 0 (MQ below (xQw none D wsub ws') args s 0 0 (xA wsub)) (F0 m pc ls []) :=
  W.vret hx hb hr (fun t ht _ => ⟨rfl, by rw [ht]; exact hP, hS.F ht⟩) hS.2.2 hdg hlocks
/-- arrays by places that are whole numbers -/
theorem xa_iald {ws : va_W} {a : Nat} (hx : p.tables.exec = Jvm.exec) (hb : c.code = cc) (hK : va_K D vwCl tys s) (hP : va_P D vwCl ws H) (q0 t0 : Nat) {cA : ClassId} {N : Nat} {fn : Nat → Int32} (ha : ws[q0]? = some (a, .inl (cA, N, .inl fn))) (ht : tys[t0]? = some (cA, .int)) {i : Nat} (hi : i < N) (hN : N < 2 ^ 31) (hdg : decode cc pc = .ok (.iaload, 1))
    (kk : W p l e R s m args below meth c H locs cells slots Q (F0 m (pc + 1) ls (.int (fn i) :: rest))) : W p l e R s m args below meth c H locs cells slots Q (F0 m pc ls (.int (nI i) :: .ref a :: rest)) := by
  refine va_iald hx hb hK hP q0 t0 ha ht (vp_in_nI hi hN) hdg ?_
  rw [nI_clamp (by omega)]; exact kk
theorem xa_zald {ws : va_W} {a : Nat} (hx : p.tables.exec = Jvm.exec) (hb : c.code = cc) (hK : va_K D vwCl tys s) (hP : va_P D vwCl ws H) (q0 t0 : Nat) {cA : ClassId} {N : Nat} {fn : Nat → Int32} (ha : ws[q0]? = some (a, .inl (cA, N, .inl fn))) (ht : tys[t0]? = some (cA, .boolean)) {i : Nat} (hi : i < N) (hN : N < 2 ^ 31) (hdg : decode cc pc = .ok (.baload, 1))
    (kk : W p l e R s m args below meth c H locs cells slots Q (F0 m (pc + 1) ls (.int (fn i) :: rest))) : W p l e R s m args below meth c H locs cells slots Q (F0 m pc ls (.int (nI i) :: .ref a :: rest)) := by
  refine va_zald hx hb hK hP q0 t0 ha ht (vp_in_nI hi hN) hdg ?_
  rw [nI_clamp (by omega)]; exact kk
theorem xa_iast {ws : va_W} {a : Nat} {A : Nat → Prop} {H0 : Heap} (hx : p.tables.exec = Jvm.exec) (hb : c.code = cc) (hK : va_K D vwCl tys s) (hP : va_P D vwCl ws H) (hD : va_D A ws) (hS : va_S A H0 H locs) (q0 t0 : Nat) {cA : ClassId} {N : Nat} {fn : Nat → Int32} (ha : ws[q0]? = some (a, .inl (cA, N, .inl fn))) (ht : tys[t0]? = some (cA, .int)) {i : Nat} {x : Int32} (hi : i < N) (hN : N < 2 ^ 31) (hdg : decode cc pc = .ok (.iastore, 1))
    (kk : ∀ (H1 : Heap) (locs1 : List Loc), va_P D vwCl (ws.set q0 (a, .inl (cA, N, .inl (upd fn i x)))) H1 → va_D A (ws.set q0 (a, .inl (cA, N, .inl (upd fn i x)))) → va_S A H0 H1 locs1 → W p l e R s m args below meth c H1 locs1 cells slots Q (F0 m (pc + 1) ls rest)) : W p l e R s m args below meth c H locs cells slots Q (F0 m pc ls (.int x :: .int (nI i) :: .ref a :: rest)) := by
  refine va_iast hx hb hK hP hD hS q0 t0 ha ht (vp_in_nI hi hN) hdg ?_
  rw [nI_clamp (by omega)]; exact kk
theorem xa_zast {ws : va_W} {a : Nat} {A : Nat → Prop} {H0 : Heap} (hx : p.tables.exec = Jvm.exec) (hb : c.code = cc) (hK : va_K D vwCl tys s) (hP : va_P D vwCl ws H) (hD : va_D A ws) (hS : va_S A H0 H locs) (q0 t0 : Nat) {cA : ClassId} {N : Nat} {fn : Nat → Int32} (ha : ws[q0]? = some (a, .inl (cA, N, .inl fn))) (ht : tys[t0]? = some (cA, .boolean)) {i : Nat} {x : Int32} (hi : i < N) (hN : N < 2 ^ 31) (hz : vp_nar .boolean x = x) (hdg : decode cc pc = .ok (.bastore, 1))
    (kk : ∀ (H1 : Heap) (locs1 : List Loc), va_P D vwCl (ws.set q0 (a, .inl (cA, N, .inl (upd fn i x)))) H1 → va_D A (ws.set q0 (a, .inl (cA, N, .inl (upd fn i x)))) → va_S A H0 H1 locs1 → W p l e R s m args below meth c H1 locs1 cells slots Q (F0 m (pc + 1) ls rest)) : W p l e R s m args below meth c H locs cells slots Q (F0 m pc ls (.int x :: .int (nI i) :: .ref a :: rest)) := by
  refine va_zast hx hb hK hP hD hS q0 t0 ha ht (vp_in_nI hi hN) hdg ?_
  rw [nI_clamp (by omega), hz]; exact kk
end XR
/-- a truth as Java's int -/
def bI (b : Bool) : Int32 := if b then 1 else 0
theorem bI_nar (b : Bool) : narrow .boolean (.int (bI b)) = .int (bI b) := by cases b <;> rfl
theorem bI_vp (b : Bool) : vp_nar .boolean (bI b) = bI b := by cases b <;> rfl
theorem bI_eq0 (b : Bool) : bI b = 0 ↔ b = false := by cases b <;> decide
theorem bI_1 {b : Bool} (h : b = true) : nI 1 = bI b := by rw [h]; rfl
theorem bI_0 {b : Bool} (h : b = false) : nI 0 = bI b := by rw [h]; rfl
theorem bI_t {b : Bool} (h : ¬ bI b = 0) : b = true := by cases b with | false => exact absurd rfl h | true => rfl
theorem bI_f {b : Bool} (h : bI b = 0) : b = false := (bI_eq0 b).mp h
section XT
variable {p : Program} {l : Launch} {e : Env} {R : Room} {s : State} {m : MethodId} {args : Array Value} {below : List Frame} {meth : Method} {c : Code} {H : Heap} {locs : List Loc} {cells slots : Nat} {Q : State → Prop}
variable {cc : ByteArray} {pc nL : Nat} {ls : Array Slot} {st0 rest As : List Value} {own C : String} {index maxL n f q : Nat} {y : MethodName} {bytes : ByteArray} {ret : Option FieldType} {D : va_G} {wsub : va_W} {tys : List (ClassId × FieldType)} {b : Nat}
theorem xtop {x y : Int32} (h : x = y) (k : W p l e R s m args below meth c H locs cells slots Q (F0 m pc ls (.int y :: rest))) : W p l e R s m args below meth c H locs cells slots Q (F0 m pc ls (.int x :: rest)) := by
  rw [h]; exact k
theorem xtop2 {v : Value} {x y : Int32} (h : x = y) (k : W p l e R s m args below meth c H locs cells slots Q (F0 m pc ls (v :: .int y :: rest))) : W p l e R s m args below meth c H locs cells slots Q (F0 m pc ls (v :: .int x :: rest)) := by
  rw [h]; exact k
theorem xr_min (hexec : p.tables.exec = Jvm.exec) (hb : c.code = cc) (hml : c.maxLocals = ls.size) (hown : s.vm.findClass own = some m.cls) (hlink : (Cond.methodLink own index ⟨"java/lang/Math", "min", "(II)I"⟩).before args s = true) (hstat : (Cond.static ⟨"java/lang/Math", "min", "(II)I"⟩).before args s = true) (hini : (Cond.initialized "java/lang/Math").before args s = true) (hcode : (Cond.code ⟨"java/lang/Math", "min", "(II)I"⟩ prog_11_method_69_code 2 (some .int)).before args s = true)
    (hframes : 1 ≤ R.frames) (hlocals : (rest.map fun v => v.category).sum + 13 ≤ R.locals) (hc : cells ≤ R.cells) (hs : slots ≤ R.slots) {x y : Int32} (hdg : decode cc pc = .ok (.invokestatic index, 3))
    (kk : W p l e R s m args below meth c H locs cells slots Q (F0 m (pc + 3) ls (.int (if y < x then y else x) :: rest))) : W p l e R s m args below meth c H locs cells slots Q (F0 m pc ls (.int y :: .int x :: rest)) := by
  have e1 : prog_11_method_69_code = Lib.Math.min.code := by decide +kernel
  rw [e1] at hcode
  exact va_mmin hexec hb hml hown hlink hstat hini hcode hframes hlocals hc hs hdg kk
theorem xtab_out {x : Int32} (h1 : ¬ x = nI 1) (h2 : ¬ x = nI 2) (h3 : ¬ x = nI 3) (h4 : ¬ x = nI 4) : x.toInt < 1 ∨ 4 < x.toInt := by
  have a1 := lv_neT h1 (a := 1) (by decide)
  have a2 := lv_neT h2 (a := 2) (by decide)
  have a3 := lv_neT h3 (a := 3) (by decide)
  have a4 := lv_neT h4 (a := 4) (by decide)
  omega
theorem xD_of {A : Nat → Prop} {ws wc w1 : va_W} (hD : va_D A ws) (isC : List Nat) (hC : isC.map (fun i => ws[i]?) = wc.map some) (hnC : va_nd isC = true) (ha : w1.map (·.1) = wc.map (·.1)) : va_D (xA wc) wc ∧ (∀ (k : Nat) (q : Nat × va_E), wc[k]? = some q → A q.1) ∧ va_D (xA wc) w1 := by
  have h1 := hD.sub isC hnC hC
  have hk : ∀ (k : Nat) (q : Nat × va_E), w1[k]? = some q → ∃ e2, wc[k]? = some (q.1, e2) := by
    intro k q hq
    have h2 : (w1.map (·.1))[k]? = some q.1 := by rw [List.getElem?_map, hq]; rfl
    rw [ha, List.getElem?_map] at h2
    cases hw : wc[k]? with
    | none => rw [hw] at h2; cases h2
    | some z =>
      rw [hw] at h2
      have h3 : z.1 = q.1 := Option.some.inj h2
      exact ⟨z.2, by rw [← h3]⟩
  refine ⟨⟨h1.1, fun k q h => ⟨k, q.2, h⟩⟩, h1.2, ⟨fun i j a d hi hj had => ?_, fun k q h => ?_⟩⟩
  · obtain ⟨x1, hx1⟩ := hk i a hi
    obtain ⟨x2, hx2⟩ := hk j d hj
    exact h1.1 i j _ _ hx1 hx2 had
  · obtain ⟨x1, hx1⟩ := hk k q h
    exact ⟨k, x1, hx1⟩
/-- behind a writing call: the caller's other cells, the callee's world, in the order perm -/
theorem xjoin {A : Nat → Prop} {ws wc wr w1 ws2 : va_W} {H1 : Heap} (hP : va_P D vwCl ws H) (hD : va_D A ws) (isC isR perm : List Nat) (hC : isC.map (fun i => ws[i]?) = wc.map some) (hR : isR.map (fun i => ws[i]?) = wr.map some) (hnC : va_nd isC = true) (hn : va_nd isR = true) (hdis : ∀ i ∈ isR, i ∉ isC)
    (ha : w1.map (·.1) = wc.map (·.1)) (hp : perm.map (fun i => (wr ++ w1)[i]?) = ws2.map some) (hnp : va_nd perm = true)
    (hk : ∀ q : Nat, q < H.size → ¬ xA wc q → H1[q]? = H[q]?) (hP1 : va_P D vwCl w1 H1) : va_P D vwCl ws2 H1 ∧ va_D A ws2 := by
  obtain ⟨d1, d2, d3⟩ := xD_of hD isC hC hnC ha
  have hD9 : va_D (fun q => A q ∨ H.size ≤ q) ws := hD.weaken (fun _ _ _ h => Or.inl h)
  obtain ⟨g1, g2⟩ := va_join hP hD9 isC isR hC hR hn hdis (fun q h1 h2 => hk q h1 (fun z => h2 (Or.inl z))) (fun q h => by
    rcases h with ⟨k, e1, h⟩ | h
    · exact Or.inl (d2 k _ h)
    · exact Or.inr h) hP1 (d3.weaken (fun _ _ _ h => Or.inl h))
  have hR2 := hD.sub isR hn hR
  have g3 : va_D A (wr ++ w1) := by
    refine ⟨g2.1, fun k q h => ?_⟩
    rcases List.mem_append.mp (List.mem_of_getElem? h) with h | h
    · obtain ⟨i, hi⟩ := List.getElem?_of_mem h
      exact hR2.2 i q hi
    · obtain ⟨i, hi⟩ := List.getElem?_of_mem h
      obtain ⟨j, e1, hj⟩ := d3.2 i q hi
      exact d2 j (q.1, e1) hj
  have hp2 : perm.filterMap (fun i => (wr ++ w1)[i]?) = ws2 := by
    have e1 : ∀ (ps : List Nat) (w : va_W), ps.map (fun i => (wr ++ w1)[i]?) = w.map some → ps.filterMap (fun i => (wr ++ w1)[i]?) = w := by
      intro ps
      induction ps with
      | nil => intro w h; cases w with
        | nil => rfl
        | cons a b => cases h
      | cons i ps ih => intro w h; cases w with
        | nil => cases h
        | cons a b =>
          rw [List.map_cons, List.map_cons] at h
          injection h with h1 h2
          rw [List.filterMap_cons, h1, ih b h2]
    exact e1 perm ws2 hp
  exact ⟨g1.sub perm hp2, g3.sub perm hnp hp⟩
theorem xw_go {A : Nat → Prop} {H0 : Heap} {a : Array Value} {ro : Option Value} {ws wc w1 : va_W} (hr : va_Run p l e R s m args below meth c H locs cells slots 0 0 (F0 m pc ls st0) rest (xQw ro D wc w1 a) (xA wc)) (hS : va_S A H0 H locs) (hwc : ∀ q, xA wc q → A q)
    (kk : ∀ (H1 : Heap) (locs1 : List Loc), va_P D vwCl w1 H1 → (∀ q : Nat, q < H.size → ¬ xA wc q → H1[q]? = H[q]?) → va_S A H0 H1 locs1 → W p l e R s m args below meth c H1 locs1 cells slots Q (F0 m (pc + 3) ls (ro.toList ++ rest))) : W p l e R s m args below meth c H locs cells slots Q (F0 m pc ls st0) := by
  intro T hT X
  obtain ⟨v, st₀, t, T', L, h0, X', hL, e1, -, ⟨hv, hp, hz, hk⟩, st⟩ := hr T hT X
  cases hv
  rw [h0] at hz hk
  obtain ⟨t2, a1, b1⟩ := kk T'.heap (locs ++ L) (by rw [e1]; exact hp) (fun q h1 h2 => by rw [e1]; exact hk q h1 h2)
    ⟨Nat.le_trans hS.1 (by rw [e1]; exact hz), fun q h1 h2 => by rw [e1, hk q (Nat.lt_of_lt_of_le h1 hS.1) (fun z => h2 (hwc q z))]; exact hS.2.1 q h1 h2, fun q hq => by
      rcases List.mem_append.mp hq with h | h
      · exact hS.2.2 q h
      · exact hwc _ (hL q h)⟩ T' rfl X'
  exact ⟨t2, st t2 a1, b1⟩
/-- a call of a writing method by its object -/
theorem xwV {A : Nat → Prop} {H0 : Heap} {ro : Option Value} {ws wc wr w1 ws2 : va_W} (hx : p.tables.exec = Jvm.exec) (hb : c.code = cc) (hml : c.maxLocals = nL) (hown : s.vm.findClass own = some m.cls) (ht : ∀ w ∈ wBIG, w.before args s = true) (hN : xN s)
    (k : xcV own C index y bytes maxL ret n) (hM : xWR l y bytes maxL ret (xrm f q) (.ref b :: As) D wc tys ro w1) (hR : f + 1 ≤ R.frames ∧ 8 + (maxL + 11) + q ≤ R.locals)
    (hP : va_P D vwCl ws H) (hD : va_D A ws) (hS : va_S A H0 H locs) (hK : va_K D vwCl tys s)
    (isC isR perm : List Nat) (hC : isC.map (fun i => ws[i]?) = wc.map some) (hRr : isR.map (fun i => ws[i]?) = wr.map some) (hnC : va_nd isC = true) (hnR : va_nd isR = true) (hdis : ∀ i ∈ isR, i ∉ isC) (ha : w1.map (·.1) = wc.map (·.1)) (hp : perm.map (fun i => (wr ++ w1)[i]?) = ws2.map some) (hnp : va_nd perm = true)
    {ci : Nat} {fs : List Value} {qc : vw_C} (he : wc[0]? = some (b, .inr (ci, fs))) (hc : vwCl[ci]? = some qc) (hqc : qc.1 = C)
    (hn : As.length = n) (hsize : ls.size = nL) (hst : st0 = As.reverse ++ .ref b :: rest) (hcat : (rest.map fun v => v.category).sum ≤ 8) (hdg : decode cc pc = .ok (.invokevirtual index, 3)) (hf : cells ≤ R.cells ∧ slots ≤ R.slots)
    (kk : ∀ (H1 : Heap) (locs1 : List Loc), va_P D vwCl ws2 H1 → va_D A ws2 → va_S A H0 H1 locs1 → W p l e R s m args below meth c H1 locs1 cells slots Q (F0 m (pc + 3) ls (ro.toList ++ rest))) : W p l e R s m args below meth c H locs cells slots Q (F0 m pc ls st0) := by
  subst hqc
  obtain ⟨d1, d2, d3⟩ := xD_of hD isC hC hnC ha
  have hPc : va_P D vwCl wc H := by
    intro j z hz
    have h1 : (isC.map (fun i => ws[i]?))[j]? = some (some z) := by rw [hC, List.getElem?_map, hz]; rfl
    rw [List.getElem?_map] at h1
    cases hi : isC[j]? with
    | none => rw [hi] at h1; cases h1
    | some i => rw [hi] at h1; exact hP i z (Option.some.inj h1)
  refine xw_go (ws := ws) (va_runV (As := As) (rest := rest) ⟨hx, hb, hml, hown, ht⟩ hM (k.cw ht rfl rfl hR) ⟨fun a U g mk h => ⟨h.1, h.2.1.calling, h.2.2⟩, va_recv hK hPc hc he, fun U hU hW => ⟨rfl, xB.at hPc hK hN hU hW, d1.weaken (fun _ _ _ _ => trivial)⟩⟩ rfl hn hsize hst (lv_room hcat) hdg hf) hS (fun q ⟨j, e1, h⟩ => d2 j _ h) (fun H1 locs1 h1 h2 h3 => ?_)
  obtain ⟨g1, g2⟩ := xjoin hP hD isC isR perm hC hRr hnC hnR hdis ha hp hnp h2 h1
  exact kk H1 locs1 g1 g2 h3
end XT
theorem xx_xor (a b : Nat) : nI a ^^^ nI b = nI (a ^^^ b) := (Int32.toBitVec_inj).mp (by
  show (nI a).toBitVec ^^^ (nI b).toBitVec = (nI (a ^^^ b)).toBitVec
  apply BitVec.eq_of_toNat_eq
  simp [nI, BitVec.toNat_xor, Nat.xor_mod_two_pow])
