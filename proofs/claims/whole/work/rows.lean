section
-- ===== PART A: goes FIRST, ahead of the names: the tables' words, and 'selects' of the private methods out of them =====
/-- a private method of a class that the tables say can be made, by its rows of tables_1 -/
def lw_okq (q : MethodName × Nat) : Prop := (q.1.cls ≠ "java/lang/invoke/MethodHandle" ∧ q.1.cls ≠ "java/lang/invoke/VarHandle") ∧ Cond.instantiable q.1.cls q.2 ∈ tables_1 ∧ Cond.privateMethod q.1 ∈ tables_1 ∧ Cond.instanceMethod q.1 ∈ tables_1
theorem lw_p0 : lw_okq (⟨"java/lang/Throwable", "fillInStackTrace", "(I)Ljava/lang/Throwable;"⟩, 6) := ⟨⟨by decide +kernel, by decide +kernel⟩, List.mem_of_getElem? (i := 163) (by decide +kernel), List.mem_of_getElem? (i := 161) (by decide +kernel), List.mem_of_getElem? (i := 162) (by decide +kernel)⟩
theorem lw_p1 : lw_okq (⟨"ClosureRows", "tellChanges", "()V"⟩, 6) := ⟨⟨by decide +kernel, by decide +kernel⟩, List.mem_of_getElem? (i := 15) (by decide +kernel), List.mem_of_getElem? (i := 268) (by decide +kernel), List.mem_of_getElem? (i := 269) (by decide +kernel)⟩
theorem lw_p2 : lw_okq (⟨"ClosureRows$Closures", "holds", "(II)Z"⟩, 10) := ⟨⟨by decide +kernel, by decide +kernel⟩, List.mem_of_getElem? (i := 23) (by decide +kernel), List.mem_of_getElem? (i := 276) (by decide +kernel), List.mem_of_getElem? (i := 277) (by decide +kernel)⟩
theorem lw_p3 : lw_okq (⟨"ClosureRows$Closures", "minuteOfPeriod", "(II)I"⟩, 10) := ⟨⟨by decide +kernel, by decide +kernel⟩, List.mem_of_getElem? (i := 23) (by decide +kernel), List.mem_of_getElem? (i := 280) (by decide +kernel), List.mem_of_getElem? (i := 281) (by decide +kernel)⟩
theorem lw_p4 : lw_okq (⟨"ClosureRows$Closures", "markSides", "([ZI)V"⟩, 10) := ⟨⟨by decide +kernel, by decide +kernel⟩, List.mem_of_getElem? (i := 23) (by decide +kernel), List.mem_of_getElem? (i := 286) (by decide +kernel), List.mem_of_getElem? (i := 287) (by decide +kernel)⟩
theorem lw_p5 : lw_okq (⟨"ClosureRows", "tellUnits", "(I)V"⟩, 6) := ⟨⟨by decide +kernel, by decide +kernel⟩, List.mem_of_getElem? (i := 15) (by decide +kernel), List.mem_of_getElem? (i := 293) (by decide +kernel), List.mem_of_getElem? (i := 294) (by decide +kernel)⟩
theorem lw_p6 : lw_okq (⟨"ClosureRows", "needClosure", "(I)V"⟩, 6) := ⟨⟨by decide +kernel, by decide +kernel⟩, List.mem_of_getElem? (i := 15) (by decide +kernel), List.mem_of_getElem? (i := 329) (by decide +kernel), List.mem_of_getElem? (i := 330) (by decide +kernel)⟩
theorem lw_p7 : lw_okq (⟨"ClosureRows$Closures", "changeOf", "(II)I"⟩, 10) := ⟨⟨by decide +kernel, by decide +kernel⟩, List.mem_of_getElem? (i := 23) (by decide +kernel), List.mem_of_getElem? (i := 440) (by decide +kernel), List.mem_of_getElem? (i := 441) (by decide +kernel)⟩
theorem lw_p8 : lw_okq (⟨"ClosureRows$Closures", "holdsOn", "(III)Z"⟩, 10) := ⟨⟨by decide +kernel, by decide +kernel⟩, List.mem_of_getElem? (i := 23) (by decide +kernel), List.mem_of_getElem? (i := 458) (by decide +kernel), List.mem_of_getElem? (i := 459) (by decide +kernel)⟩
theorem lw_p9 : lw_okq (⟨"ClosureRows$Closures", "covers", "(II)Z"⟩, 10) := ⟨⟨by decide +kernel, by decide +kernel⟩, List.mem_of_getElem? (i := 23) (by decide +kernel), List.mem_of_getElem? (i := 462) (by decide +kernel), List.mem_of_getElem? (i := 463) (by decide +kernel)⟩
theorem lw_p10 : lw_okq (⟨"ClosureRows$Closures", "rankOf", "(III)I"⟩, 10) := ⟨⟨by decide +kernel, by decide +kernel⟩, List.mem_of_getElem? (i := 23) (by decide +kernel), List.mem_of_getElem? (i := 500) (by decide +kernel), List.mem_of_getElem? (i := 501) (by decide +kernel)⟩
theorem lw_p11 : lw_okq (⟨"ClosureRows$Closures", "endsAheadOf", "(II)Z"⟩, 10) := ⟨⟨by decide +kernel, by decide +kernel⟩, List.mem_of_getElem? (i := 23) (by decide +kernel), List.mem_of_getElem? (i := 504) (by decide +kernel), List.mem_of_getElem? (i := 505) (by decide +kernel)⟩
theorem lw_p12 : lw_okq (⟨"ClosureRowsModel", "throwing", "(ZZZ)Z"⟩, 18) := ⟨⟨by decide +kernel, by decide +kernel⟩, List.mem_of_getElem? (i := 547) (by decide +kernel), List.mem_of_getElem? (i := 629) (by decide +kernel), List.mem_of_getElem? (i := 630) (by decide +kernel)⟩
theorem lw_p13 : lw_okq (⟨"ClosureRowsModel", "look", "()V"⟩, 18) := ⟨⟨by decide +kernel, by decide +kernel⟩, List.mem_of_getElem? (i := 547) (by decide +kernel), List.mem_of_getElem? (i := 633) (by decide +kernel), List.mem_of_getElem? (i := 634) (by decide +kernel)⟩
theorem lw_p14 : lw_okq (⟨"ClosureRowsModel", "isClosed", "(III)Z"⟩, 18) := ⟨⟨by decide +kernel, by decide +kernel⟩, List.mem_of_getElem? (i := 547) (by decide +kernel), List.mem_of_getElem? (i := 637) (by decide +kernel), List.mem_of_getElem? (i := 638) (by decide +kernel)⟩
theorem lw_p15 : lw_okq (⟨"ClosureRowsModel", "isOn", "(III)Z"⟩, 18) := ⟨⟨by decide +kernel, by decide +kernel⟩, List.mem_of_getElem? (i := 547) (by decide +kernel), List.mem_of_getElem? (i := 641) (by decide +kernel), List.mem_of_getElem? (i := 642) (by decide +kernel)⟩
def lw_privs_1 : List (MethodName × Nat) := [(⟨"java/lang/Throwable", "fillInStackTrace", "(I)Ljava/lang/Throwable;"⟩, 6), (⟨"ClosureRows", "tellChanges", "()V"⟩, 6), (⟨"ClosureRows$Closures", "holds", "(II)Z"⟩, 10), (⟨"ClosureRows$Closures", "minuteOfPeriod", "(II)I"⟩, 10), (⟨"ClosureRows$Closures", "markSides", "([ZI)V"⟩, 10), (⟨"ClosureRows", "tellUnits", "(I)V"⟩, 6), (⟨"ClosureRows", "needClosure", "(I)V"⟩, 6), (⟨"ClosureRows$Closures", "changeOf", "(II)I"⟩, 10), (⟨"ClosureRows$Closures", "holdsOn", "(III)Z"⟩, 10), (⟨"ClosureRows$Closures", "covers", "(II)Z"⟩, 10), (⟨"ClosureRows$Closures", "rankOf", "(III)I"⟩, 10), (⟨"ClosureRows$Closures", "endsAheadOf", "(II)Z"⟩, 10), (⟨"ClosureRowsModel", "throwing", "(ZZZ)Z"⟩, 18), (⟨"ClosureRowsModel", "look", "()V"⟩, 18), (⟨"ClosureRowsModel", "isClosed", "(III)Z"⟩, 18), (⟨"ClosureRowsModel", "isOn", "(III)Z"⟩, 18)]
theorem lw_r1 : ∀ q ∈ lw_privs_1, lw_okq q := List.forall_mem_cons.mpr ⟨lw_p0, List.forall_mem_cons.mpr ⟨lw_p1, List.forall_mem_cons.mpr ⟨lw_p2, List.forall_mem_cons.mpr ⟨lw_p3, List.forall_mem_cons.mpr ⟨lw_p4, List.forall_mem_cons.mpr ⟨lw_p5, List.forall_mem_cons.mpr ⟨lw_p6, List.forall_mem_cons.mpr ⟨lw_p7, List.forall_mem_cons.mpr ⟨lw_p8, List.forall_mem_cons.mpr ⟨lw_p9, List.forall_mem_cons.mpr ⟨lw_p10, List.forall_mem_cons.mpr ⟨lw_p11, List.forall_mem_cons.mpr ⟨lw_p12, List.forall_mem_cons.mpr ⟨lw_p13, List.forall_mem_cons.mpr ⟨lw_p14, List.forall_mem_cons.mpr ⟨lw_p15, fun _ h => absurd h List.not_mem_nil⟩⟩⟩⟩⟩⟩⟩⟩⟩⟩⟩⟩⟩⟩⟩⟩
theorem lw_p16 : lw_okq (⟨"ClosureRowsModel", "holds", "(II)Z"⟩, 18) := ⟨⟨by decide +kernel, by decide +kernel⟩, List.mem_of_getElem? (i := 547) (by decide +kernel), List.mem_of_getElem? (i := 645) (by decide +kernel), List.mem_of_getElem? (i := 646) (by decide +kernel)⟩
theorem lw_p17 : lw_okq (⟨"ClosureRowsModel", "has", "(II)Z"⟩, 18) := ⟨⟨by decide +kernel, by decide +kernel⟩, List.mem_of_getElem? (i := 547) (by decide +kernel), List.mem_of_getElem? (i := 649) (by decide +kernel), List.mem_of_getElem? (i := 650) (by decide +kernel)⟩
theorem lw_p18 : lw_okq (⟨"ClosureRowsModel", "isClosure", "(I)Z"⟩, 18) := ⟨⟨by decide +kernel, by decide +kernel⟩, List.mem_of_getElem? (i := 547) (by decide +kernel), List.mem_of_getElem? (i := 657) (by decide +kernel), List.mem_of_getElem? (i := 658) (by decide +kernel)⟩
theorem lw_p19 : lw_okq (⟨"ClosureRowsModel", "endOf", "(I)I"⟩, 18) := ⟨⟨by decide +kernel, by decide +kernel⟩, List.mem_of_getElem? (i := 547) (by decide +kernel), List.mem_of_getElem? (i := 700) (by decide +kernel), List.mem_of_getElem? (i := 701) (by decide +kernel)⟩
def lw_privs_2 : List (MethodName × Nat) := [(⟨"ClosureRowsModel", "holds", "(II)Z"⟩, 18), (⟨"ClosureRowsModel", "has", "(II)Z"⟩, 18), (⟨"ClosureRowsModel", "isClosure", "(I)Z"⟩, 18), (⟨"ClosureRowsModel", "endOf", "(I)I"⟩, 18)]
theorem lw_r2 : ∀ q ∈ lw_privs_2, lw_okq q := List.forall_mem_cons.mpr ⟨lw_p16, List.forall_mem_cons.mpr ⟨lw_p17, List.forall_mem_cons.mpr ⟨lw_p18, List.forall_mem_cons.mpr ⟨lw_p19, fun _ h => absurd h List.not_mem_nil⟩⟩⟩⟩
def lw_privs : List (MethodName × Nat) := lw_privs_1 ++ (lw_privs_2)
def lw_tbl : List Cond := k2_sels lw_privs ++ tables_1
theorem lw_privs_ok : ∀ q ∈ lw_privs, lw_okq q := by
  show ∀ q ∈ lw_privs_1 ++ (lw_privs_2), lw_okq q
  exact List.forall_mem_append.mpr ⟨lw_r1, lw_r2⟩
/-! ===== BEGIN words of one list among another's, by their places ===== -/
theorem goodIn_r {big : List Cond} (ws : List Cond) (ps : List Nat) (hp : ws = ps.filterMap (fun i => big[i]?)) (h : ws.all goodWord = true) : GoodIn big ws := by
  intro w hw
  have h1 := List.all_eq_true.mp h w hw
  rw [hp] at hw
  obtain ⟨i, -, hi⟩ := List.mem_filterMap.mp hw
  have hm : w ∈ big := by first | exact List.mem_of_getElem? hi | exact List.getElem?_mem hi
  exact ⟨hm, good_of_word h1⟩
theorem goodIn_app {big a b : List Cond} (ha : GoodIn big a) (hb : GoodIn big b) : GoodIn big (a ++ b) := fun w h => (List.mem_append.mp h).elim (ha w) (hb w)
theorem goodIn_ca {big a b : List Cond} {c : Cond} (ha : GoodIn big (c :: a)) (hb : GoodIn big b) : GoodIn big (c :: (a ++ b)) := fun w h => (List.mem_cons.mp h).elim (fun e => ha w (List.mem_cons.mpr (Or.inl e))) (fun h => (List.mem_append.mp h).elim (fun h => ha w (List.mem_cons.mpr (Or.inr h))) (hb w))
theorem goodIn_sub {big ws : List Cond} (hm : ∀ w ∈ ws, w ∈ big) (h : ws.all goodWord = true) : GoodIn big ws := fun w hw => ⟨hm w hw, good_of_word (List.all_eq_true.mp h w hw)⟩
/-! ===== END ===== -/

/-! ===== BEGIN exceptions that leave a method, and their catching by the caller (launches without stack traces) ===== -/
section VXA
/-! The laws vx_back, vx_callV, vx_callS, vx_callSW, vx_throw0, vx_throwS follow proofs of the library, with one case more: JvmDerived/Free/Laws.lean (Back.of_free), Shelf42/LK1.lean (callV, callS), Shelf/KitTraced.lean (throwNew0V, throwNewS). -/
/-- where a method has thrown q: the class by its name, the cell, what was written, the world -/
def vx_T (XC : String → State → State → Prop) (st : State) (q : Addr) (t : State) (mc ms : Nat) (free : Addr → Prop) : Prop :=
  ∃ (E : String) (ce : Cell) (L : List Loc), XC E st t ∧ t.heap[q]? = some ce ∧ ce.vm = .none ∧ st.vm.findClass E = some ce.cls ∧ st.WarmedH t.vm ∧ st.sameButNew ({ t with vm := st.vm } : State) L mc ms ∧ ∀ z ∈ L, free z.base
def vx_Q (Qc : Array Value → State → Outcome → State → Prop) (XC : String → State → State → Prop) (mc ms : Nat) (free : Addr → Prop) : Array Value → State → Outcome → State → Prop := fun a st o t =>
  (Qc a st o t ∧ ∃ L, FrameEnd st o t L mc ms ∧ ∀ q ∈ L, free q.base) ∨ ∃ q, o = .threw q ∧ vx_T XC st q t mc ms free
/-- a callee that returns or throws -/
def vx_Met (l : Launch) (y : MethodName) (ws : List Cond) (rm : Room) (Pc : Array Value → State → Prop) (Qc : Array Value → State → Outcome → State → Prop) (XC : String → State → State → Prop) (mc ms : Nat) (free : Addr → Prop) : Prop :=
  MetFree l y (headSpec ws rm) Pc (fun _ _ _ _ _ => True) (vx_Q Qc XC mc ms free)
def vx_Post (XC : String → State → State → Prop) (mc ms : Nat) (free : Addr → Prop) : Pt → Array Value → Addr → Pt → Prop := fun A a q B =>
  ∃ (g : JFrame) (mk : MethodId) (t : State) (L : List Loc) (E : String) (ce : Cell), B.U.heap = t.heap ∧ B.U.vm = t.vm ∧ XC E (A.U.calling g mk a) t ∧ t.heap[q]? = some ce ∧ ce.vm = .none ∧ A.U.vm.findClass E = some ce.cls ∧ B.locs = A.locs ++ L ∧ (∀ z ∈ L, free z.base) ∧ B.cells = A.cells + mc ∧ B.slots = A.slots + ms
def vx_Back (l : Launch) (R : Room) (p : Program) (e : Env) (below : List Frame) (s : State) (sargs : Array Value) (y : MethodName) (len W9 : Nat)
    (Pre : Pt → Array Value → Prop) (Post : Pt → Array Value → Option Value → Pt → Prop) (PostX : Pt → Array Value → Addr → Pt → Prop) : Prop :=
  ∀ (m : MethodId) (meth : Method) (c : Code) (A : Pt) (g : JFrame) (ig : Instr) (mk : MethodId) (a : Array Value),
    Stand p l e R s m sargs below meth c A.U A.locs A.cells A.slots → g.method = m → g.locals.size = c.maxLocals → decode c.code g.pc = .ok (ig, len) →
    2 * g.monitorRoom + (g.stack.map fun v => v.category).sum ≤ W9 → A.U.methodNamed? y = some mk → Pre A a →
    (∃ (v : Option Value) (B : Pt), Stand p l e R s m sargs below meth c B.U B.locs B.cells B.slots ∧ Post A a v B ∧
      Steps p.tables e below (doInvoke e (A.U.setTop g) [] mk a).1 (B.U.setTop { g with pc := g.pc + len, stack := v.toList ++ g.stack })) ∨
    (∃ (q : Addr) (B : Pt), Stand p l e R s m sargs below meth c B.U B.locs B.cells B.slots ∧ PostX A a q B ∧
      Steps p.tables e below (doInvoke e (A.U.setTop g) [] mk a).1 ((B.U.setTop g).pushFrame (.throwing q)))
section Payer
variable {l : Launch} {R : Room} {p : Program} {e : Env} {below : List Frame} {s : State} {sargs : Array Value} {y : MethodName} {len W9 : Nat}
theorem vx_back {ws : List Cond} {rm : Room} {Pc : Array Value → State → Prop} {Qc : Array Value → State → Outcome → State → Prop} {XC : String → State → State → Prop} {mc ms : Nat} {free : Addr → Prop} {bytes : ByteArray} {maxL : Nat} {ret : Option FieldType}
    (hM : vx_Met l y ws rm Pc Qc XC mc ms free) (hblind : FrameBlind Pc) (hrc : rm.cells = mc) (hrs : rm.slots = ms)
    (hframes : rm.frames + 1 ≤ R.frames) (hlocals : W9 + (maxL + 11) + rm.locals ≤ R.locals)
    (hws : ∀ w ∈ ws, ∀ a' U, s.WarmedH U.vm → w.before a' U = true) (hcode : Cond.code y bytes maxL ret ∈ ws) (hinit : ∀ a' U, s.WarmedH U.vm → (Cond.initialized y.cls).before a' U = true) :
    vx_Back l R p e below s sargs y len W9 (PreOf R mc ms Pc) (PostOf Qc mc ms free) (vx_Post XC mc ms free) := by
  intro m meth c A g ig mk a X hg hsize hdg hW hn hp
  have h1 : (headSpec ws rm).pre.before a A.U = true := atoms_intro fun w hw => hws w hw _ _ X.warmed
  have h2 : (Cond.code y bytes maxL ret).before a A.U = true := hws _ hcode _ _ X.warmed
  have h3 : (Cond.initialized y.cls).before a A.U = true := hinit _ _ X.warmed
  have h4 : A.cells + (headSpec ws rm).room.cells ≤ R.cells := by rw [show (headSpec ws rm).room.cells = mc from hrc]; exact hp.1
  have h5 : A.slots + (headSpec ws rm).room.slots ≤ R.slots := by rw [show (headSpec ws rm).room.slots = ms from hrs]; exact hp.2.1
  have hPc : Pc a (A.U.calling g mk a) := hblind _ _ _ _ hp.2.2
  obtain ⟨U, Ls, c0, s0⟩ := A
  dsimp only [Pt.U, Pt.locs, Pt.cells, Pt.slots] at h1 h2 h3 h4 h5 X hn hPc ⊢
  obtain ⟨methY, cY, hmY, hcY, -, hlY, -, -, -, -⟩ := Cond.code_spec hn h2
  obtain ⟨kY, hkY, -⟩ := className_of_methodNamed hn
  have hinitY : kY.init = .initialized := Cond.initialized_spec (findClass_of_methodNamed hn) hkY h3
  have h : At U g.method c below := by rw [hg]; exact X.here
  have hlocals9 : W9 + (maxL + 11) + (headSpec ws rm).room.locals ≤ R.locals := hlocals
  have happ : (headSpec ws rm).appliesLoose y e.platform (U.calling g mk a) = true :=
    Spec.appliesLoose_calling (g := g) h hdg hn hkY hinitY
      (X.room_calling (g := g) (R' := (headSpec ws rm).room) hsize hmY hcY hframes (by rw [hlY]; omega) h4 h5) h1
  obtain ⟨mid, hmid⟩ := h.above
  have hfr : (U.setTop g).frames = (.java g :: mid) ++ below := by rw [State.frames_setTop' g h.top, hmid]; rfl
  obtain ⟨o, s₂, hsteps, -, hend, hq⟩ := Steps.callFree hM p X.admits X.cas X.clock (acts := []) hfr happ hPc trivial
  have hq' : vx_Q Qc XC mc ms free a (U.calling g mk a) o s₂ := hq
  rw [State.frames_setTop' g h.top] at hend
  obtain ⟨g₀, hg0⟩ := Option.isSome_iff_exists.mp h.top
  obtain ⟨r, hr⟩ := State.topJava?_eq_some.mp hg0
  have hr' : (({ U with heap := s₂.heap, slotsUsed := s₂.slotsUsed } : State).setVm s₂.vm).frames = .java g₀ :: r := hr
  rcases hq' with ⟨hqc, L, hfe, hL⟩ | ⟨q, rfl, E, ce, L, hx, hce, hcv, hcl, hW₂, hsm, hL⟩
  · obtain ⟨⟨v, rfl⟩, hW₂, e2, q2, q3, q4, q5, q6⟩ := id hfe
    have e3 : s₂ = ({ (U.calling g mk a).setFrames s₂.frames with heap := s₂.heap, slotsUsed := s₂.slotsUsed } : State).setVm s₂.vm := by
      have : s₂ = ({ s₂ with vm := (U.calling g mk a).vm } : State).setVm s₂.vm := rfl
      rw [e2] at this
      exact this
    obtain ⟨c₂, i₂, len₂, hc₂, hd₂, hf₂⟩ := hend
    have hW' : U.WarmedH s₂.vm := hW₂
    have hcc : c₂ = c := by
      have h1 : s₂.code? g.method = U.code? g.method := by
        rw [State.code?_eq, State.code?_eq, hW'.alike.method?]
      exact Option.some.inj (hc₂.symm.trans (h1.trans h.code))
    subst hcc
    have hlen : len₂ = len := by rw [hdg] at hd₂; cases hd₂; rfl
    subst hlen
    have hs₂ : s₂ = (({ U with heap := s₂.heap, slotsUsed := s₂.slotsUsed } : State).setVm s₂.vm).setTop { g with pc := g.pc + len₂, stack := v.toList ++ g.stack } := by
      refine e3.trans ?_
      rw [hf₂, State.calling_eq h.top, State.setFrames_setFrames, State.setTop_of_frames _ hr', hr]
      rfl
    have hsame : U.sameButNew ({ U with heap := s₂.heap, slotsUsed := s₂.slotsUsed } : State) L mc ms := by
      refine ⟨?_, q2, q3, q4, q5, q6⟩
      obtain ⟨t, ht, -⟩ := State.frames_cons hr
      show ({ U with heap := s₂.heap, slotsUsed := s₂.slotsUsed } : State) = { U.setFrames U.frames with heap := s₂.heap, slotsUsed := s₂.slotsUsed }
      rw [State.setFrames_self ht]
    subst hg
    refine Or.inl ⟨v, ⟨(({ U with heap := s₂.heap, slotsUsed := s₂.slotsUsed } : State).setVm s₂.vm), Ls ++ L, c0 + mc, s0 + ms⟩,
      ⟨X.admits, X.cas, X.clock, X.frames, X.room, X.hears, X.method, X.code, (X.here.setHeapUsed s₂.heap s₂.slotsUsed).setVm hW'.alike, X.tail, State.WarmedH.trans X.warmed hW', X.limits, X.bytes, X.same.trans (hsame.setVm s.vm)⟩,
      ⟨g, mk, s₂, L, rfl, rfl, hqc, rfl, hL, rfl, rfl⟩, ?_⟩
    show Steps p.tables e below _ ((({ U with heap := s₂.heap, slotsUsed := s₂.slotsUsed } : State).setVm s₂.vm).setTop { g with pc := g.pc + len₂, stack := v.toList ++ g.stack })
    rw [← hs₂]
    exact hsteps
  · obtain ⟨e2, q2, q3, q4, q5, q6⟩ := id hsm
    have e3 : s₂ = ({ (U.calling g mk a).setFrames s₂.frames with heap := s₂.heap, slotsUsed := s₂.slotsUsed } : State).setVm s₂.vm := by
      have : s₂ = ({ s₂ with vm := (U.calling g mk a).vm } : State).setVm s₂.vm := rfl
      rw [e2] at this
      exact this
    have hf₂ : s₂.frames = .throwing q :: .java g :: U.frames.tail := hend
    have hW' : U.WarmedH s₂.vm := hW₂
    have hs₂ : s₂ = ((({ U with heap := s₂.heap, slotsUsed := s₂.slotsUsed } : State).setVm s₂.vm).setTop g).pushFrame (.throwing q) := by
      refine e3.trans ?_
      rw [hf₂, State.calling_eq h.top, State.setFrames_setFrames, State.pushFrame, State.frames_setTop _ hr', State.setTop_of_frames _ hr', State.setFrames_setFrames, hr]
      rfl
    have hsame : U.sameButNew ({ U with heap := s₂.heap, slotsUsed := s₂.slotsUsed } : State) L mc ms := by
      refine ⟨?_, q2, q3, q4, q5, q6⟩
      obtain ⟨t, ht, -⟩ := State.frames_cons hr
      show ({ U with heap := s₂.heap, slotsUsed := s₂.slotsUsed } : State) = { U.setFrames U.frames with heap := s₂.heap, slotsUsed := s₂.slotsUsed }
      rw [State.setFrames_self ht]
    subst hg
    refine Or.inr ⟨q, ⟨(({ U with heap := s₂.heap, slotsUsed := s₂.slotsUsed } : State).setVm s₂.vm), Ls ++ L, c0 + mc, s0 + ms⟩,
      ⟨X.admits, X.cas, X.clock, X.frames, X.room, X.hears, X.method, X.code, (X.here.setHeapUsed s₂.heap s₂.slotsUsed).setVm hW'.alike, X.tail, State.WarmedH.trans X.warmed hW', X.limits, X.bytes, X.same.trans (hsame.setVm s.vm)⟩,
      ⟨g, mk, s₂, L, E, ce, rfl, rfl, hx, hce, hcv, hcl, rfl, hL, rfl, rfl⟩, ?_⟩
    show Steps p.tables e below _ (((({ U with heap := s₂.heap, slotsUsed := s₂.slotsUsed } : State).setVm s₂.vm).setTop g).pushFrame (.throwing q))
    rw [← hs₂]
    exact hsteps
end Payer
section Calls
variable {p : Program} {l : Launch} {e : Env} {R : Room} {s : State} {m : MethodId} {args : Array Value} {below : List Frame} {meth : Method} {c : Code} {T : State} {locs : List Loc} {cells slots : Nat}
theorem vx_callV (X : Stand p l e R s m args below meth c T locs cells slots) (hexec : p.tables.exec = Jvm.exec) {own C : String} {index : Nat} {y : MethodName} {bytes : ByteArray} {maxL : Nat} {ret : Option FieldType}
    (hown : s.vm.findClass own = some m.cls) (hlink : (Cond.methodLink own index y).before args s = true) (hinst : (Cond.instanceMethod y).before args s = true) (hsel : (Cond.selects C y y).before args s = true)
    (hcode : (Cond.code y bytes maxL ret).before args s = true) (hy : y.cls ≠ "java/lang/invoke/MethodHandle" ∧ y.cls ≠ "java/lang/invoke/VarHandle")
    {W9 : Nat} {Pre : Pt → Array Value → Prop} {Post : Pt → Array Value → Option Value → Pt → Prop} {PostX : Pt → Array Value → Addr → Pt → Prop} (hK : vx_Back l R p e below s args y 3 W9 Pre Post PostX)
    {b : Addr} {cellB : Cell} (hcell : T.heap[b]? = some cellB) (hobj : cellB.vm.isStatics = false) (hcls : s.vm.findClass C = some cellB.cls)
    {g : JFrame} (hg : g.method = m) (hsize : g.locals.size = c.maxLocals) {argsL rest : List Value} (hlen : ∀ sig, parseMethodDescriptor y.desc = some sig → argsL.length = sig.parameters.length)
    (hstack : g.stack = argsL.reverse ++ .ref b :: rest) (hW : 2 * g.monitorRoom + (rest.map fun v => v.category).sum ≤ W9) (hdg : decode c.code g.pc = .ok (.invokevirtual index, 3))
    (hpre : ∀ vm₁, s.WarmedH vm₁ → Pre ⟨T.setVm vm₁, locs, cells, slots⟩ (Value.ref b :: argsL).toArray) :
    (∃ (v : Option Value) (vm₁ : Vm) (B : Pt), s.WarmedH vm₁ ∧ Stand p l e R s m args below meth c B.U B.locs B.cells B.slots ∧ Post ⟨T.setVm vm₁, locs, cells, slots⟩ (Value.ref b :: argsL).toArray v B ∧
      ∀ target, Steps p.tables e below (B.U.setTop { g with pc := g.pc + 3, stack := v.toList ++ rest }) target → Steps p.tables e below (T.setTop g) target) ∨
    (∃ (q : Addr) (vm₁ : Vm) (B : Pt), s.WarmedH vm₁ ∧ Stand p l e R s m args below meth c B.U B.locs B.cells B.slots ∧ PostX ⟨T.setVm vm₁, locs, cells, slots⟩ (Value.ref b :: argsL).toArray q B ∧
      Steps p.tables e below (T.setTop g) ((B.U.setTop { g with stack := rest }).pushFrame (.throwing q))) := by
  obtain ⟨mk, methM, hnamed, hmethM, hstM, habM⟩ := Cond.instanceMethod_spec hinst
  obtain ⟨methM', cM, hmethM', -, -, -, -, -, -, hsigM⟩ := Cond.code_spec hnamed hcode
  cases hmethM.symm.trans hmethM'
  obtain ⟨c2, r2, m2, q1, q2, q3, q4, kP, hkP, hkPi⟩ := Cond.selects_spec hsel
  cases hcls.symm.trans q1
  cases (State.methodFound?_of_named hnamed hy).symm.trans q2
  cases hnamed.symm.trans q3
  have hselP : selectMethod e.platform s.vm cellB.cls mk = .method mk := by rw [Launch.admits_selectMethod X.admits]; exact q4
  obtain ⟨vm₁, X₁, hstep₁⟩ := X.invokevirtual hexec hown hlink hnamed hmethM hstM hkP hkPi hy (a := b) (cell := cellB) hcell
    (fun z h => by rw [h] at hobj; cases hobj) hselP hmethM habM hkP hkPi (g := g) hg (argsL := argsL) (rest := rest) (hlen _ hsigM) hstack hdg
  rcases hK m meth c ⟨T.setVm vm₁, locs, cells, slots⟩ { g with stack := rest } (.invokevirtual index) mk (Value.ref b :: argsL).toArray X₁ hg hsize hdg hW (X₁.named hnamed) (hpre vm₁ X₁.warmed) with ⟨v, B, X', hpost, hsteps⟩ | ⟨q, B, X', hpost, hsteps⟩
  · exact Or.inl ⟨v, vm₁, B, X₁.warmed, X', hpost, fun target h => hstep₁ _ fun acts => by rw [doInvoke_state]; exact hsteps.trans h⟩
  · exact Or.inr ⟨q, vm₁, B, X₁.warmed, X', hpost, hstep₁ _ fun acts => by rw [doInvoke_state]; exact hsteps⟩
theorem vx_callS (X : Stand p l e R s m args below meth c T locs cells slots) (hexec : p.tables.exec = Jvm.exec) {own : String} {index : Nat} {y : MethodName} {bytes : ByteArray} {maxL : Nat} {ret : Option FieldType}
    (hown : s.vm.findClass own = some m.cls) (hlink : (Cond.methodLink own index y).before args s = true) (hstat : (Cond.static y).before args s = true) (hinit : (Cond.initialized y.cls).before args s = true)
    (hcode : (Cond.code y bytes maxL ret).before args s = true) (hy : y.cls ≠ "java/lang/invoke/MethodHandle" ∧ y.cls ≠ "java/lang/invoke/VarHandle")
    {W9 : Nat} {Pre : Pt → Array Value → Prop} {Post : Pt → Array Value → Option Value → Pt → Prop} {PostX : Pt → Array Value → Addr → Pt → Prop} (hK : vx_Back l R p e below s args y 3 W9 Pre Post PostX)
    {g : JFrame} (hg : g.method = m) (hsize : g.locals.size = c.maxLocals) {argsL rest : List Value} (hlen : ∀ sig, parseMethodDescriptor y.desc = some sig → argsL.length = sig.parameters.length)
    (hstack : g.stack = argsL.reverse ++ rest) (hW : 2 * g.monitorRoom + (rest.map fun v => v.category).sum ≤ W9) (hdg : decode c.code g.pc = .ok (.invokestatic index, 3))
    (hpre : ∀ vm₁, s.WarmedH vm₁ → Pre ⟨T.setVm vm₁, locs, cells, slots⟩ argsL.toArray) :
    (∃ (v : Option Value) (vm₁ : Vm) (B : Pt), s.WarmedH vm₁ ∧ Stand p l e R s m args below meth c B.U B.locs B.cells B.slots ∧ Post ⟨T.setVm vm₁, locs, cells, slots⟩ argsL.toArray v B ∧
      ∀ target, Steps p.tables e below (B.U.setTop { g with pc := g.pc + 3, stack := v.toList ++ rest }) target → Steps p.tables e below (T.setTop g) target) ∨
    (∃ (q : Addr) (vm₁ : Vm) (B : Pt), s.WarmedH vm₁ ∧ Stand p l e R s m args below meth c B.U B.locs B.cells B.slots ∧ PostX ⟨T.setVm vm₁, locs, cells, slots⟩ argsL.toArray q B ∧
      Steps p.tables e below (T.setTop g) ((B.U.setTop { g with stack := rest }).pushFrame (.throwing q))) := by
  obtain ⟨mk, hnamed⟩ := Cond.code_named hcode
  obtain ⟨methM, cM, hmethM, -, -, -, -, -, -, hsigM⟩ := Cond.code_spec hnamed hcode
  have hstatic : methM.isStatic = true := Cond.static_spec hnamed hmethM hstat
  obtain ⟨kP, hkP, -⟩ := className_of_methodNamed hnamed
  have hinitP : kP.init = .initialized := Cond.initialized_spec (findClass_of_methodNamed hnamed) hkP hinit
  obtain ⟨vm₁, X₁, hstep₁⟩ := X.invokestatic hexec hown hlink hnamed hmethM hstatic hkP hinitP hy (g := g) hg (argsL := argsL) (rest := rest) (hlen _ hsigM) hstack hdg
  rcases hK m meth c ⟨T.setVm vm₁, locs, cells, slots⟩ { g with stack := rest } (.invokestatic index) mk argsL.toArray X₁ hg hsize hdg hW (X₁.named hnamed) (hpre vm₁ X₁.warmed) with ⟨v, B, X', hpost, hsteps⟩ | ⟨q, B, X', hpost, hsteps⟩
  · exact Or.inl ⟨v, vm₁, B, X₁.warmed, X', hpost, fun target h => hstep₁ _ fun acts => by rw [doInvoke_state]; exact hsteps.trans h⟩
  · exact Or.inr ⟨q, vm₁, B, X₁.warmed, X', hpost, hstep₁ _ fun acts => by rw [doInvoke_state]; exact hsteps⟩
end Calls
theorem vx_cls {s : State} {T : State} {vm₁ : Vm} {E : String} {k : ClassId} (hW : s.WarmedH vm₁) (h : (T.setVm vm₁).vm.findClass E = some k) : s.vm.findClass E = some k := by
  have h1 : vm₁.findClass E = some k := h
  rw [hW.alike.findClass] at h1
  exact h1
/-- the method's frame g, with q thrown over it -/
def vx_W (p : Program) (l : Launch) (e : Env) (R : Room) (s : State) (m : MethodId) (args : Array Value) (below : List Frame) (meth : Method) (c : Code) (H : Heap) (locs : List Loc) (cells slots : Nat) (Q : State → Prop) (g : JFrame) (q : Addr) : Prop :=
  ∀ T : State, T.heap = H → Stand p l e R s m args below meth c T locs cells slots → ∃ t, Steps p.tables e below ((T.setTop g).pushFrame (.throwing q)) t ∧ Q t
def vx_Run (p : Program) (l : Launch) (e : Env) (R : Room) (s : State) (m : MethodId) (args : Array Value) (below : List Frame) (meth : Method) (c : Code) (H : Heap) (locs : List Loc) (cells slots mc ms : Nat) (g : JFrame) (rest : List Value) (Qa : State → Outcome → State → Prop) (XC : String → State → State → Prop) (free : Addr → Prop) : Prop :=
  ∀ T : State, T.heap = H → Stand p l e R s m args below meth c T locs cells slots →
    (∃ (v : Option Value) (st₀ t T' : State) (L : List Loc), st₀.heap = H ∧ Stand p l e R s m args below meth c T' (locs ++ L) (cells + mc) (slots + ms) ∧ (∀ q ∈ L, free q.base) ∧ T'.heap = t.heap ∧ T'.vm = t.vm ∧ Qa st₀ (.returned v) t ∧
      Goes p e below T g T' { g with pc := g.pc + 3, stack := v.toList ++ rest }) ∨
    (∃ (q : Addr) (st₀ t T' : State) (L : List Loc) (E : String) (ce : Cell), st₀.heap = H ∧ Stand p l e R s m args below meth c T' (locs ++ L) (cells + mc) (slots + ms) ∧ (∀ z ∈ L, free z.base) ∧ T'.heap = t.heap ∧ T'.vm = t.vm ∧ XC E st₀ t ∧ t.heap[q]? = some ce ∧ ce.vm = .none ∧ s.vm.findClass E = some ce.cls ∧
      Steps p.tables e below (T.setTop g) ((T'.setTop { g with stack := rest }).pushFrame (.throwing q)))
def vx_X {S : Type} (px : S → Prop) (B : String → S → State → Prop) (A : Nat → Prop) : String → State → State → Prop := fun E st t => ∃ u : S, px u ∧ B E u t ∧ va_F A st t
section Runs
variable {p : Program} {l : Launch} {e : Env} {R : Room} {s : State} {m : MethodId} {args : Array Value} {below : List Frame} {meth : Method} {c : Code} {H : Heap} {locs : List Loc} {cells slots : Nat}
variable {y : MethodName} {bytes cc : ByteArray} {maxL nL mc ms n index : Nat} {ret : Option FieldType} {ws : List Cond} {rm : Room} {Pc : Array Value → State → Prop} {Qc : Array Value → State → Outcome → State → Prop} {XC : String → State → State → Prop} {free : Addr → Prop} {Ts : List Cond} {own C : String} {b : Addr} {As rest : List Value} {g : JFrame}
theorem vx_callBack (cb : CallB R s args own index y bytes maxL ret ws rm mc ms n) (hM : vx_Met l y ws rm Pc Qc XC mc ms free) (hbl : FrameBlind Pc) : vx_Back l R p e below s args y 3 8 (PreOf R mc ms Pc) (PostOf Qc mc ms free) (vx_Post XC mc ms free) := by
  obtain ⟨hrc, hrs, hfr, hlo, hws, hcw, -, hini, -⟩ := cb
  exact vx_back (bytes := bytes) (maxL := maxL) (ret := ret) hM hbl hrc hrs hfr hlo hws hcw (fun a' U hW => word_at hW (Or.inl (by first | rfl | simp [Cond.onTables, Cond.keeps, Cond.steady])) hini)
theorem vx_runV (S : CallFix p m c cc nL s args Ts own) (hM : vx_Met l y ws rm Pc Qc XC mc ms free) (cw : CallW R s args own C index y bytes maxL ret ws rm mc ms n) (hp : PreV s H C b Pc As)
    (hg : g.method = m) (hn : As.length = n) (hsize : g.locals.size = nL) (hstack : g.stack = As.reverse ++ .ref b :: rest) (hW : 2 * g.monitorRoom + (rest.map fun v => v.category).sum ≤ 8) (hdg : decode cc g.pc = .ok (.invokevirtual index, 3)) (hf : cells + mc ≤ R.cells ∧ slots + ms ≤ R.slots) :
    vx_Run p l e R s m args below meth c H locs cells slots mc ms g rest (Qc (Value.ref b :: As).toArray) XC free := by
  have hK : vx_Back l R p e below s args y 3 8 (PreOf R mc ms Pc) (PostOf Qc mc ms free) (vx_Post XC mc ms free) := vx_callBack cw.1 hM hp.1
  obtain ⟨⟨-, -, -, -, -, -, hcode, -, hy, hlen, hl⟩, hin, hse⟩ := cw
  obtain ⟨hx, hb, hml, ho, -⟩ := S
  obtain ⟨-, ⟨cellB, hcB, hoB, hclB⟩, hPc⟩ := hp
  intro T hT X
  rcases vx_callV X hx (C := C) (bytes := bytes) (maxL := maxL) (ret := ret) ho hl hin hse hcode hy hK (by rw [hT]; exact hcB) hoB hclB hg (hsize.trans hml.symm) (argsL := As) (rest := rest) (fun sig h => hn.trans (hlen sig h)) hstack hW (by rw [hb]; exact hdg)
    (fun vm₁ hW₁ => ⟨hf.1, hf.2, hPc (T.setVm vm₁) hT hW₁⟩) with ⟨v, vm₁, ⟨U', l2, c2, s2⟩, hW₁, X', ⟨g', mk, t, L, e1, e2, hq, h1, hL, h2, h3⟩, st⟩ | ⟨q, vm₁, ⟨U', l2, c2, s2⟩, hW₁, X', ⟨g', mk, t, L, E, ce, e1, e2, hq, hce, hcv, hcl, h1, hL, h2, h3⟩, st⟩
  · dsimp only [Pt.U, Pt.locs, Pt.cells, Pt.slots] at X' e1 e2 h1 h2 h3 st
    subst h1; subst h2; subst h3
    exact Or.inl ⟨v, (T.setVm vm₁).calling g' mk (Value.ref b :: As).toArray, t, U', L, hT, X', hL, e1, e2, hq, st⟩
  · dsimp only [Pt.U, Pt.locs, Pt.cells, Pt.slots] at X' e1 e2 h1 h2 h3 st hcl
    subst h1; subst h2; subst h3
    exact Or.inr ⟨q, (T.setVm vm₁).calling g' mk (Value.ref b :: As).toArray, t, U', L, E, ce, hT, X', hL, e1, e2, hq, hce, hcv, vx_cls hW₁ hcl, st⟩
theorem vx_runS (S : CallFix p m c cc nL s args Ts own) (hM : vx_Met l y ws rm Pc Qc XC mc ms free) (cw : CallB R s args own index y bytes maxL ret ws rm mc ms n ∧ (Cond.static y).before args s = true) (hp : PreS s H Pc As)
    (hg : g.method = m) (hn : As.length = n) (hsize : g.locals.size = nL) (hstack : g.stack = As.reverse ++ rest) (hW : 2 * g.monitorRoom + (rest.map fun v => v.category).sum ≤ 8) (hdg : decode cc g.pc = .ok (.invokestatic index, 3)) (hf : cells + mc ≤ R.cells ∧ slots + ms ≤ R.slots) :
    vx_Run p l e R s m args below meth c H locs cells slots mc ms g rest (Qc As.toArray) XC free := by
  have hK : vx_Back l R p e below s args y 3 8 (PreOf R mc ms Pc) (PostOf Qc mc ms free) (vx_Post XC mc ms free) := vx_callBack cw.1 hM hp.1
  obtain ⟨⟨-, -, -, -, -, -, hcode, hini, hy, hlen, hl⟩, hstt⟩ := cw
  obtain ⟨hx, hb, hml, ho, -⟩ := S
  intro T hT X
  rcases vx_callS X hx (bytes := bytes) (maxL := maxL) (ret := ret) ho hl hstt hini hcode hy hK hg (hsize.trans hml.symm) (argsL := As) (rest := rest) (fun sig h => hn.trans (hlen sig h)) hstack hW (by rw [hb]; exact hdg)
    (fun vm₁ hW₁ => ⟨hf.1, hf.2, hp.2 (T.setVm vm₁) hT hW₁⟩) with ⟨v, vm₁, ⟨U', l2, c2, s2⟩, hW₁, X', ⟨g', mk, t, L, e1, e2, hq, h1, hL, h2, h3⟩, st⟩ | ⟨q, vm₁, ⟨U', l2, c2, s2⟩, hW₁, X', ⟨g', mk, t, L, E, ce, e1, e2, hq, hce, hcv, hcl, h1, hL, h2, h3⟩, st⟩
  · dsimp only [Pt.U, Pt.locs, Pt.cells, Pt.slots] at X' e1 e2 h1 h2 h3 st
    subst h1; subst h2; subst h3
    exact Or.inl ⟨v, (T.setVm vm₁).calling g' mk As.toArray, t, U', L, hT, X', hL, e1, e2, hq, st⟩
  · dsimp only [Pt.U, Pt.locs, Pt.cells, Pt.slots] at X' e1 e2 h1 h2 h3 st hcl
    subst h1; subst h2; subst h3
    exact Or.inr ⟨q, (T.setVm vm₁).calling g' mk As.toArray, t, U', L, E, ce, hT, X', hL, e1, e2, hq, hce, hcv, vx_cls hW₁ hcl, st⟩
end Runs
section Rows
variable {p : Program} {l : Launch} {e : Env} {R : Room} {s : State} {m : MethodId} {args : Array Value} {below : List Frame} {meth : Method} {c : Code} {H : Heap} {locs : List Loc} {cells slots : Nat} {Q : State → Prop}
variable {mc ms : Nat} {free : Addr → Prop} {A0 A1 : Nat → Prop} {H0 : Heap} {a : Array Value} {pc : Nat} {ls : Array Slot} {st0 rest : List Value}
theorem vx_keep {st₀ t T' : State} {L : List Loc} (h0 : st₀.heap = H) (e1 : T'.heap = t.heap) (hS : va_S A0 H0 H locs) (hA : ∀ q, q < H.size → A1 q → A0 q) (hf : ∀ q, free q → A0 q) (hL : ∀ q ∈ L, free q.base) (hF : va_F A1 st₀ t) :
    H.size ≤ T'.heap.size ∧ (∀ q : Nat, q < H.size → ¬ A1 q → T'.heap[q]? = H[q]?) ∧ va_S A0 H0 T'.heap (locs ++ L) := by
  obtain ⟨hz, hk⟩ := hF
  rw [h0] at hz hk
  exact ⟨by rw [e1]; exact hz, fun q h1 h2 => by rw [e1]; exact hk q h1 h2,
    ⟨Nat.le_trans hS.1 (by rw [e1]; exact hz), fun q h1 h2 => by rw [e1, hk q (Nat.lt_of_lt_of_le h1 hS.1) (fun z => h2 (hA q (Nat.lt_of_lt_of_le h1 hS.1) z))]; exact hS.2.1 q h1 h2, fun q hq => by
      rcases List.mem_append.mp hq with h | h
      · exact hS.2.2 q h
      · exact hf _ (hL q h)⟩⟩
theorem vx_calli {S SX : Type} {post : Int32 → S → Prop} {px : SX → Prop} {B : S → State → Prop} {BX : String → SX → State → Prop} {AX : Nat → Prop} (hr : vx_Run p l e R s m args below meth c H locs cells slots mc ms (F0 m pc ls st0) rest (va_Qi post B A1 a) (vx_X px BX AX) free) (hS : va_S A0 H0 H locs) (hA : ∀ q, q < H.size → A1 q → A0 q) (hf : ∀ q, free q → A0 q) (hAX : ∀ q, q < H.size → AX q → A0 q)
    (kx : ∀ (E : String) (ce : Cell) (q9 : Addr) (u : SX) (t : State) (H1 : Heap) (locs1 : List Loc), t.heap = H1 → s.vm.Alike t.vm → px u → BX E u t → H.size ≤ H1.size → (∀ q : Nat, q < H.size → ¬ AX q → H1[q]? = H[q]?) → va_S A0 H0 H1 locs1 → H1[q9]? = some ce → ce.vm = .none → s.vm.findClass E = some ce.cls → vx_W p l e R s m args below meth c H1 locs1 (cells + mc) (slots + ms) Q (F0 m pc ls rest) q9)
    (kk : ∀ (r : Int32) (u : S) (t : State) (H1 : Heap) (locs1 : List Loc), t.heap = H1 → s.vm.Alike t.vm → post r u → B u t → H.size ≤ H1.size → (∀ q : Nat, q < H.size → ¬ A1 q → H1[q]? = H[q]?) → va_S A0 H0 H1 locs1 → W p l e R s m args below meth c H1 locs1 (cells + mc) (slots + ms) Q (F0 m (pc + 3) ls (.int r :: rest))) : W p l e R s m args below meth c H locs cells slots Q (F0 m pc ls st0) := by
  intro T hT X
  rcases hr T hT X with ⟨v, st₀, t, T', L, h0, X', hL, e1, e2, ⟨⟨r, u, hv, hp, hb⟩, hF⟩, st⟩ | ⟨q, st₀, t, T', L, E, ce, h0, X', hL, e1, e2, ⟨u, hp, hb, hF⟩, hce, hcv, hcl, st⟩
  · cases hv
    obtain ⟨k1, k2, k3⟩ := vx_keep h0 e1 hS hA hf hL hF
    obtain ⟨t2, a1, b1⟩ := kk r u t T'.heap (locs ++ L) e1.symm (by rw [← e2]; exact X'.warmed.alike) hp hb k1 k2 k3 T' rfl X'
    exact ⟨t2, st t2 a1, b1⟩
  · obtain ⟨k1, k2, k3⟩ := vx_keep h0 e1 hS hAX hf hL hF
    obtain ⟨t2, a1, b1⟩ := kx E ce q u t T'.heap (locs ++ L) e1.symm (by rw [← e2]; exact X'.warmed.alike) hp hb k1 k2 k3 (by rw [e1]; exact hce) hcv hcl T' rfl X'
    exact ⟨t2, st.trans a1, b1⟩
theorem vx_calll {S SX : Type} {post : Int64 → S → Prop} {px : SX → Prop} {B : S → State → Prop} {BX : String → SX → State → Prop} {AX : Nat → Prop} (hr : vx_Run p l e R s m args below meth c H locs cells slots mc ms (F0 m pc ls st0) rest (va_Ql post B A1 a) (vx_X px BX AX) free) (hS : va_S A0 H0 H locs) (hA : ∀ q, q < H.size → A1 q → A0 q) (hf : ∀ q, free q → A0 q) (hAX : ∀ q, q < H.size → AX q → A0 q)
    (kx : ∀ (E : String) (ce : Cell) (q9 : Addr) (u : SX) (t : State) (H1 : Heap) (locs1 : List Loc), t.heap = H1 → s.vm.Alike t.vm → px u → BX E u t → H.size ≤ H1.size → (∀ q : Nat, q < H.size → ¬ AX q → H1[q]? = H[q]?) → va_S A0 H0 H1 locs1 → H1[q9]? = some ce → ce.vm = .none → s.vm.findClass E = some ce.cls → vx_W p l e R s m args below meth c H1 locs1 (cells + mc) (slots + ms) Q (F0 m pc ls rest) q9)
    (kk : ∀ (r : Int64) (u : S) (t : State) (H1 : Heap) (locs1 : List Loc), t.heap = H1 → s.vm.Alike t.vm → post r u → B u t → H.size ≤ H1.size → (∀ q : Nat, q < H.size → ¬ A1 q → H1[q]? = H[q]?) → va_S A0 H0 H1 locs1 → W p l e R s m args below meth c H1 locs1 (cells + mc) (slots + ms) Q (F0 m (pc + 3) ls (.long r :: rest))) : W p l e R s m args below meth c H locs cells slots Q (F0 m pc ls st0) := by
  intro T hT X
  rcases hr T hT X with ⟨v, st₀, t, T', L, h0, X', hL, e1, e2, ⟨⟨r, u, hv, hp, hb⟩, hF⟩, st⟩ | ⟨q, st₀, t, T', L, E, ce, h0, X', hL, e1, e2, ⟨u, hp, hb, hF⟩, hce, hcv, hcl, st⟩
  · cases hv
    obtain ⟨k1, k2, k3⟩ := vx_keep h0 e1 hS hA hf hL hF
    obtain ⟨t2, a1, b1⟩ := kk r u t T'.heap (locs ++ L) e1.symm (by rw [← e2]; exact X'.warmed.alike) hp hb k1 k2 k3 T' rfl X'
    exact ⟨t2, st t2 a1, b1⟩
  · obtain ⟨k1, k2, k3⟩ := vx_keep h0 e1 hS hAX hf hL hF
    obtain ⟨t2, a1, b1⟩ := kx E ce q u t T'.heap (locs ++ L) e1.symm (by rw [← e2]; exact X'.warmed.alike) hp hb k1 k2 k3 (by rw [e1]; exact hce) hcv hcl T' rfl X'
    exact ⟨t2, st.trans a1, b1⟩
theorem vx_callf {S SX : Type} {post : UInt32 → S → Prop} {px : SX → Prop} {B : S → State → Prop} {BX : String → SX → State → Prop} {AX : Nat → Prop} (hr : vx_Run p l e R s m args below meth c H locs cells slots mc ms (F0 m pc ls st0) rest (va_Qf post B A1 a) (vx_X px BX AX) free) (hS : va_S A0 H0 H locs) (hA : ∀ q, q < H.size → A1 q → A0 q) (hf : ∀ q, free q → A0 q) (hAX : ∀ q, q < H.size → AX q → A0 q)
    (kx : ∀ (E : String) (ce : Cell) (q9 : Addr) (u : SX) (t : State) (H1 : Heap) (locs1 : List Loc), t.heap = H1 → s.vm.Alike t.vm → px u → BX E u t → H.size ≤ H1.size → (∀ q : Nat, q < H.size → ¬ AX q → H1[q]? = H[q]?) → va_S A0 H0 H1 locs1 → H1[q9]? = some ce → ce.vm = .none → s.vm.findClass E = some ce.cls → vx_W p l e R s m args below meth c H1 locs1 (cells + mc) (slots + ms) Q (F0 m pc ls rest) q9)
    (kk : ∀ (r : UInt32) (u : S) (t : State) (H1 : Heap) (locs1 : List Loc), t.heap = H1 → s.vm.Alike t.vm → post r u → B u t → H.size ≤ H1.size → (∀ q : Nat, q < H.size → ¬ A1 q → H1[q]? = H[q]?) → va_S A0 H0 H1 locs1 → W p l e R s m args below meth c H1 locs1 (cells + mc) (slots + ms) Q (F0 m (pc + 3) ls (.float r :: rest))) : W p l e R s m args below meth c H locs cells slots Q (F0 m pc ls st0) := by
  intro T hT X
  rcases hr T hT X with ⟨v, st₀, t, T', L, h0, X', hL, e1, e2, ⟨⟨r, u, hv, hp, hb⟩, hF⟩, st⟩ | ⟨q, st₀, t, T', L, E, ce, h0, X', hL, e1, e2, ⟨u, hp, hb, hF⟩, hce, hcv, hcl, st⟩
  · cases hv
    obtain ⟨k1, k2, k3⟩ := vx_keep h0 e1 hS hA hf hL hF
    obtain ⟨t2, a1, b1⟩ := kk r u t T'.heap (locs ++ L) e1.symm (by rw [← e2]; exact X'.warmed.alike) hp hb k1 k2 k3 T' rfl X'
    exact ⟨t2, st t2 a1, b1⟩
  · obtain ⟨k1, k2, k3⟩ := vx_keep h0 e1 hS hAX hf hL hF
    obtain ⟨t2, a1, b1⟩ := kx E ce q u t T'.heap (locs ++ L) e1.symm (by rw [← e2]; exact X'.warmed.alike) hp hb k1 k2 k3 (by rw [e1]; exact hce) hcv hcl T' rfl X'
    exact ⟨t2, st.trans a1, b1⟩
theorem vx_calld {S SX : Type} {post : UInt64 → S → Prop} {px : SX → Prop} {B : S → State → Prop} {BX : String → SX → State → Prop} {AX : Nat → Prop} (hr : vx_Run p l e R s m args below meth c H locs cells slots mc ms (F0 m pc ls st0) rest (va_Qd post B A1 a) (vx_X px BX AX) free) (hS : va_S A0 H0 H locs) (hA : ∀ q, q < H.size → A1 q → A0 q) (hf : ∀ q, free q → A0 q) (hAX : ∀ q, q < H.size → AX q → A0 q)
    (kx : ∀ (E : String) (ce : Cell) (q9 : Addr) (u : SX) (t : State) (H1 : Heap) (locs1 : List Loc), t.heap = H1 → s.vm.Alike t.vm → px u → BX E u t → H.size ≤ H1.size → (∀ q : Nat, q < H.size → ¬ AX q → H1[q]? = H[q]?) → va_S A0 H0 H1 locs1 → H1[q9]? = some ce → ce.vm = .none → s.vm.findClass E = some ce.cls → vx_W p l e R s m args below meth c H1 locs1 (cells + mc) (slots + ms) Q (F0 m pc ls rest) q9)
    (kk : ∀ (r : UInt64) (u : S) (t : State) (H1 : Heap) (locs1 : List Loc), t.heap = H1 → s.vm.Alike t.vm → post r u → B u t → H.size ≤ H1.size → (∀ q : Nat, q < H.size → ¬ A1 q → H1[q]? = H[q]?) → va_S A0 H0 H1 locs1 → W p l e R s m args below meth c H1 locs1 (cells + mc) (slots + ms) Q (F0 m (pc + 3) ls (.double r :: rest))) : W p l e R s m args below meth c H locs cells slots Q (F0 m pc ls st0) := by
  intro T hT X
  rcases hr T hT X with ⟨v, st₀, t, T', L, h0, X', hL, e1, e2, ⟨⟨r, u, hv, hp, hb⟩, hF⟩, st⟩ | ⟨q, st₀, t, T', L, E, ce, h0, X', hL, e1, e2, ⟨u, hp, hb, hF⟩, hce, hcv, hcl, st⟩
  · cases hv
    obtain ⟨k1, k2, k3⟩ := vx_keep h0 e1 hS hA hf hL hF
    obtain ⟨t2, a1, b1⟩ := kk r u t T'.heap (locs ++ L) e1.symm (by rw [← e2]; exact X'.warmed.alike) hp hb k1 k2 k3 T' rfl X'
    exact ⟨t2, st t2 a1, b1⟩
  · obtain ⟨k1, k2, k3⟩ := vx_keep h0 e1 hS hAX hf hL hF
    obtain ⟨t2, a1, b1⟩ := kx E ce q u t T'.heap (locs ++ L) e1.symm (by rw [← e2]; exact X'.warmed.alike) hp hb k1 k2 k3 (by rw [e1]; exact hce) hcv hcl T' rfl X'
    exact ⟨t2, st.trans a1, b1⟩
theorem vx_callv {S SX : Type} {post : S → Prop} {px : SX → Prop} {B : S → State → Prop} {BX : String → SX → State → Prop} {AX : Nat → Prop} (hr : vx_Run p l e R s m args below meth c H locs cells slots mc ms (F0 m pc ls st0) rest (va_Qv post B A1 a) (vx_X px BX AX) free) (hS : va_S A0 H0 H locs) (hA : ∀ q, q < H.size → A1 q → A0 q) (hf : ∀ q, free q → A0 q) (hAX : ∀ q, q < H.size → AX q → A0 q)
    (kx : ∀ (E : String) (ce : Cell) (q9 : Addr) (u : SX) (t : State) (H1 : Heap) (locs1 : List Loc), t.heap = H1 → s.vm.Alike t.vm → px u → BX E u t → H.size ≤ H1.size → (∀ q : Nat, q < H.size → ¬ AX q → H1[q]? = H[q]?) → va_S A0 H0 H1 locs1 → H1[q9]? = some ce → ce.vm = .none → s.vm.findClass E = some ce.cls → vx_W p l e R s m args below meth c H1 locs1 (cells + mc) (slots + ms) Q (F0 m pc ls rest) q9)
    (kk : ∀ (u : S) (t : State) (H1 : Heap) (locs1 : List Loc), t.heap = H1 → s.vm.Alike t.vm → post u → B u t → H.size ≤ H1.size → (∀ q : Nat, q < H.size → ¬ A1 q → H1[q]? = H[q]?) → va_S A0 H0 H1 locs1 → W p l e R s m args below meth c H1 locs1 (cells + mc) (slots + ms) Q (F0 m (pc + 3) ls (rest))) : W p l e R s m args below meth c H locs cells slots Q (F0 m pc ls st0) := by
  intro T hT X
  rcases hr T hT X with ⟨v, st₀, t, T', L, h0, X', hL, e1, e2, ⟨⟨u, hv, hp, hb⟩, hF⟩, st⟩ | ⟨q, st₀, t, T', L, E, ce, h0, X', hL, e1, e2, ⟨u, hp, hb, hF⟩, hce, hcv, hcl, st⟩
  · cases hv
    obtain ⟨k1, k2, k3⟩ := vx_keep h0 e1 hS hA hf hL hF
    obtain ⟨t2, a1, b1⟩ := kk u t T'.heap (locs ++ L) e1.symm (by rw [← e2]; exact X'.warmed.alike) hp hb k1 k2 k3 T' rfl X'
    exact ⟨t2, st t2 a1, b1⟩
  · obtain ⟨k1, k2, k3⟩ := vx_keep h0 e1 hS hAX hf hL hF
    obtain ⟨t2, a1, b1⟩ := kx E ce q u t T'.heap (locs ++ L) e1.symm (by rw [← e2]; exact X'.warmed.alike) hp hb k1 k2 k3 (by rw [e1]; exact hce) hcv hcl T' rfl X'
    exact ⟨t2, st.trans a1, b1⟩
/-- caught by the row x of this method's table; the rows ahead don't take it -/
theorem vx_catch {own name : String} {E : String} {ce : Cell} {q : Addr} (hown : s.vm.findClass own = some m.cls) (pre : List ExceptionTableEntry) (x : ExceptionTableEntry) (suf : List ExceptionTableEntry) (hsplit : c.exceptionTable.toList = pre ++ x :: suf)
    (hpass : ∀ z ∈ pre, covers z pc = false ∨ (z.catchType ≠ 0 ∧ ∃ nm : String, (Cond.classLink own z.catchType nm).before args s = true ∧ va_Nc E nm s)) (hx : covers x pc = true) (h0 : x.catchType ≠ 0)
    (hlink : (Cond.classLink own x.catchType name).before args s = true) (hcast : (Cond.castable E name).before args s = true) (hcell : H[q]? = some ce) (hv : ce.vm = .none) (hcl : s.vm.findClass E = some ce.cls)
    (kk : W p l e R s m args below meth c H locs cells slots Q (F0 m x.handlerPc ls [.ref q])) : vx_W p l e R s m args below meth c H locs cells slots Q (F0 m pc ls rest) q := by
  intro T hT X
  have hpl : e.platform.magicAccessors = ({} : Platform).magicAccessors := by rw [X.admits.platform]
  obtain ⟨c3, c4, hc3, hc4, hasg⟩ := Cond.castable_spec hcast
  cases Option.some.inj (hc3.symm.trans hcl)
  obtain ⟨c5, hc5, hcl5⟩ := Cond.classLink_spec hown hlink e.platform hpl
  cases Option.some.inj (hc4.symm.trans hc5)
  obtain ⟨vm', X', st⟩ := X.thenCaughtThrough q (g := F0 m pc ls rest) rfl (Steps.refl _) (by rw [hT]; exact hcell) (by rw [hv]; rfl) (by obtain ⟨k9, h9, -⟩ := Vm.findClass_spec hcl; exact ⟨k9, h9⟩) pre x suf hsplit
    (fun z hz => by
      rcases hpass z hz with h | ⟨hz0, nm, hl1, hn1⟩
      · exact Or.inl h
      · obtain ⟨c6, hc6, hcl6⟩ := Cond.classLink_spec hown hl1 e.platform hpl
        obtain ⟨a8, b8, h1, h2, h3⟩ := hn1
        cases Option.some.inj (h1.symm.trans hcl)
        cases Option.some.inj (h2.symm.trans hc6)
        exact Or.inr ⟨hz0, _, hcl6, h3⟩) hx (Or.inr ⟨h0, c4, hcl5, hasg⟩)
  obtain ⟨t, a1, b1⟩ := kk (T.setVm vm') hT X'
  exact ⟨t, st.trans a1, b1⟩
end Rows
section Ends
variable {p : Program} {l : Launch} {e : Env} {R : Room} {s : State} {m : MethodId} {args : Array Value} {below : List Frame} {meth : Method} {c : Code} {H : Heap} {locs : List Loc} {cells slots : Nat} {Q : State → Prop}
variable {mc ms : Nat} {free : Addr → Prop} {A0 A1 : Nat → Prop} {H0 : Heap} {a : Array Value} {ls : Array Slot} {st0 rest : List Value}
variable {Qc : Array Value → State → Outcome → State → Prop} {XC : String → State → State → Prop}
/-- what a body that may throw owes at its end -/
def vx_MQ (below : List Frame) (Qc : Array Value → State → Outcome → State → Prop) (XC : String → State → State → Prop) (a : Array Value) (s : State) (mc ms : Nat) (free : Addr → Prop) : State → Prop := fun t =>
  ∃ o, t.status = .running ∧ Ended t below o ∧ vx_Q Qc XC mc ms free a s o t
theorem vx_ret {g : JFrame} {mc ms : Nat} (k : W p l e R s m args below meth c H locs cells slots (MQ below Qc args s mc ms free) g) : W p l e R s m args below meth c H locs cells slots (vx_MQ below Qc XC args s mc ms free) g := by
  intro T hT X
  obtain ⟨t, a1, o, b1, b2, b3, b4⟩ := k T hT X
  exact ⟨t, a1, o, b1, b2, Or.inl ⟨b3, b4⟩⟩
/-- not caught here: it goes on to the caller -/
theorem vx_widen {g : JFrame} {q : Addr} {k n : Nat} (h1 : cells ≤ k) (h2 : slots ≤ n) (kk : vx_W p l e R s m args below meth c H locs k n Q g q) : vx_W p l e R s m args below meth c H locs cells slots Q g q := fun T hT X => kk T hT (stand_widen X h1 h2)
theorem vx_out {pc : Nat} {E : String} {ce : Cell} {q : Addr} {mc ms : Nat} (hout : ∀ x ∈ c.exceptionTable.toList, covers x pc = false) (hlocks : meth.locks = false) (hcell : H[q]? = some ce) (hv : ce.vm = .none) (hcl : s.vm.findClass E = some ce.cls)
    (hx : ∀ t : State, t.heap = H → s.vm.Alike t.vm → XC E s t) (hf : ∀ z ∈ locs, free z.base) (hc : cells ≤ mc) (hs : slots ≤ ms) :
    vx_W p l e R s m args below meth c H locs cells slots (vx_MQ below Qc XC args s mc ms free) (F0 m pc ls rest) q := by
  intro T hT X
  obtain ⟨st1, hrun, hend, hW, hsm⟩ := X.leaveThrown q (g := F0 m pc ls rest) rfl rfl rfl hout hlocks
  have hcell9 : (T.setFrames (.throwing q :: below)).heap[q]? = some ce := by
    show T.heap[q]? = some ce
    rw [hT]; exact hcell
  exact ⟨_, st1, .threw q, hrun, hend, Or.inr ⟨q, rfl, E, ce, locs, hx _ hT hW.alike, hcell9, hv, hcl, hW, hsm.mono hc hs, hf⟩⟩
theorem vx_frame {U : State} {k n : Nat} (h : s.sameButNew ({ U with vm := s.vm } : State) locs k n) : s.heap.size ≤ U.heap.size ∧ ∀ q : Nat, q < s.heap.size → (∀ z ∈ locs, z.base ≠ q) → U.heap[q]? = s.heap[q]? := by
  obtain ⟨-, h2, -, -, -, h6⟩ := h
  refine ⟨h2, fun q hq hz => ?_⟩
  obtain ⟨c9, e1, e2, e3, e4⟩ := h6 q _ (Array.getElem?_eq_getElem hq)
  have hs : c9.slots = (s.heap[q]).slots := Array.ext_getElem? fun i => e4 i fun hm => hz _ hm rfl
  have h9 : c9 = s.heap[q] := by
    rw [hs] at e2
    exact e2
  have e5 : U.heap[q]? = some c9 := e1
  rw [e5, h9, Array.getElem?_eq_getElem hq]
/-- the words of a throw but the four that speak of the heap -/
def vx_no (w : Cond) : Bool := decide (w ≠ .isRef (.static Bundle.tN "UNASSIGNED_STACK" Bundle.steD)) && decide (w ≠ .isRef (.static Bundle.tN "SUPPRESSED_SENTINEL" Bundle.listD)) && decide (w ≠ .laysStatic Bundle.tN "UNASSIGNED_STACK" Bundle.steD) && decide (w ≠ .laysStatic Bundle.tN "SUPPRESSED_SENTINEL" Bundle.listD)
def vx_at0 (own : String) (ic : Nat) (X : String) (names : List String) : List Cond := (Bundle.ownAtoms0 own ic X names).filter vx_no
def vx_atS (own : String) (ic : Nat) (X : String) (names : List String) : List Cond := (Bundle.ownAtoms own ic X names).filter vx_no
/-- a word that the tables alone decide, or a good one -/
def vx_ot (w : Cond) : Bool := w.onTables || goodWord w
theorem vx_ot_at {args a' : Array Value} {s U : State} {w : Cond} (hW : s.WarmedH U.vm) (hvm : s.vm = U.vm) (hg : vx_ot w = true) (h : w.before args s = true) : w.before a' U = true := by
  simp only [vx_ot, Bool.or_eq_true] at hg
  rcases hg with hg | hg
  · exact va_tabs hg hvm h
  · exact word_at hW (good_of_word hg) h
/-- a list's words: the good ones out of the method's own list, the others by premises of their own -/
theorem vx_hat {args : Array Value} {s : State} {L B : List Cond} (h1 : ∀ w ∈ L.filter goodWord, w.before args s = true) (h2 : ∀ w ∈ L.filter (fun w => !goodWord w), w ∈ B) (h3 : ∀ w ∈ B, w.before args s = true) : ∀ w ∈ L, w.before args s = true := by
  intro w hw
  by_cases g : goodWord w = true
  · exact h1 w (List.mem_filter.mpr ⟨hw, g⟩)
  · refine h3 w (h2 w (List.mem_filter.mpr ⟨hw, ?_⟩))
    show (!goodWord w) = true
    cases hgw : goodWord w
    · rfl
    · exact absurd hgw g
theorem vx_c {args : Array Value} {s : State} {w : Cond} {B : List Cond} (h : w.before args s = true) (t : ∀ w ∈ B, w.before args s = true) : ∀ w' ∈ w :: B, w'.before args s = true := fun w' h' => (List.mem_cons.mp h').elim (fun e => by rw [e]; exact h) (t w')
theorem vx_n {args : Array Value} {s : State} : ∀ w ∈ ([] : List Cond), w.before args s = true := fun _ h => nomatch h
theorem vx_own {args : Array Value} {s : State} {L : List Cond} (h1 : ∀ w ∈ L.filter vx_no, w.before args s = true)
    (hU : (Cond.isRef (.static Bundle.tN "UNASSIGNED_STACK" Bundle.steD)).before args s = true) (hN : (Cond.isRef (.static Bundle.tN "SUPPRESSED_SENTINEL" Bundle.listD)).before args s = true)
    (lU : (Cond.laysStatic Bundle.tN "UNASSIGNED_STACK" Bundle.steD).before args s = true) (lN : (Cond.laysStatic Bundle.tN "SUPPRESSED_SENTINEL" Bundle.listD).before args s = true) : ∀ w ∈ L, w.before args s = true := by
  intro w hw
  by_cases e1 : w = .isRef (.static Bundle.tN "UNASSIGNED_STACK" Bundle.steD)
  · rw [e1]; exact hU
  · by_cases e2 : w = .isRef (.static Bundle.tN "SUPPRESSED_SENTINEL" Bundle.listD)
    · rw [e2]; exact hN
    · by_cases e3 : w = .laysStatic Bundle.tN "UNASSIGNED_STACK" Bundle.steD
      · rw [e3]; exact lU
      · by_cases e4 : w = .laysStatic Bundle.tN "SUPPRESSED_SENTINEL" Bundle.listD
        · rw [e4]; exact lN
        · exact h1 w (List.mem_filter.mpr ⟨hw, by unfold vx_no; rw [decide_eq_true e1, decide_eq_true e2, decide_eq_true e3, decide_eq_true e4]; rfl⟩)
/-- where a static field lies, its class's statics cell in H -/
def vx_L (C n d : String) (A : Nat → Prop) (U : State) (H : Heap) : Prop := ∃ (c : ClassId) (k : Class) (i : Nat) (f : Field) (a : Nat) (cell : Cell), U.vm.findClass C = some c ∧ U.fieldFound? C n d = some (c, k, i, f) ∧ f.isStatic = true ∧ k.statics = some a ∧ H[a]? = some cell ∧ cell.vm.isStatics = true ∧ cell.cls = c ∧ f.slot < cell.slots.size ∧ k.staticTypes[f.slot]? = some f.type ∧ ¬ A a
theorem vx_L.moved {C n d : String} {A : Nat → Prop} {u U : State} {H : Heap} (hvm : u.vm.Alike U.vm) (h : vx_L C n d A u H) : vx_L C n d A U H := by
  obtain ⟨c, k, i, f, a, cell, h1, h2, h3, h4, h5, h6, h7, h8, h9, h10⟩ := h
  obtain ⟨k', hi', he⟩ := State.fieldFound?_setVm hvm h2
  exact ⟨c, k', i, f, a, cell, by rw [hvm.findClass]; exact h1, hi', h3, by rw [he]; exact h4, h5, h6, h7, h8, by rw [he]; exact h9, h10⟩
theorem vx_L.kept {C n d : String} {A : Nat → Prop} {U : State} {H H1 : Heap} (h : vx_L C n d A U H) (hq : ∀ a : Nat, a < H.size → ¬ A a → H1[a]? = H[a]?) : vx_L C n d A U H1 := by
  obtain ⟨c, k, i, f, a, cell, h1, h2, h3, h4, h5, h6, h7, h8, h9, h10⟩ := h
  exact ⟨c, k, i, f, a, cell, h1, h2, h3, h4, by rw [hq a (Array.getElem?_eq_some_iff.mp h5).1 h10]; exact h5, h6, h7, h8, h9, h10⟩
theorem vx_L.narrow {C n d : String} {A B : Nat → Prop} {U : State} {H : Heap} (h : vx_L C n d A U H) (hAB : ∀ q, B q → A q) : vx_L C n d B U H := by
  obtain ⟨c, k, i, f, a, cell, h1, h2, h3, h4, h5, h6, h7, h8, h9, h10⟩ := h
  exact ⟨c, k, i, f, a, cell, h1, h2, h3, h4, h5, h6, h7, h8, h9, fun z => h10 (hAB _ z)⟩
theorem vx_L.word {C n d : String} {A : Nat → Prop} {s : State} {args : Array Value} (h : vx_L C n d A s s.heap) : (Cond.laysStatic C n d).before args s = true := by
  obtain ⟨c, k, i, f, a, cell, h1, h2, h3, h4, h5, h6, h7, h8, h9, -⟩ := h
  show (Cond.laysStatic C n d).holds args s none s [] = true
  exact Cond.laysStatic_of h1 h2 h3 h4 h5 h6 h7 h8 h9
/-- .. and what it holds: null or some reference -/
def vx_Zq (C n d : String) (A : Nat → Prop) (U : State) (H : Heap) : Prop := va_Zq C n d A U H ∧ vx_L C n d A U H
theorem vx_Zq.moved {C n d : String} {A : Nat → Prop} {u U : State} {H : Heap} (hvm : u.vm.Alike U.vm) (h : vx_Zq C n d A u H) : vx_Zq C n d A U H := ⟨va_Zq.moved hvm h.1, vx_L.moved hvm h.2⟩
theorem vx_Zq.kept {C n d : String} {A : Nat → Prop} {U : State} {H H1 : Heap} (h : vx_Zq C n d A U H) (hq : ∀ a : Nat, a < H.size → ¬ A a → H1[a]? = H[a]?) : vx_Zq C n d A U H1 := ⟨va_Zq.kept h.1 hq, vx_L.kept h.2 hq⟩
theorem vx_Zq.narrow {C n d : String} {A B : Nat → Prop} {U : State} {H : Heap} (h : vx_Zq C n d A U H) (hAB : ∀ q, B q → A q) : vx_Zq C n d B U H := ⟨va_Zq.narrow h.1 hAB, vx_L.narrow h.2 hAB⟩
theorem vx_Zqof {args : Array Value} {s : State} {C n d : String} {A : Nat → Prop} (hl : (Cond.laysStatic C n d).before args s = true) (hini : (Cond.initialized C).before args s = true) (h : (Cond.isRef (.static C n d)).before args s = true) (hA : ∀ a : Nat, a < s.heap.size → ¬ A a) : vx_Zq C n d A s s.heap := by
  refine ⟨va_Zqof hl hini h hA, ?_⟩
  obtain ⟨c, k, i, f, a, cell, h1, h2, h3, h4, h5, h6, h7, h8, h9⟩ := Cond.laysStatic_spec hl
  exact ⟨c, k, i, f, a, cell, h1, h2, h3, h4, h5, h6, h7, h8, h9, hA a (Array.getElem?_eq_some_iff.mp h5).1⟩
theorem vx_isRef {C n d : String} {v : Value} {A : Nat → Prop} {s : State} {args : Array Value} (h : va_Z C n d v A s s.heap) (hv : v.isRef = true) : (Cond.isRef (.static C n d)).before args s = true := by
  obtain ⟨cf, kf, fi, f, a, cell, h1, h2, h3, h4, h5, h6, h7, -⟩ := h
  have he : (Term.static C n d).eval args s none [] s = some v := by
    simp [Term.eval, State.fieldNamed?, h1, h2, h4, h5, h6, h7]
  simp only [Cond.before, Cond.holds, Cond.value, he]
  cases v <;> simp_all [Value.isRef]
theorem vx_isRefq {C n d : String} {A : Nat → Prop} {s : State} {args : Array Value} (h : va_Zq C n d A s s.heap) : (Cond.isRef (.static C n d)).before args s = true := by
  rcases h with h | ⟨t, h⟩
  · exact vx_isRef h rfl
  · exact vx_isRef h rfl
/-- the same frame, seen from here: as if the method were called anew in this heap -/
theorem vx_rebase {T : State} (X : Stand p l e R s m args below meth c T locs cells slots) {R' : Room} (hf : R'.frames ≤ R.frames) (hl : R'.locals ≤ R.locals) (hc : cells + R'.cells ≤ R.cells) (hs : slots + R'.slots ≤ R.slots) :
    Stand p l e R' ((T.setVm s.vm).setFrames (.invoking m args :: below)) m args below meth c T [] 0 0 := by
  have htop : (T.setVm s.vm).topJava?.isSome := X.here.top
  have hF : ((T.setVm s.vm).setFrames (.invoking m args :: below)).frames = .invoking m args :: below := State.frames_setFrames _ (State.cur_lt_of_top htop)
  obtain ⟨g₀, hg0⟩ := Option.isSome_iff_exists.mp htop
  obtain ⟨r, hr⟩ := State.topJava?_eq_some.mp hg0
  have hl9 : e.platform.stackLimits (T.setVm s.vm).me = e.platform.stackLimits s.me := X.limits
  have hb9 : (T.setVm s.vm).me.stackBytes = s.me.stackBytes := X.bytes
  refine ⟨X.admits, X.cas, X.clock, hF, ?_, X.hears, X.method, X.code, X.here, X.tail, X.warmed, ?_, ?_, ?_⟩
  · have h := X.room
    have hU : ((T.setVm s.vm).setFrames (.invoking m args :: below)).localsInUse = s.localsInUse := by
      rw [State.localsInUse_invoking hF (meth := meth) (c := c) X.method X.code, State.localsInUse_invoking X.frames X.method X.code]
    simp only [State.hasRoom, Bool.and_eq_true, decide_eq_true_eq] at h ⊢
    obtain ⟨⟨⟨⟨h1, h2, h3, h4, h5, h6⟩, h7⟩, h8⟩, h9⟩ := h
    rw [X.frames, List.length_cons] at h2 h3
    have q1 := X.heapSize
    have q2 := X.used
    simp only [hF, hU, List.length_cons, State.stackLimits_setFrames, State.stackBytes_setFrames, hl9, hb9]
    refine ⟨⟨⟨⟨by omega, by omega, by omega, by omega, by omega, h6⟩, ?_⟩, ?_⟩, X.book⟩
    · show T.heap.size + R'.cells ≤ e.platform.maxCells
      omega
    · show T.slotsUsed + R'.slots ≤ e.platform.maxSlots
      omega
  · rw [State.stackLimits_setFrames]; rfl
  · rw [State.stackBytes_setFrames]; rfl
  · refine ⟨?_, Nat.le_refl _, Nat.le_refl _, ?_, ?_, fun a c9 h9 => ⟨c9, h9, rfl, rfl, fun _ _ => rfl⟩⟩
    · obtain ⟨t, ht, -⟩ := State.frames_cons hr
      show T.setVm s.vm = { ((T.setVm s.vm).setFrames (.invoking m args :: below)).setFrames (T.setVm s.vm).frames with heap := T.heap, slotsUsed := T.slotsUsed }
      rw [State.setFrames_setFrames, State.setFrames_self ht]
      rfl
    · show T.slotsUsed = T.slotsUsed + ((T.heap.toList.drop T.heap.size).map (·.slots.size)).sum
      rw [List.drop_eq_nil_of_le (Nat.le_of_eq Array.length_toList)]
      rfl
    · show ((T.heap.toList.drop T.heap.size).map (·.slots.size)).sum ≤ 0
      rw [List.drop_eq_nil_of_le (Nat.le_of_eq Array.length_toList)]
      exact Nat.le_refl _
/-- 'throw new E()': new; dup; invokespecial; athrow -/
theorem vx_throw0 {cc : ByteArray} {pc : Nat} (hexec : p.tables.exec = Jvm.exec) (hb : c.code = cc) (hl : l.stackTraces = false) {own cls : String} {names : List String} {ik ic mc ms : Nat} {A : Nat → Prop}
    (hown : s.vm.findClass own = some m.cls) (hcls : Bundle.fit cls = true) (hnames : ∀ n ∈ names, Bundle.fit n = true)
    (hk : (Cond.classLink own ik cls).before args s = true) (hini : (Cond.initialized cls).before args s = true) (hat : ∀ w ∈ vx_at0 own ic cls names, w.before args s = true)
    (hgood : ∀ w ∈ Cond.classLink own ik cls :: Cond.initialized cls :: vx_at0 own ic cls names, vx_ot w = true)
    (hU : vx_Zq Bundle.tN "UNASSIGNED_STACK" Bundle.steD A s s.heap) (hN : vx_Zq Bundle.tN "SUPPRESSED_SENTINEL" Bundle.listD A s s.heap) (hS : va_S A s.heap H locs) (hsize : ls.size = c.maxLocals)
    (d0 : decode cc pc = .ok (.new ik, 3)) (d3 : decode cc (pc + 3) = .ok (.dup, 1)) (d4 : decode cc (pc + 4) = .ok (.invokespecial ic, 3)) (d7 : decode cc (pc + 7) = .ok (.athrow, 1))
    (hout : ∀ x ∈ c.exceptionTable.toList, covers x (pc + 7) = false)
    (hRframes : names.length + 3 < R.frames) (hRlocals : (rest.map fun v => v.category).sum + (13 * (names.length + 1) + 42) ≤ R.locals) (hRcells : cells + 1 ≤ R.cells) (hRslots : slots + 6 ≤ R.slots) (hlocks : meth.locks = false)
    (hx : ∀ t : State, s.vm.Alike t.vm → H.size ≤ t.heap.size → (∀ q : Nat, q < H.size → t.heap[q]? = H[q]?) → XC cls s t)
    (hf : ∀ z ∈ locs, free z.base) (hc : cells + 1 ≤ mc) (hs : slots + 6 ≤ ms) :
    W p l e R s m args below meth c H locs cells slots (vx_MQ below Qc XC args s mc ms free) (F0 m pc ls rest) := by
  intro T hT X
  have htr : e.platform.stackTraces = false := (show e.platform.stackTraces = l.stackTraces by rw [X.admits.platform]).trans hl
  have Y := vx_rebase X (R' := { frames := R.frames, locals := R.locals, cells := 1, slots := 6 }) (Nat.le_refl _) (Nat.le_refl _) hRcells hRslots
  obtain ⟨s', hA⟩ : ∃ z, z = (T.setVm s.vm).setFrames (.invoking m args :: below) := ⟨_, rfl⟩
  rw [← hA] at Y
  have hvm : s'.vm = s.vm := by rw [hA]; rfl
  have hhp : s'.heap = H := by rw [hA]; exact hT
  have hW0 : s.WarmedH s'.vm := by rw [hvm]; exact State.WarmedH.refl s
  have hat' : ∀ w ∈ vx_at0 own ic cls names, w.before args s' = true := fun w hw => vx_ot_at hW0 hvm.symm (hgood w (List.mem_cons_of_mem _ (List.mem_cons_of_mem _ hw))) (hat w hw)
  have hk' : (Cond.classLink own ik cls).before args s' = true := vx_ot_at hW0 hvm.symm (hgood _ List.mem_cons_self) hk
  have hini' : (Cond.initialized cls).before args s' = true := vx_ot_at hW0 hvm.symm (hgood _ (List.mem_cons_of_mem _ List.mem_cons_self)) hini
  have hU' : vx_Zq Bundle.tN "UNASSIGNED_STACK" Bundle.steD A s' s'.heap := by rw [hhp]; exact vx_Zq.moved hW0.alike (hU.kept hS.2.1)
  have hN' : vx_Zq Bundle.tN "SUPPRESSED_SENTINEL" Bundle.listD A s' s'.heap := by rw [hhp]; exact vx_Zq.moved hW0.alike (hN.kept hS.2.1)
  have h : ∀ w ∈ Bundle.ownAtoms0 own ic cls names, w.before args s' = true := vx_own hat' (vx_isRefq hU'.1) (vx_isRefq hN'.1) hU'.2.word hN'.2.word
  have hown' : s'.vm.findClass own = some m.cls := by rw [hvm]; exact hown
  have hins : (Cond.instantiable cls 6).before args s' = true := h _ (by simp [Bundle.ownAtoms0])
  obtain ⟨vm₁, cX, kX, hfX, hkX, -, -, X₁, st1⟩ := Y.newCold hexec (own := own) (C := cls) (index := ik) (n := 6) hown' hk' hins hini'
    (g := F0 m pc ls rest) rfl (by rw [hb]; exact d0) (Nat.le_refl _) (Nat.le_refl _)
  generalize hT1 : (T.setVm vm₁).pushCell { cls := cX, slots := kX.instanceTypes.map defaultValue, vm := .none } = T1 at X₁ st1
  have hcat : (Value.ref T.heap.size).category = 1 := rfl
  have hcellA : T1.heap[T.heap.size]? = some (freshCell cX kX) := by rw [← hT1]; exact State.heap_pushCell_size _ _
  have d3' : decode c.code (pc + 3) = .ok (.dup, 1) := by rw [hb]; exact d3
  obtain ⟨U, hsteps, hrun, hend, hW, hsame, ce, hce, hO⟩ := X₁.ctorThrow0 hexec htr (own := own) (cls := cls) (names := names) (ic := ic) hown' hcls hnames h (fun x hx => nomatch hx) hfX hkX hcellA (by rw [hhp, hT]; exact Nat.le_refl _)
    (g := { method := m, pc := pc + 4, locals := ls, stack := .ref T.heap.size :: .ref T.heap.size :: rest, locked := none }) rfl hsize rfl rfl (rest := rest) rfl
    (by rw [hb]; exact d4) (by rw [hb]; exact d7) hout hRframes (by simp only [List.map_cons, List.sum_cons, hcat]; omega) hlocks
  obtain ⟨f1, f2⟩ := vx_frame hsame
  rw [hhp] at f1 f2
  have hWs : s.WarmedH U.vm := State.WarmedH.trans hW0 hW
  have hcl : s.vm.findClass cls = some ce.cls := by
    have h9 := hO.cls
    rw [hvm] at h9
    exact h9
  have hall : s.sameButNew ({ U with vm := s.vm } : State) locs mc ms := by
    subst hA
    obtain ⟨e1, e2⟩ := hsame
    rw [State.setFrames_setFrames] at e1
    have h2 : (T.setVm s.vm).sameButNew ({ U with vm := s.vm } : State) [] (0 + 1) (0 + 6) := ⟨e1, e2⟩
    have h3 := X.same.trans h2
    rw [List.append_nil] at h3
    exact h3.mono hc hs
  refine ⟨U, ?_, .threw T.heap.size, hrun, hend, Or.inr ⟨T.heap.size, rfl, cls, ce, locs, hx U hWs.alike f1 (fun q hq => f2 q hq (fun z hz => nomatch hz)), hce, hO.vm, hcl, hWs, hall, hf⟩⟩
  refine st1 _ ?_
  show Steps p.tables e below (T1.setTop { method := m, pc := pc + 3, locals := ls, stack := .ref T.heap.size :: rest, locked := none }) _
  jvm_step X₁.here [X₁.here.top, hexec, d3', Value.category]
  exact hsteps
/-- 'throw new E("text")': new; dup; ldc; invokespecial; athrow -/
theorem vx_throwS {cc : ByteArray} {pc : Nat} (hexec : p.tables.exec = Jvm.exec) (hb : c.code = cc) (hl : l.stackTraces = false) {own cls text : String} {names : List String} {ik is ic mc ms sa : Nat} {A : Nat → Prop}
    (hown : s.vm.findClass own = some m.cls) (hcls : Bundle.fit cls = true) (hnames : ∀ n ∈ names, Bundle.fit n = true)
    (hk : (Cond.classLink own ik cls).before args s = true) (hini : (Cond.initialized cls).before args s = true) (hstr : vk_R own is text sa s) (hat : ∀ w ∈ vx_atS own ic cls names, w.before args s = true)
    (hgood : ∀ w ∈ Cond.classLink own ik cls :: Cond.initialized cls :: vx_atS own ic cls names, vx_ot w = true)
    (hU : vx_Zq Bundle.tN "UNASSIGNED_STACK" Bundle.steD A s s.heap) (hN : vx_Zq Bundle.tN "SUPPRESSED_SENTINEL" Bundle.listD A s s.heap) (hS : va_S A s.heap H locs) (hsize : ls.size = c.maxLocals)
    (d0 : decode cc pc = .ok (.new ik, 3)) (d3 : decode cc (pc + 3) = .ok (.dup, 1)) (d4 : decode cc (pc + 4) = .ok (.ldc is, 2)) (d6 : decode cc (pc + 6) = .ok (.invokespecial ic, 3)) (d9 : decode cc (pc + 9) = .ok (.athrow, 1))
    (hout : ∀ x ∈ c.exceptionTable.toList, covers x (pc + 9) = false)
    (hRframes : names.length + 3 < R.frames) (hRlocals : (rest.map fun v => v.category).sum + (13 * (names.length + 1) + 43) ≤ R.locals) (hRcells : cells + 1 ≤ R.cells) (hRslots : slots + 6 ≤ R.slots) (hlocks : meth.locks = false)
    (hx : ∀ t : State, s.vm.Alike t.vm → H.size ≤ t.heap.size → (∀ q : Nat, q < H.size → t.heap[q]? = H[q]?) → XC cls s t)
    (hf : ∀ z ∈ locs, free z.base) (hc : cells + 1 ≤ mc) (hs : slots + 6 ≤ ms) :
    W p l e R s m args below meth c H locs cells slots (vx_MQ below Qc XC args s mc ms free) (F0 m pc ls rest) := by
  intro T hT X
  have htr : e.platform.stackTraces = false := (show e.platform.stackTraces = l.stackTraces by rw [X.admits.platform]).trans hl
  have Y := vx_rebase X (R' := { frames := R.frames, locals := R.locals, cells := 1, slots := 6 }) (Nat.le_refl _) (Nat.le_refl _) hRcells hRslots
  obtain ⟨s', hA⟩ : ∃ z, z = (T.setVm s.vm).setFrames (.invoking m args :: below) := ⟨_, rfl⟩
  rw [← hA] at Y
  have hvm : s'.vm = s.vm := by rw [hA]; rfl
  have hhp : s'.heap = H := by rw [hA]; exact hT
  have hW0 : s.WarmedH s'.vm := by rw [hvm]; exact State.WarmedH.refl s
  have hat' : ∀ w ∈ vx_atS own ic cls names, w.before args s' = true := fun w hw => vx_ot_at hW0 hvm.symm (hgood w (List.mem_cons_of_mem _ (List.mem_cons_of_mem _ hw))) (hat w hw)
  have hk' : (Cond.classLink own ik cls).before args s' = true := vx_ot_at hW0 hvm.symm (hgood _ List.mem_cons_self) hk
  have hini' : (Cond.initialized cls).before args s' = true := vx_ot_at hW0 hvm.symm (hgood _ (List.mem_cons_of_mem _ List.mem_cons_self)) hini
  have hU' : vx_Zq Bundle.tN "UNASSIGNED_STACK" Bundle.steD A s' s'.heap := by rw [hhp]; exact vx_Zq.moved hW0.alike (hU.kept hS.2.1)
  have hN' : vx_Zq Bundle.tN "SUPPRESSED_SENTINEL" Bundle.listD A s' s'.heap := by rw [hhp]; exact vx_Zq.moved hW0.alike (hN.kept hS.2.1)
  have h : ∀ w ∈ Bundle.ownAtoms own ic cls names, w.before args s' = true := vx_own hat' (vx_isRefq hU'.1) (vx_isRefq hN'.1) hU'.2.word hN'.2.word
  have hown' : s'.vm.findClass own = some m.cls := by rw [hvm]; exact hown
  have hins : (Cond.instantiable cls 6).before args s' = true := h _ (by simp [Bundle.ownAtoms])
  obtain ⟨vm₁, cX, kX, hfX, hkX, -, -, X₁, st1⟩ := Y.newCold hexec (own := own) (C := cls) (index := ik) (n := 6) hown' hk' hins hini'
    (g := F0 m pc ls rest) rfl (by rw [hb]; exact d0) (Nat.le_refl _) (Nat.le_refl _)
  generalize hT1 : (T.setVm vm₁).pushCell { cls := cX, slots := kX.instanceTypes.map defaultValue, vm := .none } = T1 at X₁ st1
  have hcat : (Value.ref T.heap.size).category = 1 := rfl
  have hcellA : T1.heap[T.heap.size]? = some (freshCell cX kX) := by rw [← hT1]; exact State.heap_pushCell_size _ _
  have d3' : decode c.code (pc + 3) = .ok (.dup, 1) := by rw [hb]; exact d3
  have d4' : decode c.code (pc + 4) = .ok (.ldc is, 2) := by rw [hb]; exact d4
  have hstr' : vk_R own is text sa s' := vk_R.warm hW0 hstr
  obtain ⟨U, hsteps, hrun, hend, hW, hsame, ce, hce, hO⟩ := X₁.ctorThrowS hexec htr (own := own) (cls := cls) (names := names) (ic := ic) hown' hcls hnames h (fun x hx => nomatch hx) hfX hkX hcellA (by rw [hhp, hT]; exact Nat.le_refl _) (msg := .ref sa) rfl
    (g := { method := m, pc := pc + 6, locals := ls, stack := .ref sa :: .ref T.heap.size :: .ref T.heap.size :: rest, locked := none }) rfl hsize rfl rfl (rest := rest) rfl
    (by rw [hb]; exact d6) (by rw [hb]; exact d9) hout hRframes (by simp only [List.map_cons, List.sum_cons, hcat]; omega) hlocks
  obtain ⟨f1, f2⟩ := vx_frame hsame
  rw [hhp] at f1 f2
  have hWs : s.WarmedH U.vm := State.WarmedH.trans hW0 hW
  have hcl : s.vm.findClass cls = some ce.cls := by
    have h9 := hO.cls
    rw [hvm] at h9
    exact h9
  have hall : s.sameButNew ({ U with vm := s.vm } : State) locs mc ms := by
    subst hA
    obtain ⟨e1, e2⟩ := hsame
    rw [State.setFrames_setFrames] at e1
    have h2 : (T.setVm s.vm).sameButNew ({ U with vm := s.vm } : State) [] (0 + 1) (0 + 6) := ⟨e1, e2⟩
    have h3 := X.same.trans h2
    rw [List.append_nil] at h3
    exact h3.mono hc hs
  refine ⟨U, ?_, .threw T.heap.size, hrun, hend, Or.inr ⟨T.heap.size, rfl, cls, ce, locs, hx U hWs.alike f1 (fun q hq => f2 q hq (fun z hz => nomatch hz)), hce, hO.vm, hcl, hWs, hall, hf⟩⟩
  refine st1 _ ?_
  show Steps p.tables e below (T1.setTop { method := m, pc := pc + 3, locals := ls, stack := .ref T.heap.size :: rest, locked := none }) _
  jvm_step X₁.here [X₁.here.top, hexec, d3', Value.category]
  exact X₁.ldcString hexec (own := own) (text := text) (index := is) (a := sa) hown' hstr'.1 hstr'.2
    (g := { method := m, pc := pc + 4, locals := ls, stack := .ref T.heap.size :: .ref T.heap.size :: rest, locked := none }) rfl d4' _ hsteps
/-- 'throw new E("text")', the text by a wide index -/
theorem vx_throwSW {cc : ByteArray} {pc : Nat} (hexec : p.tables.exec = Jvm.exec) (hb : c.code = cc) (hl : l.stackTraces = false) {own cls text : String} {names : List String} {ik is ic mc ms sa : Nat} {A : Nat → Prop}
    (hown : s.vm.findClass own = some m.cls) (hcls : Bundle.fit cls = true) (hnames : ∀ n ∈ names, Bundle.fit n = true)
    (hk : (Cond.classLink own ik cls).before args s = true) (hini : (Cond.initialized cls).before args s = true) (hstr : vk_R own is text sa s) (hat : ∀ w ∈ vx_atS own ic cls names, w.before args s = true)
    (hgood : ∀ w ∈ Cond.classLink own ik cls :: Cond.initialized cls :: vx_atS own ic cls names, vx_ot w = true)
    (hU : vx_Zq Bundle.tN "UNASSIGNED_STACK" Bundle.steD A s s.heap) (hN : vx_Zq Bundle.tN "SUPPRESSED_SENTINEL" Bundle.listD A s s.heap) (hS : va_S A s.heap H locs) (hsize : ls.size = c.maxLocals)
    (d0 : decode cc pc = .ok (.new ik, 3)) (d3 : decode cc (pc + 3) = .ok (.dup, 1)) (d4 : decode cc (pc + 4) = .ok (.ldc_w is, 3)) (d7 : decode cc (pc + 7) = .ok (.invokespecial ic, 3)) (d10 : decode cc (pc + 10) = .ok (.athrow, 1))
    (hout : ∀ x ∈ c.exceptionTable.toList, covers x (pc + 10) = false)
    (hRframes : names.length + 3 < R.frames) (hRlocals : (rest.map fun v => v.category).sum + (13 * (names.length + 1) + 43) ≤ R.locals) (hRcells : cells + 1 ≤ R.cells) (hRslots : slots + 6 ≤ R.slots) (hlocks : meth.locks = false)
    (hx : ∀ t : State, s.vm.Alike t.vm → H.size ≤ t.heap.size → (∀ q : Nat, q < H.size → t.heap[q]? = H[q]?) → XC cls s t)
    (hf : ∀ z ∈ locs, free z.base) (hc : cells + 1 ≤ mc) (hs : slots + 6 ≤ ms) :
    W p l e R s m args below meth c H locs cells slots (vx_MQ below Qc XC args s mc ms free) (F0 m pc ls rest) := by
  intro T hT X
  have htr : e.platform.stackTraces = false := (show e.platform.stackTraces = l.stackTraces by rw [X.admits.platform]).trans hl
  have Y := vx_rebase X (R' := { frames := R.frames, locals := R.locals, cells := 1, slots := 6 }) (Nat.le_refl _) (Nat.le_refl _) hRcells hRslots
  obtain ⟨s', hA⟩ : ∃ z, z = (T.setVm s.vm).setFrames (.invoking m args :: below) := ⟨_, rfl⟩
  rw [← hA] at Y
  have hvm : s'.vm = s.vm := by rw [hA]; rfl
  have hhp : s'.heap = H := by rw [hA]; exact hT
  have hW0 : s.WarmedH s'.vm := by rw [hvm]; exact State.WarmedH.refl s
  have hat' : ∀ w ∈ vx_atS own ic cls names, w.before args s' = true := fun w hw => vx_ot_at hW0 hvm.symm (hgood w (List.mem_cons_of_mem _ (List.mem_cons_of_mem _ hw))) (hat w hw)
  have hk' : (Cond.classLink own ik cls).before args s' = true := vx_ot_at hW0 hvm.symm (hgood _ List.mem_cons_self) hk
  have hini' : (Cond.initialized cls).before args s' = true := vx_ot_at hW0 hvm.symm (hgood _ (List.mem_cons_of_mem _ List.mem_cons_self)) hini
  have hU' : vx_Zq Bundle.tN "UNASSIGNED_STACK" Bundle.steD A s' s'.heap := by rw [hhp]; exact vx_Zq.moved hW0.alike (hU.kept hS.2.1)
  have hN' : vx_Zq Bundle.tN "SUPPRESSED_SENTINEL" Bundle.listD A s' s'.heap := by rw [hhp]; exact vx_Zq.moved hW0.alike (hN.kept hS.2.1)
  have h : ∀ w ∈ Bundle.ownAtoms own ic cls names, w.before args s' = true := vx_own hat' (vx_isRefq hU'.1) (vx_isRefq hN'.1) hU'.2.word hN'.2.word
  have hown' : s'.vm.findClass own = some m.cls := by rw [hvm]; exact hown
  have hins : (Cond.instantiable cls 6).before args s' = true := h _ (by simp [Bundle.ownAtoms])
  obtain ⟨vm₁, cX, kX, hfX, hkX, -, -, X₁, st1⟩ := Y.newCold hexec (own := own) (C := cls) (index := ik) (n := 6) hown' hk' hins hini'
    (g := F0 m pc ls rest) rfl (by rw [hb]; exact d0) (Nat.le_refl _) (Nat.le_refl _)
  generalize hT1 : (T.setVm vm₁).pushCell { cls := cX, slots := kX.instanceTypes.map defaultValue, vm := .none } = T1 at X₁ st1
  have hcat : (Value.ref T.heap.size).category = 1 := rfl
  have hcellA : T1.heap[T.heap.size]? = some (freshCell cX kX) := by rw [← hT1]; exact State.heap_pushCell_size _ _
  have d3' : decode c.code (pc + 3) = .ok (.dup, 1) := by rw [hb]; exact d3
  have d4' : decode c.code (pc + 4) = .ok (.ldc_w is, 3) := by rw [hb]; exact d4
  have hstr' : vk_R own is text sa s' := vk_R.warm hW0 hstr
  obtain ⟨U, hsteps, hrun, hend, hW, hsame, ce, hce, hO⟩ := X₁.ctorThrowS hexec htr (own := own) (cls := cls) (names := names) (ic := ic) hown' hcls hnames h (fun x hx => nomatch hx) hfX hkX hcellA (by rw [hhp, hT]; exact Nat.le_refl _) (msg := .ref sa) rfl
    (g := { method := m, pc := pc + 7, locals := ls, stack := .ref sa :: .ref T.heap.size :: .ref T.heap.size :: rest, locked := none }) rfl hsize rfl rfl (rest := rest) rfl
    (by rw [hb]; exact d7) (by rw [hb]; exact d10) hout hRframes (by simp only [List.map_cons, List.sum_cons, hcat]; omega) hlocks
  obtain ⟨f1, f2⟩ := vx_frame hsame
  rw [hhp] at f1 f2
  have hWs : s.WarmedH U.vm := State.WarmedH.trans hW0 hW
  have hcl : s.vm.findClass cls = some ce.cls := by
    have h9 := hO.cls
    rw [hvm] at h9
    exact h9
  have hall : s.sameButNew ({ U with vm := s.vm } : State) locs mc ms := by
    subst hA
    obtain ⟨e1, e2⟩ := hsame
    rw [State.setFrames_setFrames] at e1
    have h2 : (T.setVm s.vm).sameButNew ({ U with vm := s.vm } : State) [] (0 + 1) (0 + 6) := ⟨e1, e2⟩
    have h3 := X.same.trans h2
    rw [List.append_nil] at h3
    exact h3.mono hc hs
  refine ⟨U, ?_, .threw T.heap.size, hrun, hend, Or.inr ⟨T.heap.size, rfl, cls, ce, locs, hx U hWs.alike f1 (fun q hq => f2 q hq (fun z hz => nomatch hz)), hce, hO.vm, hcl, hWs, hall, hf⟩⟩
  refine st1 _ ?_
  show Steps p.tables e below (T1.setTop { method := m, pc := pc + 3, locals := ls, stack := .ref T.heap.size :: rest, locked := none }) _
  jvm_step X₁.here [X₁.here.top, hexec, d3', Value.category]
  exact X₁.ldcStringW hexec (own := own) (text := text) (index := is) (a := sa) hown' hstr'.1 hstr'.2
    (g := { method := m, pc := pc + 4, locals := ls, stack := .ref T.heap.size :: .ref T.heap.size :: rest, locked := none }) rfl d4' _ hsteps
end Ends
section Bodies
variable {l : Launch}
theorem vx_ofW {y : MethodName} {ws ws' : List Cond} {rm : Room} {Pc : Array Value → State → Prop} {Qc : Array Value → State → Outcome → State → Prop} {XC : String → State → State → Prop} {mc ms : Nat} {free : Addr → Prop} {cc : ByteArray} {maxL : Nat} {ret : Option FieldType}
    (hy : plainName y.cls = true) (hw : ws = Cond.code y cc maxL ret :: ws')
    (body : ∀ p e s m args below meth c s₁, BodyLoose p l y (headSpec ws rm) cc maxL ret e s m args below meth c s₁ → c.maxLocals = maxL → (∀ x ∈ c.exceptionTable.toList, False) → Pc args s →
      W p l e (headSpec ws rm).room s m args below meth c s.heap [] 0 0 (vx_MQ below Qc XC args s mc ms free) (entryFrame m args maxL)) : vx_Met l y ws rm Pc Qc XC mc ms free := by
  refine MetFree.of_bodyS (code := cc) (maxLocals := maxL) (ret := ret) hy ?_ ?_
  · intro args s m h hn
    obtain ⟨meth, c, h1, h2, h3, h4, h5, h6, -, -⟩ := Cond.code_spec hn (atoms_spec (ws := ws) h _ (by rw [hw]; exact List.mem_cons_self))
    exact ⟨meth, c, h1, h2, h3, h4, h5, h6⟩
  · intro p e s m args below meth c s₁ B hml hP _
    have hh0 : s₁.heap = s.heap := by rw [B.state]; rfl
    have ht : ∀ x ∈ c.exceptionTable.toList, False := by
      obtain ⟨meth9, c9, h1, h2, -, -, -, -, h7, -⟩ := Cond.code_spec B.named (atoms_spec (ws := ws) B.pre _ (by rw [hw]; exact List.mem_cons_self))
      cases Option.some.inj (h1.symm.trans B.method)
      cases Option.some.inj (h2.symm.trans (Stand.of_body B).code)
      intro x hx
      rw [Array.isEmpty_iff.mp h7] at hx
      cases hx
    obtain ⟨t, a1, o, b1, b2, b3⟩ := body p e s m args below meth c s₁ B hml ht hP s₁ hh0 (Stand.of_body B)
    exact ⟨t, o, a1, b1, b2, b3⟩
/-- the table of a body with handlers -/
theorem vx_table {p : Program} {x y : MethodName} {S : Spec} {cc bytes : ByteArray} {maxL maxL' : Nat} {ret ret' : Option FieldType} {e : Env} {s s₁ : State} {m : MethodId} {args : Array Value} {below : List Frame} {meth : Method} {c : Code} {hh : List (Nat × Nat × Nat × Nat)}
    (B : BodyLoose p l y S cc maxL ret e s m args below meth c s₁) (h : (Cond.codeWith y bytes maxL' ret' hh).before args s = true) : c.exceptionTable.toList = tableOf hh := by
  obtain ⟨m9, meth9, c9, hn9, h1, h2, -, -, h6, -⟩ := Cond.codeWith_spec h
  cases Option.some.inj (hn9.symm.trans B.named)
  cases Option.some.inj (h1.symm.trans B.method)
  cases Option.some.inj (h2.symm.trans (Stand.of_body B).code)
  rw [← h6, table_eq]
end Bodies
end VXA
/-! ===== END ===== -/
/-! ===== BEGIN a static call of a method with an exception table ===== -/
section VXS
variable {p : Program} {l : Launch} {e : Env} {R : Room} {s : State} {m : MethodId} {args : Array Value} {below : List Frame} {meth : Method} {c : Code} {T : State} {H : Heap} {locs : List Loc} {cells slots : Nat}
abbrev vx_CSW (R : Room) (s : State) (args : Array Value) (own : String) (index : Nat) (y : MethodName) (bytes : ByteArray) (maxL : Nat) (ret : Option FieldType) (hh : List (Nat × Nat × Nat × Nat)) (ws : List Cond) (rm : Room) (mc ms n : Nat) : Prop :=
  (rm.cells = mc ∧ rm.slots = ms ∧ rm.frames + 1 ≤ R.frames ∧ 8 + (maxL + 11) + rm.locals ≤ R.locals ∧ (∀ w ∈ ws, ∀ (a' : Array Value) (U : State), s.WarmedH U.vm → w.before a' U = true) ∧ Cond.codeWith y bytes maxL ret hh ∈ ws) ∧
  (Cond.codeWith y bytes maxL ret hh).before args s = true ∧ (Cond.initialized y.cls).before args s = true ∧ (y.cls ≠ "java/lang/invoke/MethodHandle" ∧ y.cls ≠ "java/lang/invoke/VarHandle") ∧
  (∀ sig, parseMethodDescriptor y.desc = some sig → n = sig.parameters.length) ∧ (Cond.methodLink own index y).before args s = true ∧ (Cond.static y).before args s = true
theorem vx_cwSW {own : String} {index maxL mc ms : Nat} {y : MethodName} {bytes : ByteArray} {ret : Option FieldType} {hh : List (Nat × Nat × Nat × Nat)} {Ts ws ws' : List Cond} {rm : Room} (n : Nat) (ht : ∀ w ∈ Ts, w.before args s = true) (hT : GoodIn Ts (va_wsS own index y ws)) (hw : ws = Cond.codeWith y bytes maxL ret hh :: ws') (hrc : rm.cells = mc) (hrs : rm.slots = ms)
    (hd : y.cls ≠ "java/lang/invoke/MethodHandle" ∧ y.cls ≠ "java/lang/invoke/VarHandle" ∧ (parseMethodDescriptor y.desc).map (fun d => d.parameters.length) = some n) (hR : rm.frames + 1 ≤ R.frames ∧ 8 + (maxL + 11) + rm.locals ≤ R.locals) :
    vx_CSW R s args own index y bytes maxL ret hh ws rm mc ms n := by
  have ok : ∀ w ∈ va_wsS own index y ws, w.before args s = true := fun w h => ht w (hT w h).1
  have hG : GoodIn Ts ws := fun w h => hT w (by unfold va_wsS; exact List.mem_append_right _ h)
  have hc : Cond.codeWith y bytes maxL ret hh ∈ ws := by rw [hw]; exact List.mem_cons_self
  refine ⟨⟨hrc, hrs, hR.1, hR.2, pay_in ht hG, hc⟩, ht _ (hG _ hc).1, ok _ (by simp [va_wsS]), ⟨hd.1, hd.2.1⟩, fun sig h => ?_, ok _ (by simp [va_wsS]), ok _ (by simp [va_wsS])⟩
  have h2 := hd.2.2
  rw [h] at h2
  exact (Option.some.inj h2).symm
theorem vx_callSW (X : Stand p l e R s m args below meth c T locs cells slots) (hexec : p.tables.exec = Jvm.exec) {own : String} {index : Nat} {y : MethodName} {bytes : ByteArray} {maxL : Nat} {ret : Option FieldType} {hh : List (Nat × Nat × Nat × Nat)}
    (hown : s.vm.findClass own = some m.cls) (hlink : (Cond.methodLink own index y).before args s = true) (hstat : (Cond.static y).before args s = true) (hinit : (Cond.initialized y.cls).before args s = true)
    (hcode : (Cond.codeWith y bytes maxL ret hh).before args s = true) (hy : y.cls ≠ "java/lang/invoke/MethodHandle" ∧ y.cls ≠ "java/lang/invoke/VarHandle")
    {W9 : Nat} {Pre : Pt → Array Value → Prop} {Post : Pt → Array Value → Option Value → Pt → Prop} (hK : Back l R p e below s args y 3 W9 Pre Post)
    {g : JFrame} (hg : g.method = m) (hsize : g.locals.size = c.maxLocals) {argsL rest : List Value} (hlen : ∀ sig, parseMethodDescriptor y.desc = some sig → argsL.length = sig.parameters.length)
    (hstack : g.stack = argsL.reverse ++ rest) (hW : 2 * g.monitorRoom + (rest.map fun v => v.category).sum ≤ W9) (hdg : decode c.code g.pc = .ok (.invokestatic index, 3))
    (hpre : ∀ vm₁, s.WarmedH vm₁ → Pre ⟨T.setVm vm₁, locs, cells, slots⟩ argsL.toArray) :
    ∃ (v : Option Value) (vm₁ : Vm) (B : Pt), s.WarmedH vm₁ ∧ Stand p l e R s m args below meth c B.U B.locs B.cells B.slots ∧ Post ⟨T.setVm vm₁, locs, cells, slots⟩ argsL.toArray v B ∧
      ∀ target, Steps p.tables e below (B.U.setTop { g with pc := g.pc + 3, stack := v.toList ++ rest }) target → Steps p.tables e below (T.setTop g) target := by
  obtain ⟨mk, methM, cM, hnamed, hmethM, -, -, -, -, -, -, hsigM⟩ := Cond.codeWith_spec hcode
  have hstatic : methM.isStatic = true := Cond.static_spec hnamed hmethM hstat
  obtain ⟨kP, hkP, -⟩ := className_of_methodNamed hnamed
  have hinitP : kP.init = .initialized := Cond.initialized_spec (findClass_of_methodNamed hnamed) hkP hinit
  obtain ⟨vm₁, X₁, hstep₁⟩ := X.invokestatic hexec hown hlink hnamed hmethM hstatic hkP hinitP hy (g := g) hg (argsL := argsL) (rest := rest) (hlen _ hsigM) hstack hdg
  obtain ⟨v, B, X', hpost, hsteps⟩ := hK m meth c ⟨T.setVm vm₁, locs, cells, slots⟩ { g with stack := rest } (.invokestatic index) mk argsL.toArray X₁ hg hsize hdg hW (X₁.named hnamed) (hpre vm₁ X₁.warmed)
  exact ⟨v, vm₁, B, X₁.warmed, X', hpost, fun target h => hstep₁ _ fun acts => by rw [doInvoke_state]; exact hsteps.trans h⟩
theorem vx_runSW {y : MethodName} {bytes cc : ByteArray} {maxL nL mc ms n index : Nat} {ret : Option FieldType} {hh : List (Nat × Nat × Nat × Nat)} {ws : List Cond} {rm : Room} {Pc : Array Value → State → Prop} {Qc : Array Value → State → Outcome → State → Prop} {free : Addr → Prop} {Ts : List Cond} {own : String} {As rest : List Value} {g : JFrame}
    (S : CallFix p m c cc nL s args Ts own) (hM : Met l y ws rm Pc Qc mc ms free) (cw : vx_CSW R s args own index y bytes maxL ret hh ws rm mc ms n) (hp : PreS s H Pc As)
    (hg : g.method = m) (hn : As.length = n) (hsize : g.locals.size = nL) (hstack : g.stack = As.reverse ++ rest) (hW : 2 * g.monitorRoom + (rest.map fun v => v.category).sum ≤ 8) (hdg : decode cc g.pc = .ok (.invokestatic index, 3)) (hf : cells + mc ≤ R.cells ∧ slots + ms ≤ R.slots) :
    va_Run p l e R s m args below meth c H locs cells slots mc ms g rest (Qc As.toArray) (free) := by
  obtain ⟨⟨hrc, hrs, hfr, hlo, hws, hcw⟩, hcode, hini, hy, hlen, hl, hstt⟩ := cw
  have hK : Back l R p e below s args y 3 8 (PreOf R mc ms Pc) (PostOf Qc mc ms free) := va_backW (hh := hh) (bytes := bytes) (maxL := maxL) (ret := ret) hM hp.1 hrc hrs hfr hlo hws hcw (fun a' U hW => word_at hW (Or.inl (by first | rfl | simp [Cond.onTables, Cond.keeps, Cond.steady])) hini)
  obtain ⟨hx, hb, hml, ho, -⟩ := S
  intro T hT X
  obtain ⟨v, vm₁, ⟨U', l2, c2, s2⟩, hW₁, X', ⟨g', mk, t, L, e1, e2, hq, h1, hL, h2, h3⟩, st⟩ := vx_callSW X hx (hh := hh) (bytes := bytes) (maxL := maxL) (ret := ret) ho hl hstt hini hcode hy hK hg (hsize.trans hml.symm) (argsL := As) (rest := rest) (fun sig h => hn.trans (hlen sig h)) hstack hW (by rw [hb]; exact hdg)
    (fun vm₁ hW₁ => ⟨hf.1, hf.2, hp.2 (T.setVm vm₁) hT hW₁⟩)
  dsimp only [Pt.U, Pt.locs, Pt.cells, Pt.slots] at X' e1 e2 h1 h2 h3 st
  subst h1; subst h2; subst h3
  exact ⟨v, (T.setVm vm₁).calling g' mk As.toArray, t, U', L, hT, X', hL, e1, e2, hq, st⟩
/-- not caught here, past rows that name other classes: it goes on to the caller -/
theorem vx_outP {p : Program} {l : Launch} {e : Env} {R : Room} {s : State} {m : MethodId} {args : Array Value} {below : List Frame} {meth : Method} {c : Code} {H : Heap} {locs : List Loc} {cells slots : Nat} {free : Addr → Prop} {ls : Array Slot} {rest : List Value} {Qc : Array Value → State → Outcome → State → Prop} {XC : String → State → State → Prop}
    {pc : Nat} {own E : String} {ce : Cell} {q : Addr} {mc ms : Nat} (hown : s.vm.findClass own = some m.cls) (hlocks : meth.locks = false)
    (hpass : ∀ z ∈ c.exceptionTable.toList, covers z pc = false ∨ (z.catchType ≠ 0 ∧ ∃ nm : String, (Cond.classLink own z.catchType nm).before args s = true ∧ va_Nc E nm s)) (hcell : H[q]? = some ce) (hv : ce.vm = .none) (hcl : s.vm.findClass E = some ce.cls)
    (hx : ∀ t : State, t.heap = H → s.vm.Alike t.vm → XC E s t) (hf : ∀ z ∈ locs, free z.base) (hc : cells ≤ mc) (hs : slots ≤ ms) :
    vx_W p l e R s m args below meth c H locs cells slots (vx_MQ below Qc XC args s mc ms free) (F0 m pc ls rest) q := by
  intro T hT X
  have hpl : e.platform.magicAccessors = ({} : Platform).magicAccessors := by rw [X.admits.platform]
  obtain ⟨vm', hW', X', st⟩ := X.outThrough hlocks q (g := F0 m pc ls rest) rfl rfl rfl (cell := ce) (by rw [hT]; exact hcell) (by rw [hv]; rfl)
    (by obtain ⟨k9, h9, -⟩ := Vm.findClass_spec hcl; exact ⟨k9, h9⟩) (fun z hz => by
      rcases hpass z hz with h | ⟨hz0, nm, hl1, hn1⟩
      · exact Or.inl h
      · obtain ⟨c6, hc6, hcl6⟩ := Cond.classLink_spec hown hl1 e.platform hpl
        obtain ⟨a8, b8, h1, h2, h3⟩ := hn1
        cases Option.some.inj (h1.symm.trans hcl)
        cases Option.some.inj (h2.symm.trans hc6)
        exact Or.inr ⟨hz0, _, hcl6, h3⟩)
  obtain ⟨g₀, hfr⟩ := X'.frames_eq
  have hcell9 : ((T.setVm vm').setFrames (.throwing q :: below)).heap[q]? = some ce := by
    show T.heap[q]? = some ce
    rw [hT]; exact hcell
  have hend : Ended ((T.setVm vm').setFrames (.throwing q :: below)) below (.threw q) := State.frames_setFrames _ (State.cur_lt_of_frames hfr)
  refine ⟨(T.setVm vm').setFrames (.throwing q :: below), ?_, .threw q, X'.here.running, hend, Or.inr ⟨q, rfl, E, ce, locs, hx _ hT (X'.ends _).1.alike, hcell9, hv, hcl, (X'.ends _).1, (X'.ends _).2.mono hc hs, hf⟩⟩
  rw [X.pushThrowing_eq]
  exact st
/-- a thing of a world lies in the heap -/
theorem vx_lt {D : va_G} {cl : List vw_C} {ws : va_W} {H1 : Heap} (h : va_P D cl ws H1) {k : Nat} {q : Nat × va_E} (hk : ws[k]? = some q) : q.1 < H1.size := (h k q hk).lt
end VXS
/-! ===== END ===== -/
/-! ===== BEGIN methods with a table of their own: called by a name, returning or throwing ===== -/
section VXH
/-! vx_backW, vx_callVX, vx_callSX, vx_callVW, vx_runVW, vx_runVX, vx_runSX, vx_ofWH follow the same proofs as their sisters above (Free/Laws.lean, Shelf42/LK1.lean); vx_outP calls Shelf42/NT130.lean (outThrough). -/
section
variable {l : Launch} {R : Room} {p : Program} {e : Env} {below : List Frame} {s : State} {sargs : Array Value} {y : MethodName} {len W9 : Nat}
theorem vx_backW {ws : List Cond} {rm : Room} {Pc : Array Value → State → Prop} {Qc : Array Value → State → Outcome → State → Prop} {XC : String → State → State → Prop} {mc ms : Nat} {free : Addr → Prop} {bytes : ByteArray} {maxL : Nat} {ret : Option FieldType} {hh : List (Nat × Nat × Nat × Nat)}
    (hM : vx_Met l y ws rm Pc Qc XC mc ms free) (hblind : FrameBlind Pc) (hrc : rm.cells = mc) (hrs : rm.slots = ms)
    (hframes : rm.frames + 1 ≤ R.frames) (hlocals : W9 + (maxL + 11) + rm.locals ≤ R.locals)
    (hws : ∀ w ∈ ws, ∀ a' U, s.WarmedH U.vm → w.before a' U = true) (hcode : Cond.codeWith y bytes maxL ret hh ∈ ws) (hinit : ∀ a' U, s.WarmedH U.vm → (Cond.initialized y.cls).before a' U = true) :
    vx_Back l R p e below s sargs y len W9 (PreOf R mc ms Pc) (PostOf Qc mc ms free) (vx_Post XC mc ms free) := by
  intro m meth c A g ig mk a X hg hsize hdg hW hn hp
  have h1 : (headSpec ws rm).pre.before a A.U = true := atoms_intro fun w hw => hws w hw _ _ X.warmed
  have h2 : (Cond.codeWith y bytes maxL ret hh).before a A.U = true := hws _ hcode _ _ X.warmed
  have h3 : (Cond.initialized y.cls).before a A.U = true := hinit _ _ X.warmed
  have h4 : A.cells + (headSpec ws rm).room.cells ≤ R.cells := by rw [show (headSpec ws rm).room.cells = mc from hrc]; exact hp.1
  have h5 : A.slots + (headSpec ws rm).room.slots ≤ R.slots := by rw [show (headSpec ws rm).room.slots = ms from hrs]; exact hp.2.1
  have hPc : Pc a (A.U.calling g mk a) := hblind _ _ _ _ hp.2.2
  obtain ⟨U, Ls, c0, s0⟩ := A
  dsimp only [Pt.U, Pt.locs, Pt.cells, Pt.slots] at h1 h2 h3 h4 h5 X hn hPc ⊢
  obtain ⟨m9, methY, cY, hn9, hmY, hcY, -, hlY, -⟩ := Cond.codeWith_spec h2
  cases Option.some.inj (hn9.symm.trans hn)
  obtain ⟨kY, hkY, -⟩ := className_of_methodNamed hn
  have hinitY : kY.init = .initialized := Cond.initialized_spec (findClass_of_methodNamed hn) hkY h3
  have h : At U g.method c below := by rw [hg]; exact X.here
  have hlocals9 : W9 + (maxL + 11) + (headSpec ws rm).room.locals ≤ R.locals := hlocals
  have happ : (headSpec ws rm).appliesLoose y e.platform (U.calling g mk a) = true :=
    Spec.appliesLoose_calling (g := g) h hdg hn hkY hinitY
      (X.room_calling (g := g) (R' := (headSpec ws rm).room) hsize hmY hcY hframes (by rw [hlY]; omega) h4 h5) h1
  obtain ⟨mid, hmid⟩ := h.above
  have hfr : (U.setTop g).frames = (.java g :: mid) ++ below := by rw [State.frames_setTop' g h.top, hmid]; rfl
  obtain ⟨o, s₂, hsteps, -, hend, hq⟩ := Steps.callFree hM p X.admits X.cas X.clock (acts := []) hfr happ hPc trivial
  have hq' : vx_Q Qc XC mc ms free a (U.calling g mk a) o s₂ := hq
  rw [State.frames_setTop' g h.top] at hend
  obtain ⟨g₀, hg0⟩ := Option.isSome_iff_exists.mp h.top
  obtain ⟨r, hr⟩ := State.topJava?_eq_some.mp hg0
  have hr' : (({ U with heap := s₂.heap, slotsUsed := s₂.slotsUsed } : State).setVm s₂.vm).frames = .java g₀ :: r := hr
  rcases hq' with ⟨hqc, L, hfe, hL⟩ | ⟨q, rfl, E, ce, L, hx, hce, hcv, hcl, hW₂, hsm, hL⟩
  · obtain ⟨⟨v, rfl⟩, hW₂, e2, q2, q3, q4, q5, q6⟩ := id hfe
    have e3 : s₂ = ({ (U.calling g mk a).setFrames s₂.frames with heap := s₂.heap, slotsUsed := s₂.slotsUsed } : State).setVm s₂.vm := by
      have : s₂ = ({ s₂ with vm := (U.calling g mk a).vm } : State).setVm s₂.vm := rfl
      rw [e2] at this
      exact this
    obtain ⟨c₂, i₂, len₂, hc₂, hd₂, hf₂⟩ := hend
    have hW' : U.WarmedH s₂.vm := hW₂
    have hcc : c₂ = c := by
      have h1 : s₂.code? g.method = U.code? g.method := by
        rw [State.code?_eq, State.code?_eq, hW'.alike.method?]
      exact Option.some.inj (hc₂.symm.trans (h1.trans h.code))
    subst hcc
    have hlen : len₂ = len := by rw [hdg] at hd₂; cases hd₂; rfl
    subst hlen
    have hs₂ : s₂ = (({ U with heap := s₂.heap, slotsUsed := s₂.slotsUsed } : State).setVm s₂.vm).setTop { g with pc := g.pc + len₂, stack := v.toList ++ g.stack } := by
      refine e3.trans ?_
      rw [hf₂, State.calling_eq h.top, State.setFrames_setFrames, State.setTop_of_frames _ hr', hr]
      rfl
    have hsame : U.sameButNew ({ U with heap := s₂.heap, slotsUsed := s₂.slotsUsed } : State) L mc ms := by
      refine ⟨?_, q2, q3, q4, q5, q6⟩
      obtain ⟨t, ht, -⟩ := State.frames_cons hr
      show ({ U with heap := s₂.heap, slotsUsed := s₂.slotsUsed } : State) = { U.setFrames U.frames with heap := s₂.heap, slotsUsed := s₂.slotsUsed }
      rw [State.setFrames_self ht]
    subst hg
    refine Or.inl ⟨v, ⟨(({ U with heap := s₂.heap, slotsUsed := s₂.slotsUsed } : State).setVm s₂.vm), Ls ++ L, c0 + mc, s0 + ms⟩,
      ⟨X.admits, X.cas, X.clock, X.frames, X.room, X.hears, X.method, X.code, (X.here.setHeapUsed s₂.heap s₂.slotsUsed).setVm hW'.alike, X.tail, State.WarmedH.trans X.warmed hW', X.limits, X.bytes, X.same.trans (hsame.setVm s.vm)⟩,
      ⟨g, mk, s₂, L, rfl, rfl, hqc, rfl, hL, rfl, rfl⟩, ?_⟩
    show Steps p.tables e below _ ((({ U with heap := s₂.heap, slotsUsed := s₂.slotsUsed } : State).setVm s₂.vm).setTop { g with pc := g.pc + len₂, stack := v.toList ++ g.stack })
    rw [← hs₂]
    exact hsteps
  · obtain ⟨e2, q2, q3, q4, q5, q6⟩ := id hsm
    have e3 : s₂ = ({ (U.calling g mk a).setFrames s₂.frames with heap := s₂.heap, slotsUsed := s₂.slotsUsed } : State).setVm s₂.vm := by
      have : s₂ = ({ s₂ with vm := (U.calling g mk a).vm } : State).setVm s₂.vm := rfl
      rw [e2] at this
      exact this
    have hf₂ : s₂.frames = .throwing q :: .java g :: U.frames.tail := hend
    have hW' : U.WarmedH s₂.vm := hW₂
    have hs₂ : s₂ = ((({ U with heap := s₂.heap, slotsUsed := s₂.slotsUsed } : State).setVm s₂.vm).setTop g).pushFrame (.throwing q) := by
      refine e3.trans ?_
      rw [hf₂, State.calling_eq h.top, State.setFrames_setFrames, State.pushFrame, State.frames_setTop _ hr', State.setTop_of_frames _ hr', State.setFrames_setFrames, hr]
      rfl
    have hsame : U.sameButNew ({ U with heap := s₂.heap, slotsUsed := s₂.slotsUsed } : State) L mc ms := by
      refine ⟨?_, q2, q3, q4, q5, q6⟩
      obtain ⟨t, ht, -⟩ := State.frames_cons hr
      show ({ U with heap := s₂.heap, slotsUsed := s₂.slotsUsed } : State) = { U.setFrames U.frames with heap := s₂.heap, slotsUsed := s₂.slotsUsed }
      rw [State.setFrames_self ht]
    subst hg
    refine Or.inr ⟨q, ⟨(({ U with heap := s₂.heap, slotsUsed := s₂.slotsUsed } : State).setVm s₂.vm), Ls ++ L, c0 + mc, s0 + ms⟩,
      ⟨X.admits, X.cas, X.clock, X.frames, X.room, X.hears, X.method, X.code, (X.here.setHeapUsed s₂.heap s₂.slotsUsed).setVm hW'.alike, X.tail, State.WarmedH.trans X.warmed hW', X.limits, X.bytes, X.same.trans (hsame.setVm s.vm)⟩,
      ⟨g, mk, s₂, L, E, ce, rfl, rfl, hx, hce, hcv, hcl, rfl, hL, rfl, rfl⟩, ?_⟩
    show Steps p.tables e below _ (((({ U with heap := s₂.heap, slotsUsed := s₂.slotsUsed } : State).setVm s₂.vm).setTop g).pushFrame (.throwing q))
    rw [← hs₂]
    exact hsteps
end
variable {p : Program} {l : Launch} {e : Env} {R : Room} {s : State} {m : MethodId} {args : Array Value} {below : List Frame} {meth : Method} {c : Code} {T : State} {H : Heap} {locs : List Loc} {cells slots : Nat}
theorem vx_callVX (X : Stand p l e R s m args below meth c T locs cells slots) (hexec : p.tables.exec = Jvm.exec) {own C : String} {index : Nat} {y : MethodName} {bytes : ByteArray} {maxL : Nat} {ret : Option FieldType} {hh : List (Nat × Nat × Nat × Nat)}
    (hown : s.vm.findClass own = some m.cls) (hlink : (Cond.methodLink own index y).before args s = true) (hinst : (Cond.instanceMethod y).before args s = true) (hsel : (Cond.selects C y y).before args s = true)
    (hcode : (Cond.codeWith y bytes maxL ret hh).before args s = true) (hy : y.cls ≠ "java/lang/invoke/MethodHandle" ∧ y.cls ≠ "java/lang/invoke/VarHandle")
    {W9 : Nat} {Pre : Pt → Array Value → Prop} {Post : Pt → Array Value → Option Value → Pt → Prop} {PostX : Pt → Array Value → Addr → Pt → Prop} (hK : vx_Back l R p e below s args y 3 W9 Pre Post PostX)
    {b : Addr} {cellB : Cell} (hcell : T.heap[b]? = some cellB) (hobj : cellB.vm.isStatics = false) (hcls : s.vm.findClass C = some cellB.cls)
    {g : JFrame} (hg : g.method = m) (hsize : g.locals.size = c.maxLocals) {argsL rest : List Value} (hlen : ∀ sig, parseMethodDescriptor y.desc = some sig → argsL.length = sig.parameters.length)
    (hstack : g.stack = argsL.reverse ++ .ref b :: rest) (hW : 2 * g.monitorRoom + (rest.map fun v => v.category).sum ≤ W9) (hdg : decode c.code g.pc = .ok (.invokevirtual index, 3))
    (hpre : ∀ vm₁, s.WarmedH vm₁ → Pre ⟨T.setVm vm₁, locs, cells, slots⟩ (Value.ref b :: argsL).toArray) :
    (∃ (v : Option Value) (vm₁ : Vm) (B : Pt), s.WarmedH vm₁ ∧ Stand p l e R s m args below meth c B.U B.locs B.cells B.slots ∧ Post ⟨T.setVm vm₁, locs, cells, slots⟩ (Value.ref b :: argsL).toArray v B ∧
      ∀ target, Steps p.tables e below (B.U.setTop { g with pc := g.pc + 3, stack := v.toList ++ rest }) target → Steps p.tables e below (T.setTop g) target) ∨
    (∃ (q : Addr) (vm₁ : Vm) (B : Pt), s.WarmedH vm₁ ∧ Stand p l e R s m args below meth c B.U B.locs B.cells B.slots ∧ PostX ⟨T.setVm vm₁, locs, cells, slots⟩ (Value.ref b :: argsL).toArray q B ∧
      Steps p.tables e below (T.setTop g) ((B.U.setTop { g with stack := rest }).pushFrame (.throwing q))) := by
  obtain ⟨mk, methM, hnamed, hmethM, hstM, habM⟩ := Cond.instanceMethod_spec hinst
  obtain ⟨m8, methM', cM, hn8, hmethM', -, -, -, -, -, -, hsigM⟩ := Cond.codeWith_spec hcode
  cases Option.some.inj (hn8.symm.trans hnamed)
  cases hmethM.symm.trans hmethM'
  obtain ⟨c2, r2, m2, q1, q2, q3, q4, kP, hkP, hkPi⟩ := Cond.selects_spec hsel
  cases hcls.symm.trans q1
  cases (State.methodFound?_of_named hnamed hy).symm.trans q2
  cases hnamed.symm.trans q3
  have hselP : selectMethod e.platform s.vm cellB.cls mk = .method mk := by rw [Launch.admits_selectMethod X.admits]; exact q4
  obtain ⟨vm₁, X₁, hstep₁⟩ := X.invokevirtual hexec hown hlink hnamed hmethM hstM hkP hkPi hy (a := b) (cell := cellB) hcell
    (fun z h => by rw [h] at hobj; cases hobj) hselP hmethM habM hkP hkPi (g := g) hg (argsL := argsL) (rest := rest) (hlen _ hsigM) hstack hdg
  rcases hK m meth c ⟨T.setVm vm₁, locs, cells, slots⟩ { g with stack := rest } (.invokevirtual index) mk (Value.ref b :: argsL).toArray X₁ hg hsize hdg hW (X₁.named hnamed) (hpre vm₁ X₁.warmed) with ⟨v, B, X', hpost, hsteps⟩ | ⟨q, B, X', hpost, hsteps⟩
  · exact Or.inl ⟨v, vm₁, B, X₁.warmed, X', hpost, fun target h => hstep₁ _ fun acts => by rw [doInvoke_state]; exact hsteps.trans h⟩
  · exact Or.inr ⟨q, vm₁, B, X₁.warmed, X', hpost, hstep₁ _ fun acts => by rw [doInvoke_state]; exact hsteps⟩
theorem vx_callSX (X : Stand p l e R s m args below meth c T locs cells slots) (hexec : p.tables.exec = Jvm.exec) {own : String} {index : Nat} {y : MethodName} {bytes : ByteArray} {maxL : Nat} {ret : Option FieldType} {hh : List (Nat × Nat × Nat × Nat)}
    (hown : s.vm.findClass own = some m.cls) (hlink : (Cond.methodLink own index y).before args s = true) (hstat : (Cond.static y).before args s = true) (hinit : (Cond.initialized y.cls).before args s = true)
    (hcode : (Cond.codeWith y bytes maxL ret hh).before args s = true) (hy : y.cls ≠ "java/lang/invoke/MethodHandle" ∧ y.cls ≠ "java/lang/invoke/VarHandle")
    {W9 : Nat} {Pre : Pt → Array Value → Prop} {Post : Pt → Array Value → Option Value → Pt → Prop} {PostX : Pt → Array Value → Addr → Pt → Prop} (hK : vx_Back l R p e below s args y 3 W9 Pre Post PostX)
    {g : JFrame} (hg : g.method = m) (hsize : g.locals.size = c.maxLocals) {argsL rest : List Value} (hlen : ∀ sig, parseMethodDescriptor y.desc = some sig → argsL.length = sig.parameters.length)
    (hstack : g.stack = argsL.reverse ++ rest) (hW : 2 * g.monitorRoom + (rest.map fun v => v.category).sum ≤ W9) (hdg : decode c.code g.pc = .ok (.invokestatic index, 3))
    (hpre : ∀ vm₁, s.WarmedH vm₁ → Pre ⟨T.setVm vm₁, locs, cells, slots⟩ argsL.toArray) :
    (∃ (v : Option Value) (vm₁ : Vm) (B : Pt), s.WarmedH vm₁ ∧ Stand p l e R s m args below meth c B.U B.locs B.cells B.slots ∧ Post ⟨T.setVm vm₁, locs, cells, slots⟩ argsL.toArray v B ∧
      ∀ target, Steps p.tables e below (B.U.setTop { g with pc := g.pc + 3, stack := v.toList ++ rest }) target → Steps p.tables e below (T.setTop g) target) ∨
    (∃ (q : Addr) (vm₁ : Vm) (B : Pt), s.WarmedH vm₁ ∧ Stand p l e R s m args below meth c B.U B.locs B.cells B.slots ∧ PostX ⟨T.setVm vm₁, locs, cells, slots⟩ argsL.toArray q B ∧
      Steps p.tables e below (T.setTop g) ((B.U.setTop { g with stack := rest }).pushFrame (.throwing q))) := by
  obtain ⟨mk, methM, cM, hnamed, hmethM, -, -, -, -, -, -, hsigM⟩ := Cond.codeWith_spec hcode
  have hstatic : methM.isStatic = true := Cond.static_spec hnamed hmethM hstat
  obtain ⟨kP, hkP, -⟩ := className_of_methodNamed hnamed
  have hinitP : kP.init = .initialized := Cond.initialized_spec (findClass_of_methodNamed hnamed) hkP hinit
  obtain ⟨vm₁, X₁, hstep₁⟩ := X.invokestatic hexec hown hlink hnamed hmethM hstatic hkP hinitP hy (g := g) hg (argsL := argsL) (rest := rest) (hlen _ hsigM) hstack hdg
  rcases hK m meth c ⟨T.setVm vm₁, locs, cells, slots⟩ { g with stack := rest } (.invokestatic index) mk argsL.toArray X₁ hg hsize hdg hW (X₁.named hnamed) (hpre vm₁ X₁.warmed) with ⟨v, B, X', hpost, hsteps⟩ | ⟨q, B, X', hpost, hsteps⟩
  · exact Or.inl ⟨v, vm₁, B, X₁.warmed, X', hpost, fun target h => hstep₁ _ fun acts => by rw [doInvoke_state]; exact hsteps.trans h⟩
  · exact Or.inr ⟨q, vm₁, B, X₁.warmed, X', hpost, hstep₁ _ fun acts => by rw [doInvoke_state]; exact hsteps⟩
theorem vx_callVW (X : Stand p l e R s m args below meth c T locs cells slots) (hexec : p.tables.exec = Jvm.exec) {own C : String} {index : Nat} {y : MethodName} {bytes : ByteArray} {maxL : Nat} {ret : Option FieldType} {hh : List (Nat × Nat × Nat × Nat)}
    (hown : s.vm.findClass own = some m.cls) (hlink : (Cond.methodLink own index y).before args s = true) (hinst : (Cond.instanceMethod y).before args s = true) (hsel : (Cond.selects C y y).before args s = true)
    (hcode : (Cond.codeWith y bytes maxL ret hh).before args s = true) (hy : y.cls ≠ "java/lang/invoke/MethodHandle" ∧ y.cls ≠ "java/lang/invoke/VarHandle")
    {W9 : Nat} {Pre : Pt → Array Value → Prop} {Post : Pt → Array Value → Option Value → Pt → Prop} (hK : Back l R p e below s args y 3 W9 Pre Post)
    {b : Addr} {cellB : Cell} (hcell : T.heap[b]? = some cellB) (hobj : cellB.vm.isStatics = false) (hcls : s.vm.findClass C = some cellB.cls)
    {g : JFrame} (hg : g.method = m) (hsize : g.locals.size = c.maxLocals) {argsL rest : List Value} (hlen : ∀ sig, parseMethodDescriptor y.desc = some sig → argsL.length = sig.parameters.length)
    (hstack : g.stack = argsL.reverse ++ .ref b :: rest) (hW : 2 * g.monitorRoom + (rest.map fun v => v.category).sum ≤ W9) (hdg : decode c.code g.pc = .ok (.invokevirtual index, 3))
    (hpre : ∀ vm₁, s.WarmedH vm₁ → Pre ⟨T.setVm vm₁, locs, cells, slots⟩ (Value.ref b :: argsL).toArray) :
    ∃ (v : Option Value) (vm₁ : Vm) (B : Pt), s.WarmedH vm₁ ∧ Stand p l e R s m args below meth c B.U B.locs B.cells B.slots ∧ Post ⟨T.setVm vm₁, locs, cells, slots⟩ (Value.ref b :: argsL).toArray v B ∧
      ∀ target, Steps p.tables e below (B.U.setTop { g with pc := g.pc + 3, stack := v.toList ++ rest }) target → Steps p.tables e below (T.setTop g) target := by
  obtain ⟨mk, methM, hnamed, hmethM, hstM, habM⟩ := Cond.instanceMethod_spec hinst
  obtain ⟨m8, methM', cM, hn8, hmethM', -, -, -, -, -, -, hsigM⟩ := Cond.codeWith_spec hcode
  cases Option.some.inj (hn8.symm.trans hnamed)
  cases hmethM.symm.trans hmethM'
  obtain ⟨c2, r2, m2, q1, q2, q3, q4, kP, hkP, hkPi⟩ := Cond.selects_spec hsel
  cases hcls.symm.trans q1
  cases (State.methodFound?_of_named hnamed hy).symm.trans q2
  cases hnamed.symm.trans q3
  have hselP : selectMethod e.platform s.vm cellB.cls mk = .method mk := by rw [Launch.admits_selectMethod X.admits]; exact q4
  obtain ⟨vm₁, X₁, hstep₁⟩ := X.invokevirtual hexec hown hlink hnamed hmethM hstM hkP hkPi hy (a := b) (cell := cellB) hcell
    (fun z h => by rw [h] at hobj; cases hobj) hselP hmethM habM hkP hkPi (g := g) hg (argsL := argsL) (rest := rest) (hlen _ hsigM) hstack hdg
  obtain ⟨v, B, X', hpost, hsteps⟩ := hK m meth c ⟨T.setVm vm₁, locs, cells, slots⟩ { g with stack := rest } (.invokevirtual index) mk (Value.ref b :: argsL).toArray X₁ hg hsize hdg hW (X₁.named hnamed) (hpre vm₁ X₁.warmed)
  exact ⟨v, vm₁, B, X₁.warmed, X', hpost, fun target h => hstep₁ _ fun acts => by rw [doInvoke_state]; exact hsteps.trans h⟩
abbrev vx_CVW (R : Room) (s : State) (args : Array Value) (own C : String) (index : Nat) (y : MethodName) (bytes : ByteArray) (maxL : Nat) (ret : Option FieldType) (hh : List (Nat × Nat × Nat × Nat)) (ws : List Cond) (rm : Room) (mc ms n : Nat) : Prop :=
  (rm.cells = mc ∧ rm.slots = ms ∧ rm.frames + 1 ≤ R.frames ∧ 8 + (maxL + 11) + rm.locals ≤ R.locals ∧ (∀ w ∈ ws, ∀ (a' : Array Value) (U : State), s.WarmedH U.vm → w.before a' U = true) ∧ Cond.codeWith y bytes maxL ret hh ∈ ws) ∧
  (Cond.codeWith y bytes maxL ret hh).before args s = true ∧ (Cond.initialized y.cls).before args s = true ∧ (y.cls ≠ "java/lang/invoke/MethodHandle" ∧ y.cls ≠ "java/lang/invoke/VarHandle") ∧
  (∀ sig, parseMethodDescriptor y.desc = some sig → n = sig.parameters.length) ∧ (Cond.methodLink own index y).before args s = true ∧ (Cond.instanceMethod y).before args s = true ∧ (Cond.selects C y y).before args s = true
theorem vx_cwVW {own C : String} {index maxL mc ms : Nat} {y : MethodName} {bytes : ByteArray} {ret : Option FieldType} {hh : List (Nat × Nat × Nat × Nat)} {Ts ws ws' : List Cond} {rm : Room} (n : Nat) (ht : ∀ w ∈ Ts, w.before args s = true) (hT : GoodIn Ts (wsV own index C y ws)) (hw : ws = Cond.codeWith y bytes maxL ret hh :: ws') (hrc : rm.cells = mc) (hrs : rm.slots = ms)
    (hd : y.cls = C ∧ y.cls ≠ "java/lang/invoke/MethodHandle" ∧ y.cls ≠ "java/lang/invoke/VarHandle" ∧ (parseMethodDescriptor y.desc).map (fun d => d.parameters.length) = some n) (hR : rm.frames + 1 ≤ R.frames ∧ 8 + (maxL + 11) + rm.locals ≤ R.locals) :
    vx_CVW R s args own C index y bytes maxL ret hh ws rm mc ms n := by
  obtain ⟨hC, hd⟩ := hd
  subst hC
  have ok : ∀ w ∈ wsV own index y.cls y ws, w.before args s = true := fun w h => ht w (hT w h).1
  have hG : GoodIn Ts ws := fun w h => hT w (by unfold wsV; exact List.mem_append_right _ h)
  have hc : Cond.codeWith y bytes maxL ret hh ∈ ws := by rw [hw]; exact List.mem_cons_self
  refine ⟨⟨hrc, hrs, hR.1, hR.2, pay_in ht hG, hc⟩, ht _ (hG _ hc).1, ok _ (by simp [wsV]), ⟨hd.1, hd.2.1⟩, fun sig h => ?_, ok _ (by simp [wsV]), ok _ (by simp [wsV]), ok _ (by simp [wsV])⟩
  have h2 := hd.2.2
  rw [h] at h2
  exact (Option.some.inj h2).symm
theorem vx_runVW {y : MethodName} {bytes cc : ByteArray} {maxL nL mc ms n index : Nat} {ret : Option FieldType} {hh : List (Nat × Nat × Nat × Nat)} {ws : List Cond} {rm : Room} {Pc : Array Value → State → Prop} {Qc : Array Value → State → Outcome → State → Prop} {free : Addr → Prop} {Ts : List Cond} {own C : String} {b : Addr} {As rest : List Value} {g : JFrame}
    (S : CallFix p m c cc nL s args Ts own) (hM : Met l y ws rm Pc Qc mc ms free) (cw : vx_CVW R s args own C index y bytes maxL ret hh ws rm mc ms n) (hp : PreV s H C b Pc As)
    (hg : g.method = m) (hn : As.length = n) (hsize : g.locals.size = nL) (hstack : g.stack = As.reverse ++ .ref b :: rest) (hW : 2 * g.monitorRoom + (rest.map fun v => v.category).sum ≤ 8) (hdg : decode cc g.pc = .ok (.invokevirtual index, 3)) (hf : cells + mc ≤ R.cells ∧ slots + ms ≤ R.slots) :
    va_Run p l e R s m args below meth c H locs cells slots mc ms g rest (Qc (Value.ref b :: As).toArray) free := by
  obtain ⟨⟨hrc, hrs, hfr, hlo, hws, hcw⟩, hcode, hini, hy, hlen, hl, hin, hse⟩ := cw
  have hK : Back l R p e below s args y 3 8 (PreOf R mc ms Pc) (PostOf Qc mc ms free) := va_backW (hh := hh) (bytes := bytes) (maxL := maxL) (ret := ret) hM hp.1 hrc hrs hfr hlo hws hcw (fun a' U hW => word_at hW (Or.inl (by first | rfl | simp [Cond.onTables, Cond.keeps, Cond.steady])) hini)
  obtain ⟨hx, hb, hml, ho, -⟩ := S
  obtain ⟨-, ⟨cellB, hcB, hoB, hclB⟩, hPc⟩ := hp
  intro T hT X
  obtain ⟨v, vm₁, ⟨U', l2, c2, s2⟩, hW₁, X', ⟨g', mk, t, L, e1, e2, hq, h1, hL, h2, h3⟩, st⟩ := vx_callVW X hx (C := C) (hh := hh) (bytes := bytes) (maxL := maxL) (ret := ret) ho hl hin hse hcode hy hK (by rw [hT]; exact hcB) hoB hclB hg (hsize.trans hml.symm) (argsL := As) (rest := rest) (fun sig h => hn.trans (hlen sig h)) hstack hW (by rw [hb]; exact hdg)
    (fun vm₁ hW₁ => ⟨hf.1, hf.2, hPc (T.setVm vm₁) hT hW₁⟩)
  dsimp only [Pt.U, Pt.locs, Pt.cells, Pt.slots] at X' e1 e2 h1 h2 h3 st
  subst h1; subst h2; subst h3
  exact ⟨v, (T.setVm vm₁).calling g' mk (Value.ref b :: As).toArray, t, U', L, hT, X', hL, e1, e2, hq, st⟩
section
variable {y : MethodName} {bytes cc : ByteArray} {maxL nL mc ms n index : Nat} {ret : Option FieldType} {ws : List Cond} {rm : Room} {Pc : Array Value → State → Prop} {Qc : Array Value → State → Outcome → State → Prop} {XC : String → State → State → Prop} {free : Addr → Prop} {Ts : List Cond} {own C : String} {b : Addr} {As rest : List Value} {g : JFrame}
theorem vx_runVX {hh : List (Nat × Nat × Nat × Nat)} (S : CallFix p m c cc nL s args Ts own) (hM : vx_Met l y ws rm Pc Qc XC mc ms free) (cw : vx_CVW R s args own C index y bytes maxL ret hh ws rm mc ms n) (hp : PreV s H C b Pc As)
    (hg : g.method = m) (hn : As.length = n) (hsize : g.locals.size = nL) (hstack : g.stack = As.reverse ++ .ref b :: rest) (hW : 2 * g.monitorRoom + (rest.map fun v => v.category).sum ≤ 8) (hdg : decode cc g.pc = .ok (.invokevirtual index, 3)) (hf : cells + mc ≤ R.cells ∧ slots + ms ≤ R.slots) :
    vx_Run p l e R s m args below meth c H locs cells slots mc ms g rest (Qc (Value.ref b :: As).toArray) XC free := by
  obtain ⟨⟨hrc, hrs, hfr, hlo, hws, hcw⟩, hcode, hini, hy, hlen, hl, hin, hse⟩ := cw
  have hK : vx_Back l R p e below s args y 3 8 (PreOf R mc ms Pc) (PostOf Qc mc ms free) (vx_Post XC mc ms free) := vx_backW (hh := hh) (bytes := bytes) (maxL := maxL) (ret := ret) hM hp.1 hrc hrs hfr hlo hws hcw (fun a' U hW => word_at hW (Or.inl (by first | rfl | simp [Cond.onTables, Cond.keeps, Cond.steady])) hini)
  obtain ⟨hx, hb, hml, ho, -⟩ := S
  obtain ⟨-, ⟨cellB, hcB, hoB, hclB⟩, hPc⟩ := hp
  intro T hT X
  rcases vx_callVX X hx (C := C) (hh := hh) (bytes := bytes) (maxL := maxL) (ret := ret) ho hl hin hse hcode hy hK (by rw [hT]; exact hcB) hoB hclB hg (hsize.trans hml.symm) (argsL := As) (rest := rest) (fun sig h => hn.trans (hlen sig h)) hstack hW (by rw [hb]; exact hdg)
    (fun vm₁ hW₁ => ⟨hf.1, hf.2, hPc (T.setVm vm₁) hT hW₁⟩) with ⟨v, vm₁, ⟨U', l2, c2, s2⟩, hW₁, X', ⟨g', mk, t, L, e1, e2, hq, h1, hL, h2, h3⟩, st⟩ | ⟨q, vm₁, ⟨U', l2, c2, s2⟩, hW₁, X', ⟨g', mk, t, L, E, ce, e1, e2, hq, hce, hcv, hcl, h1, hL, h2, h3⟩, st⟩
  · dsimp only [Pt.U, Pt.locs, Pt.cells, Pt.slots] at X' e1 e2 h1 h2 h3 st
    subst h1; subst h2; subst h3
    exact Or.inl ⟨v, (T.setVm vm₁).calling g' mk (Value.ref b :: As).toArray, t, U', L, hT, X', hL, e1, e2, hq, st⟩
  · dsimp only [Pt.U, Pt.locs, Pt.cells, Pt.slots] at X' e1 e2 h1 h2 h3 st hcl
    subst h1; subst h2; subst h3
    exact Or.inr ⟨q, (T.setVm vm₁).calling g' mk (Value.ref b :: As).toArray, t, U', L, E, ce, hT, X', hL, e1, e2, hq, hce, hcv, vx_cls hW₁ hcl, st⟩
theorem vx_runSX {hh : List (Nat × Nat × Nat × Nat)} (S : CallFix p m c cc nL s args Ts own) (hM : vx_Met l y ws rm Pc Qc XC mc ms free) (cw : vx_CSW R s args own index y bytes maxL ret hh ws rm mc ms n) (hp : PreS s H Pc As)
    (hg : g.method = m) (hn : As.length = n) (hsize : g.locals.size = nL) (hstack : g.stack = As.reverse ++ rest) (hW : 2 * g.monitorRoom + (rest.map fun v => v.category).sum ≤ 8) (hdg : decode cc g.pc = .ok (.invokestatic index, 3)) (hf : cells + mc ≤ R.cells ∧ slots + ms ≤ R.slots) :
    vx_Run p l e R s m args below meth c H locs cells slots mc ms g rest (Qc As.toArray) XC free := by
  obtain ⟨⟨hrc, hrs, hfr, hlo, hws, hcw⟩, hcode, hini, hy, hlen, hl, hstt⟩ := cw
  have hK : vx_Back l R p e below s args y 3 8 (PreOf R mc ms Pc) (PostOf Qc mc ms free) (vx_Post XC mc ms free) := vx_backW (hh := hh) (bytes := bytes) (maxL := maxL) (ret := ret) hM hp.1 hrc hrs hfr hlo hws hcw (fun a' U hW => word_at hW (Or.inl (by first | rfl | simp [Cond.onTables, Cond.keeps, Cond.steady])) hini)
  obtain ⟨hx, hb, hml, ho, -⟩ := S
  intro T hT X
  rcases vx_callSX X hx (hh := hh) (bytes := bytes) (maxL := maxL) (ret := ret) ho hl hstt hini hcode hy hK hg (hsize.trans hml.symm) (argsL := As) (rest := rest) (fun sig h => hn.trans (hlen sig h)) hstack hW (by rw [hb]; exact hdg)
    (fun vm₁ hW₁ => ⟨hf.1, hf.2, hp.2 (T.setVm vm₁) hT hW₁⟩) with ⟨v, vm₁, ⟨U', l2, c2, s2⟩, hW₁, X', ⟨g', mk, t, L, e1, e2, hq, h1, hL, h2, h3⟩, st⟩ | ⟨q, vm₁, ⟨U', l2, c2, s2⟩, hW₁, X', ⟨g', mk, t, L, E, ce, e1, e2, hq, hce, hcv, hcl, h1, hL, h2, h3⟩, st⟩
  · dsimp only [Pt.U, Pt.locs, Pt.cells, Pt.slots] at X' e1 e2 h1 h2 h3 st
    subst h1; subst h2; subst h3
    exact Or.inl ⟨v, (T.setVm vm₁).calling g' mk As.toArray, t, U', L, hT, X', hL, e1, e2, hq, st⟩
  · dsimp only [Pt.U, Pt.locs, Pt.cells, Pt.slots] at X' e1 e2 h1 h2 h3 st hcl
    subst h1; subst h2; subst h3
    exact Or.inr ⟨q, (T.setVm vm₁).calling g' mk As.toArray, t, U', L, E, ce, hT, X', hL, e1, e2, hq, hce, hcv, vx_cls hW₁ hcl, st⟩
end
end VXH
theorem vx_ofWH {l : Launch} {y : MethodName} {ws ws' : List Cond} {rm : Room} {Pc : Array Value → State → Prop} {Qc : Array Value → State → Outcome → State → Prop} {XC : String → State → State → Prop} {mc ms : Nat} {free : Addr → Prop} {cc : ByteArray} {maxL : Nat} {ret : Option FieldType} {hh : List (Nat × Nat × Nat × Nat)}
    (hy : plainName y.cls = true) (hw : ws = Cond.codeWith y cc maxL ret hh :: ws')
    (body : ∀ p e s m args below meth c s₁, BodyLoose p l y (headSpec ws rm) cc maxL ret e s m args below meth c s₁ → c.maxLocals = maxL → Pc args s →
      W p l e (headSpec ws rm).room s m args below meth c s.heap [] 0 0 (vx_MQ below Qc XC args s mc ms free) (entryFrame m args maxL)) : vx_Met l y ws rm Pc Qc XC mc ms free := by
  refine MetFree.of_bodyS (code := cc) (maxLocals := maxL) (ret := ret) hy ?_ ?_
  · intro args s m h hn
    obtain ⟨m9, meth, c, hn9, h1, h2, h3, h4, -, h5, h6, -⟩ := Cond.codeWith_spec (atoms_spec (ws := ws) h _ (by rw [hw]; exact List.mem_cons_self))
    cases hn.symm.trans hn9
    exact ⟨meth, c, h1, h2, h3, h4, h5, h6⟩
  · intro p e s m args below meth c s₁ B hml hP _
    have hh0 : s₁.heap = s.heap := by rw [B.state]; rfl
    obtain ⟨t, a1, o, b1, b2, b3⟩ := body p e s m args below meth c s₁ B hml hP s₁ hh0 (Stand.of_body B)
    exact ⟨t, o, a1, b1, b2, b3⟩
/-! ===== END ===== -/
end
section
def RX0 : String := "ClosureRows$Closures"
def RX1 : String := "ClosureRows$Notices"
def RX2 : String := "ClosureRows$Routes"
def RX3 : String := "ClosureRows"
def RX4 : String := "ClosureRowsModel"
def RJ9 : String := "java/lang/Math"
def RL : String := "ClosureRowsLaw"
def TX0 : u_T := fun k => match k with
  | 0 => ("ClosureRows$Closures", "kinds", "[I", true)
  | 1 => ("ClosureRows$Closures", "pieces", "[I", true)
  | 2 => ("ClosureRows$Closures", "sides", "[I", true)
  | 3 => ("ClosureRows$Closures", "starts", "[I", true)
  | 4 => ("ClosureRows$Closures", "ends", "[I", true)
  | 5 => ("ClosureRows$Closures", "xs", "[I", true)
  | 6 => ("ClosureRows$Closures", "answers", "[I", true)
  | 7 => ("ClosureRows$Closures", "words", "[I", true)
  | 8 => ("ClosureRows$Closures", "incidents", "[Z", true)
  | _ => ("ClosureRows$Closures", "count", "I", false)
def tyX0 : Nat → FieldType := fun k => match k with
  | 0 => .array .int
  | 1 => .array .int
  | 2 => .array .int
  | 3 => .array .int
  | 4 => .array .int
  | 5 => .array .int
  | 6 => .array .int
  | 7 => .array .int
  | 8 => .array .boolean
  | _ => .int
theorem nmX0 : ∀ a, a < 10 → ∀ b, b < 10 → a ≠ b → (TX0 a).2.1 ≠ (TX0 b).2.1 := by decide +kernel
theorem tyX0_ok : ∀ k, k < 10 → parseFieldDescriptor (TX0 k).2.2.1 = some (tyX0 k) := by decide +kernel
def TX1 : u_T := fun k => match k with
  | 0 => ("ClosureRows$Notices", "row", "[I", true)
  | _ => ("ClosureRows$Notices", "total", "I", false)
def tyX1 : Nat → FieldType := fun k => match k with
  | 0 => .array .int
  | _ => .int
theorem nmX1 : ∀ a, a < 2 → ∀ b, b < 2 → a ≠ b → (TX1 a).2.1 ≠ (TX1 b).2.1 := by decide +kernel
theorem tyX1_ok : ∀ k, k < 2 → parseFieldDescriptor (TX1 k).2.2.1 = some (tyX1 k) := by decide +kernel
def TX2 : u_T := fun k => match k with
  | 0 => ("ClosureRows$Routes", "places", "[I", true)
  | _ => ("ClosureRows$Routes", "lengths", "[I", true)
def tyX2 : Nat → FieldType := fun k => match k with
  | 0 => .array .int
  | _ => .array .int
theorem nmX2 : ∀ a, a < 2 → ∀ b, b < 2 → a ≠ b → (TX2 a).2.1 ≠ (TX2 b).2.1 := by decide +kernel
theorem tyX2_ok : ∀ k, k < 2 → parseFieldDescriptor (TX2 k).2.2.1 = some (tyX2 k) := by decide +kernel
def TX3 : u_T := fun k => match k with
  | 0 => ("ClosureRows", "closures", "LClosureRows$Closures;", true)
  | 1 => ("ClosureRows", "routes", "LClosureRows$Routes;", true)
  | 2 => ("ClosureRows", "notices", "LClosureRows$Notices;", true)
  | 3 => ("ClosureRows", "wasClosed", "[Z", true)
  | 4 => ("ClosureRows", "nowClosed", "[Z", true)
  | _ => ("ClosureRows", "now", "I", false)
def tyX3 : Nat → FieldType := fun k => match k with
  | 0 => .object "ClosureRows$Closures"
  | 1 => .object "ClosureRows$Routes"
  | 2 => .object "ClosureRows$Notices"
  | 3 => .array .boolean
  | 4 => .array .boolean
  | _ => .int
theorem nmX3 : ∀ a, a < 6 → ∀ b, b < 6 → a ≠ b → (TX3 a).2.1 ≠ (TX3 b).2.1 := by decide +kernel
theorem tyX3_ok : ∀ k, k < 6 → parseFieldDescriptor (TX3 k).2.2.1 = some (tyX3 k) := by decide +kernel
def TX4 : u_T := fun k => match k with
  | 0 => ("ClosureRowsModel", "thrown", "I", false)
  | 1 => ("ClosureRowsModel", "clock", "I", false)
  | 2 => ("ClosureRowsModel", "many", "I", false)
  | 3 => ("ClosureRowsModel", "kind", "[I", true)
  | 4 => ("ClosureRowsModel", "piece", "[I", true)
  | 5 => ("ClosureRowsModel", "sides", "[I", true)
  | 6 => ("ClosureRowsModel", "from", "[I", true)
  | 7 => ("ClosureRowsModel", "to", "[I", true)
  | 8 => ("ClosureRowsModel", "number", "[I", true)
  | 9 => ("ClosureRowsModel", "answered", "[I", true)
  | 10 => ("ClosureRowsModel", "lifted", "[I", true)
  | 11 => ("ClosureRowsModel", "word", "[I", true)
  | 12 => ("ClosureRowsModel", "open", "[Z", true)
  | 13 => ("ClosureRowsModel", "steps", "[I", true)
  | 14 => ("ClosureRowsModel", "step", "[I", true)
  | 15 => ("ClosureRowsModel", "was", "[Z", true)
  | 16 => ("ClosureRowsModel", "notices", "I", false)
  | _ => ("ClosureRowsModel", "told", "[I", true)
def tyX4 : Nat → FieldType := fun k => match k with
  | 0 => .int
  | 1 => .int
  | 2 => .int
  | 3 => .array .int
  | 4 => .array .int
  | 5 => .array .int
  | 6 => .array .int
  | 7 => .array .int
  | 8 => .array .int
  | 9 => .array .int
  | 10 => .array .int
  | 11 => .array .int
  | 12 => .array .boolean
  | 13 => .array .int
  | 14 => .array .int
  | 15 => .array .boolean
  | 16 => .int
  | _ => .array .int
theorem nmX4 : ∀ a, a < 18 → ∀ b, b < 18 → a ≠ b → (TX4 a).2.1 ≠ (TX4 b).2.1 := by decide +kernel
theorem tyX4_ok : ∀ k, k < 18 → parseFieldDescriptor (TX4 k).2.2.1 = some (tyX4 k) := by decide +kernel
abbrev vwCl : List vw_C := [(RX0, TX0, 10), (RX1, TX1, 2), (RX2, TX2, 2), (RX3, TX3, 6), (RX4, TX4, 18)]
abbrev cX0_init : ByteArray := prog_2_method_1_code
def yX0_init : MethodName := ⟨RX0, "<init>", "()V"⟩
abbrev cX0_isFull : ByteArray := prog_2_method_2_code
def yX0_isFull : MethodName := ⟨RX0, "isFull", "()Z"⟩
abbrev cX0_has : ByteArray := prog_2_method_3_code
def yX0_has : MethodName := ⟨RX0, "has", "(I)Z"⟩
abbrev cX0_add : ByteArray := prog_2_method_4_code
def yX0_add : MethodName := ⟨RX0, "add", "(IIIIII)I"⟩
abbrev cX0_awaitsAnswer : ByteArray := prog_2_method_5_code
def yX0_awaitsAnswer : MethodName := ⟨RX0, "awaitsAnswer", "(I)Z"⟩
abbrev cX0_setAnswer : ByteArray := prog_2_method_6_code
def yX0_setAnswer : MethodName := ⟨RX0, "setAnswer", "(IZ)V"⟩
abbrev cX0_setIncident : ByteArray := prog_2_method_7_code
def yX0_setIncident : MethodName := ⟨RX0, "setIncident", "(IZ)V"⟩
abbrev cX0_canBeLifted : ByteArray := prog_2_method_8_code
def yX0_canBeLifted : MethodName := ⟨RX0, "canBeLifted", "(II)Z"⟩
abbrev cX0_giveWord : ByteArray := prog_2_method_9_code
def yX0_giveWord : MethodName := ⟨RX0, "giveWord", "(II)Z"⟩
abbrev cX0_endAt : ByteArray := prog_2_method_10_code
def yX0_endAt : MethodName := ⟨RX0, "endAt", "(II)V"⟩
abbrev cX0_isClosedAt : ByteArray := prog_2_method_11_code
def yX0_isClosedAt : MethodName := ⟨RX0, "isClosedAt", "(II)Z"⟩
abbrev cX0_markClosed : ByteArray := prog_2_method_12_code
def yX0_markClosed : MethodName := ⟨RX0, "markClosed", "([ZI)V"⟩
abbrev cX0_markSides : ByteArray := prog_2_method_13_code
def yX0_markSides : MethodName := ⟨RX0, "markSides", "([ZI)V"⟩
abbrev cX0_percentAt : ByteArray := prog_2_method_14_code
def yX0_percentAt : MethodName := ⟨RX0, "percentAt", "(II)I"⟩
abbrev cX0_holdingAt : ByteArray := prog_2_method_15_code
def yX0_holdingAt : MethodName := ⟨RX0, "holdingAt", "(III)I"⟩
abbrev cX0_rankOf : ByteArray := prog_2_method_16_code
def yX0_rankOf : MethodName := ⟨RX0, "rankOf", "(III)I"⟩
abbrev cX0_endsAheadOf : ByteArray := prog_2_method_17_code
def yX0_endsAheadOf : MethodName := ⟨RX0, "endsAheadOf", "(II)Z"⟩
abbrev cX0_nextChange : ByteArray := prog_2_method_18_code
def yX0_nextChange : MethodName := ⟨RX0, "nextChange", "(I)I"⟩
abbrev cX0_nextChangeOn : ByteArray := prog_2_method_19_code
def yX0_nextChangeOn : MethodName := ⟨RX0, "nextChangeOn", "(II)I"⟩
abbrev cX0_changeOf : ByteArray := prog_2_method_20_code
def yX0_changeOf : MethodName := ⟨RX0, "changeOf", "(II)I"⟩
abbrev cX0_holdsOn : ByteArray := prog_2_method_21_code
def yX0_holdsOn : MethodName := ⟨RX0, "holdsOn", "(III)Z"⟩
abbrev cX0_covers : ByteArray := prog_2_method_22_code
def yX0_covers : MethodName := ⟨RX0, "covers", "(II)Z"⟩
abbrev cX0_holds : ByteArray := prog_2_method_23_code
def yX0_holds : MethodName := ⟨RX0, "holds", "(II)Z"⟩
abbrev cX0_minuteOfPeriod : ByteArray := prog_2_method_24_code
def yX0_minuteOfPeriod : MethodName := ⟨RX0, "minuteOfPeriod", "(II)I"⟩
abbrev cX1_init : ByteArray := prog_3_method_1_code
def yX1_init : MethodName := ⟨RX1, "<init>", "()V"⟩
abbrev cX1_total : ByteArray := prog_3_method_2_code
def yX1_total : MethodName := ⟨RX1, "total", "()I"⟩
abbrev cX1_isKept : ByteArray := prog_3_method_3_code
def yX1_isKept : MethodName := ⟨RX1, "isKept", "(I)Z"⟩
abbrev cX1_get : ByteArray := prog_3_method_4_code
def yX1_get : MethodName := ⟨RX1, "get", "(II)I"⟩
abbrev cX1_add : ByteArray := prog_3_method_5_code
def yX1_add : MethodName := ⟨RX1, "add", "(IIZI)V"⟩
abbrev cX1_firstOf : ByteArray := prog_3_method_6_code
def yX1_firstOf : MethodName := ⟨RX1, "firstOf", "(I)I"⟩
abbrev cX2_init : ByteArray := prog_4_method_1_code
def yX2_init : MethodName := ⟨RX2, "<init>", "()V"⟩
abbrev cX2_empty : ByteArray := prog_4_method_2_code
def yX2_empty : MethodName := ⟨RX2, "empty", "(I)V"⟩
abbrev cX2_isFull : ByteArray := prog_4_method_3_code
def yX2_isFull : MethodName := ⟨RX2, "isFull", "(I)Z"⟩
abbrev cX2_add : ByteArray := prog_4_method_4_code
def yX2_add : MethodName := ⟨RX2, "add", "(II)I"⟩
abbrev cX2_length : ByteArray := prog_4_method_5_code
def yX2_length : MethodName := ⟨RX2, "length", "(I)I"⟩
abbrev cX2_stepOf : ByteArray := prog_4_method_6_code
def yX2_stepOf : MethodName := ⟨RX2, "stepOf", "(II)I"⟩
abbrev cX2_leadsOver : ByteArray := prog_4_method_7_code
def yX2_leadsOver : MethodName := ⟨RX2, "leadsOver", "(II)Z"⟩
abbrev cX3_init : ByteArray := prog_1_method_1_code
def yX3_init : MethodName := ⟨RX3, "<init>", "()V"⟩
abbrev cX3_close : ByteArray := prog_1_method_2_code
def yX3_close : MethodName := ⟨RX3, "close", "(IIIIII)I"⟩
abbrev cX3_answer : ByteArray := prog_1_method_3_code
def yX3_answer : MethodName := ⟨RX3, "answer", "(IZ)V"⟩
abbrev cX3_lift : ByteArray := prog_1_method_4_code
def yX3_lift : MethodName := ⟨RX3, "lift", "(II)Z"⟩
abbrev cX3_incident : ByteArray := prog_1_method_5_code
def yX3_incident : MethodName := ⟨RX3, "incident", "(IZ)V"⟩
abbrev cX3_step : ByteArray := prog_1_method_6_code
def yX3_step : MethodName := ⟨RX3, "step", "(III)I"⟩
abbrev cX3_tick : ByteArray := prog_1_method_7_code
def yX3_tick : MethodName := ⟨RX3, "tick", "(I)I"⟩
abbrev cX3_clock : ByteArray := prog_1_method_8_code
def yX3_clock : MethodName := ⟨RX3, "clock", "()I"⟩
abbrev cX3_closed : ByteArray := prog_1_method_9_code
def yX3_closed : MethodName := ⟨RX3, "closed", "(III)Z"⟩
abbrev cX3_minutes : ByteArray := prog_1_method_10_code
def yX3_minutes : MethodName := ⟨RX3, "minutes", "(IIII)I"⟩
abbrev cX3_opens : ByteArray := prog_1_method_11_code
def yX3_opens : MethodName := ⟨RX3, "opens", "(III)I"⟩
abbrev cX3_reason : ByteArray := prog_1_method_12_code
def yX3_reason : MethodName := ⟨RX3, "reason", "(IIII)I"⟩
abbrev cX3_speed : ByteArray := prog_1_method_13_code
def yX3_speed : MethodName := ⟨RX3, "speed", "(III)I"⟩
abbrev cX3_notice : ByteArray := prog_1_method_14_code
def yX3_notice : MethodName := ⟨RX3, "notice", "(II)I"⟩
abbrev cX3_blocked : ByteArray := prog_1_method_15_code
def yX3_blocked : MethodName := ⟨RX3, "blocked", "(I)I"⟩
abbrev cX3_tellChanges : ByteArray := prog_1_method_16_code
def yX3_tellChanges : MethodName := ⟨RX3, "tellChanges", "()V"⟩
abbrev cX3_tellUnits : ByteArray := prog_1_method_17_code
def yX3_tellUnits : MethodName := ⟨RX3, "tellUnits", "(I)V"⟩
abbrev cX3_needClosure : ByteArray := prog_1_method_18_code
def yX3_needClosure : MethodName := ⟨RX3, "needClosure", "(I)V"⟩
abbrev cX3_needKind : ByteArray := prog_1_method_19_code
def yX3_needKind : MethodName := ⟨RX3, "needKind", "(II)V"⟩
abbrev cX3_needPiece : ByteArray := prog_1_method_20_code
def yX3_needPiece : MethodName := ⟨RX3, "needPiece", "(I)V"⟩
abbrev cX3_needPlace : ByteArray := prog_1_method_21_code
def yX3_needPlace : MethodName := ⟨RX3, "needPlace", "(II)I"⟩
abbrev cX3_needUnit : ByteArray := prog_1_method_22_code
def yX3_needUnit : MethodName := ⟨RX3, "needUnit", "(I)V"⟩
abbrev cX3_needMinute : ByteArray := prog_1_method_23_code
def yX3_needMinute : MethodName := ⟨RX3, "needMinute", "(I)V"⟩
abbrev cX3_needEnd : ByteArray := prog_1_method_24_code
def yX3_needEnd : MethodName := ⟨RX3, "needEnd", "(III)V"⟩
abbrev cX3_needX : ByteArray := prog_1_method_25_code
def yX3_needX : MethodName := ⟨RX3, "needX", "(II)V"⟩
abbrev cX3_isIncident : ByteArray := prog_1_method_26_code
def yX3_isIncident : MethodName := ⟨RX3, "isIncident", "(I)Z"⟩
abbrev cX3_hasEnd : ByteArray := prog_1_method_27_code
def yX3_hasEnd : MethodName := ⟨RX3, "hasEnd", "(I)Z"⟩
abbrev cX3_isTimetable : ByteArray := prog_1_method_28_code
def yX3_isTimetable : MethodName := ⟨RX3, "isTimetable", "(I)Z"⟩
abbrev cX3_periodOf : ByteArray := prog_1_method_29_code
def yX3_periodOf : MethodName := ⟨RX3, "periodOf", "(I)I"⟩
abbrev cX3_lengthOf : ByteArray := prog_1_method_30_code
def yX3_lengthOf : MethodName := ⟨RX3, "lengthOf", "(I)I"⟩
abbrev cX3_placeOf : ByteArray := prog_1_method_31_code
def yX3_placeOf : MethodName := ⟨RX3, "placeOf", "(II)I"⟩
abbrev cX3_pieceOf : ByteArray := prog_1_method_32_code
def yX3_pieceOf : MethodName := ⟨RX3, "pieceOf", "(I)I"⟩
abbrev cX3_sideOf : ByteArray := prog_1_method_33_code
def yX3_sideOf : MethodName := ⟨RX3, "sideOf", "(I)I"⟩
abbrev cX4_init : ByteArray := prog_6_method_1_code
def yX4_init : MethodName := ⟨RX4, "<init>", "()V"⟩
abbrev cX4_thrown : ByteArray := prog_6_method_2_code
def yX4_thrown : MethodName := ⟨RX4, "thrown", "()I"⟩
abbrev cX4_throwing : ByteArray := prog_6_method_3_code
def yX4_throwing : MethodName := ⟨RX4, "throwing", "(ZZZ)Z"⟩
abbrev cX4_in : ByteArray := prog_6_method_4_code
def yX4_in : MethodName := ⟨RX4, "in", "(III)Z"⟩
abbrev cX4_isPiece : ByteArray := prog_6_method_5_code
def yX4_isPiece : MethodName := ⟨RX4, "isPiece", "(I)Z"⟩
abbrev cX4_isSide : ByteArray := prog_6_method_6_code
def yX4_isSide : MethodName := ⟨RX4, "isSide", "(I)Z"⟩
abbrev cX4_isMinute : ByteArray := prog_6_method_7_code
def yX4_isMinute : MethodName := ⟨RX4, "isMinute", "(I)Z"⟩
abbrev cX4_isClosure : ByteArray := prog_6_method_8_code
def yX4_isClosure : MethodName := ⟨RX4, "isClosure", "(I)Z"⟩
abbrev cX4_holds : ByteArray := prog_6_method_9_code
def yX4_holds : MethodName := ⟨RX4, "holds", "(II)Z"⟩
abbrev cX4_isOn : ByteArray := prog_6_method_10_code
def yX4_isOn : MethodName := ⟨RX4, "isOn", "(III)Z"⟩
abbrev cX4_isClosed : ByteArray := prog_6_method_11_code
def yX4_isClosed : MethodName := ⟨RX4, "isClosed", "(III)Z"⟩
abbrev cX4_has : ByteArray := prog_6_method_12_code
def yX4_has : MethodName := ⟨RX4, "has", "(II)Z"⟩
abbrev cX4_look : ByteArray := prog_6_method_13_code
def yX4_look : MethodName := ⟨RX4, "look", "()V"⟩
abbrev cX4_isNumber : ByteArray := prog_6_method_14_code
def yX4_isNumber : MethodName := ⟨RX4, "isNumber", "(II)Z"⟩
abbrev cX4_close : ByteArray := prog_6_method_15_code
def yX4_close : MethodName := ⟨RX4, "close", "(IIIIII)I"⟩
abbrev cX4_answer : ByteArray := prog_6_method_16_code
def yX4_answer : MethodName := ⟨RX4, "answer", "(IZ)V"⟩
abbrev cX4_lift : ByteArray := prog_6_method_17_code
def yX4_lift : MethodName := ⟨RX4, "lift", "(II)Z"⟩
abbrev cX4_incident : ByteArray := prog_6_method_18_code
def yX4_incident : MethodName := ⟨RX4, "incident", "(IZ)V"⟩
abbrev cX4_step : ByteArray := prog_6_method_19_code
def yX4_step : MethodName := ⟨RX4, "step", "(III)I"⟩
abbrev cX4_tick : ByteArray := prog_6_method_20_code
def yX4_tick : MethodName := ⟨RX4, "tick", "(I)I"⟩
abbrev cX4_clock : ByteArray := prog_6_method_21_code
def yX4_clock : MethodName := ⟨RX4, "clock", "()I"⟩
abbrev cX4_closed : ByteArray := prog_6_method_22_code
def yX4_closed : MethodName := ⟨RX4, "closed", "(III)Z"⟩
abbrev cX4_minutes : ByteArray := prog_6_method_23_code
def yX4_minutes : MethodName := ⟨RX4, "minutes", "(IIII)I"⟩
abbrev cX4_opens : ByteArray := prog_6_method_24_code
def yX4_opens : MethodName := ⟨RX4, "opens", "(III)I"⟩
abbrev cX4_endOf : ByteArray := prog_6_method_25_code
def yX4_endOf : MethodName := ⟨RX4, "endOf", "(I)I"⟩
abbrev cX4_reason : ByteArray := prog_6_method_26_code
def yX4_reason : MethodName := ⟨RX4, "reason", "(IIII)I"⟩
abbrev cX4_speed : ByteArray := prog_6_method_27_code
def yX4_speed : MethodName := ⟨RX4, "speed", "(III)I"⟩
abbrev cX4_notice : ByteArray := prog_6_method_28_code
def yX4_notice : MethodName := ⟨RX4, "notice", "(II)I"⟩
abbrev cX4_blocked : ByteArray := prog_6_method_29_code
def yX4_blocked : MethodName := ⟨RX4, "blocked", "(I)I"⟩
abbrev cJ9_floorMod : ByteArray := prog_11_method_50_code
def yJ9_floorMod : MethodName := ⟨RJ9, "floorMod", "(II)I"⟩
abbrev cJ9_min : ByteArray := prog_11_method_69_code
def yJ9_min : MethodName := ⟨RJ9, "min", "(II)I"⟩
abbrev cL_close : ByteArray := method_3_code
def yL_close : MethodName := ⟨RL, "close", "(LClosureRows;IIIIII[J)I"⟩
abbrev cL_answer : ByteArray := method_4_code
def yL_answer : MethodName := ⟨RL, "answer", "(LClosureRows;IZ)I"⟩
abbrev cL_lift : ByteArray := method_5_code
def yL_lift : MethodName := ⟨RL, "lift", "(LClosureRows;II[J)I"⟩
abbrev cL_incident : ByteArray := method_6_code
def yL_incident : MethodName := ⟨RL, "incident", "(LClosureRows;IZ)I"⟩
abbrev cL_step : ByteArray := method_7_code
def yL_step : MethodName := ⟨RL, "step", "(LClosureRows;III[J)I"⟩
abbrev cL_tick : ByteArray := method_8_code
def yL_tick : MethodName := ⟨RL, "tick", "(LClosureRows;I[J)I"⟩
abbrev cL_closed : ByteArray := method_9_code
def yL_closed : MethodName := ⟨RL, "closed", "(LClosureRows;III[J)I"⟩
abbrev cL_minutes : ByteArray := method_10_code
def yL_minutes : MethodName := ⟨RL, "minutes", "(LClosureRows;IIII[J)I"⟩
abbrev cL_opens : ByteArray := method_11_code
def yL_opens : MethodName := ⟨RL, "opens", "(LClosureRows;III[J)I"⟩
abbrev cL_reason : ByteArray := method_12_code
def yL_reason : MethodName := ⟨RL, "reason", "(LClosureRows;IIII[J)I"⟩
abbrev cL_speed : ByteArray := method_13_code
def yL_speed : MethodName := ⟨RL, "speed", "(LClosureRows;III[J)I"⟩
abbrev cL_notice : ByteArray := method_14_code
def yL_notice : MethodName := ⟨RL, "notice", "(LClosureRows;II[J)I"⟩
abbrev cL_blocked : ByteArray := method_15_code
def yL_blocked : MethodName := ⟨RL, "blocked", "(LClosureRows;I[J)I"⟩
abbrev cL_law : ByteArray := code
def yL_law : MethodName := ⟨RL, "law", "([I)Z"⟩
def wBIG : List Cond := lw_tbl.filter goodWord
theorem wbg {w : Cond} {i : Nat} (h : lw_tbl[i]? = some w) (g : goodWord w = true) : w ∈ wBIG := List.mem_filter.mpr ⟨List.mem_of_getElem? h, g⟩
theorem wbig_sub {args : Array Value} {s : State} (ht : ∀ w ∈ lw_tbl, w.before args s = true) : ∀ w ∈ wBIG, w.before args s = true := fun w h => ht w (List.mem_filter.mp h).1
theorem wbig_at {args a' : Array Value} {s U : State} (ht : ∀ w ∈ wBIG, w.before args s = true) (hW : s.WarmedH U.vm) : ∀ w ∈ wBIG, w.before a' U = true := fun w h => word_at hW (good_of_word (List.mem_filter.mp h).2) (ht w h)
theorem inX0 : ∀ w ∈ u_ws RX0 TX0 10, w ∈ wBIG := by
  have h : (u_ws RX0 TX0 10).all (fun w => decide (w ∈ lw_tbl) && goodWord w) = true := by decide +kernel
  intro w hw
  have h1 := List.all_eq_true.mp h w hw
  simp only [Bool.and_eq_true, decide_eq_true_eq] at h1
  exact List.mem_filter.mpr h1
theorem inX1 : ∀ w ∈ u_ws RX1 TX1 2, w ∈ wBIG := by
  have h : (u_ws RX1 TX1 2).all (fun w => decide (w ∈ lw_tbl) && goodWord w) = true := by decide +kernel
  intro w hw
  have h1 := List.all_eq_true.mp h w hw
  simp only [Bool.and_eq_true, decide_eq_true_eq] at h1
  exact List.mem_filter.mpr h1
theorem inX2 : ∀ w ∈ u_ws RX2 TX2 2, w ∈ wBIG := by
  have h : (u_ws RX2 TX2 2).all (fun w => decide (w ∈ lw_tbl) && goodWord w) = true := by decide +kernel
  intro w hw
  have h1 := List.all_eq_true.mp h w hw
  simp only [Bool.and_eq_true, decide_eq_true_eq] at h1
  exact List.mem_filter.mpr h1
theorem inX3 : ∀ w ∈ u_ws RX3 TX3 6, w ∈ wBIG := by
  have h : (u_ws RX3 TX3 6).all (fun w => decide (w ∈ lw_tbl) && goodWord w) = true := by decide +kernel
  intro w hw
  have h1 := List.all_eq_true.mp h w hw
  simp only [Bool.and_eq_true, decide_eq_true_eq] at h1
  exact List.mem_filter.mpr h1
theorem inX4 : ∀ w ∈ u_ws RX4 TX4 18, w ∈ wBIG := by
  have h : (u_ws RX4 TX4 18).all (fun w => decide (w ∈ lw_tbl) && goodWord w) = true := by decide +kernel
  intro w hw
  have h1 := List.all_eq_true.mp h w hw
  simp only [Bool.and_eq_true, decide_eq_true_eq] at h1
  exact List.mem_filter.mpr h1
theorem wd20 : (Cond.initialized "ClosureRowsLaw" : Cond) ∈ wBIG := wbg (i := 20) (by decide +kernel) (by decide +kernel)
theorem wd21 : (Cond.initialized "ClosureRows" : Cond) ∈ wBIG := wbg (i := 21) (by decide +kernel) (by decide +kernel)
theorem wd22 : (Cond.initialized "ClosureRows$Closures" : Cond) ∈ wBIG := wbg (i := 22) (by decide +kernel) (by decide +kernel)
theorem wd23 : (Cond.initialized "ClosureRows$Routes" : Cond) ∈ wBIG := wbg (i := 23) (by decide +kernel) (by decide +kernel)
theorem wd24 : (Cond.initialized "ClosureRows$Notices" : Cond) ∈ wBIG := wbg (i := 24) (by decide +kernel) (by decide +kernel)
theorem wd25 : (Cond.initialized "ClosureRowsModel" : Cond) ∈ wBIG := wbg (i := 25) (by decide +kernel) (by decide +kernel)
theorem wd26 : (Cond.initialized "java/lang/Throwable" : Cond) ∈ wBIG := wbg (i := 26) (by decide +kernel) (by decide +kernel)
theorem wd27 : (Cond.initialized "java/lang/Exception" : Cond) ∈ wBIG := wbg (i := 27) (by decide +kernel) (by decide +kernel)
theorem wd28 : (Cond.initialized "java/lang/RuntimeException" : Cond) ∈ wBIG := wbg (i := 28) (by decide +kernel) (by decide +kernel)
theorem wd29 : (Cond.initialized "java/lang/IllegalArgumentException" : Cond) ∈ wBIG := wbg (i := 29) (by decide +kernel) (by decide +kernel)
theorem wd30 : (Cond.initialized "java/lang/IndexOutOfBoundsException" : Cond) ∈ wBIG := wbg (i := 30) (by decide +kernel) (by decide +kernel)
theorem wd31 : (Cond.initialized "java/lang/UnsupportedOperationException" : Cond) ∈ wBIG := wbg (i := 31) (by decide +kernel) (by decide +kernel)
theorem wd32 : (Cond.initialized "java/lang/Math" : Cond) ∈ wBIG := wbg (i := 32) (by decide +kernel) (by decide +kernel)
theorem wd33 : (Cond.initialized "java/lang/IllegalStateException" : Cond) ∈ wBIG := wbg (i := 33) (by decide +kernel) (by decide +kernel)
theorem wd34 : (Cond.classLink "ClosureRowsLaw" 8 "ClosureRows" : Cond) ∈ wBIG := wbg (i := 34) (by decide +kernel) (by decide +kernel)
theorem wd35 : (Cond.instantiable "ClosureRows" 6 : Cond) ∈ wBIG := wbg (i := 35) (by decide +kernel) (by decide +kernel)
theorem wd36 : (Cond.methodLink "ClosureRowsLaw" 64 ⟨"ClosureRows", "<init>", "()V"⟩ : Cond) ∈ wBIG := wbg (i := 36) (by decide +kernel) (by decide +kernel)
theorem wd37 : (Cond.instanceMethod ⟨"ClosureRows", "<init>", "()V"⟩ : Cond) ∈ wBIG := wbg (i := 37) (by decide +kernel) (by decide +kernel)
theorem wd38 : (Cond.code ⟨"ClosureRows", "<init>", "()V"⟩ prog_1_method_1_code 1 none : Cond) ∈ wBIG := wbg (i := 38) (by decide +kernel) (by decide +kernel)
theorem wd39 : (Cond.methodLink "ClosureRows" 3 ⟨"java/lang/Object", "<init>", "()V"⟩ : Cond) ∈ wBIG := wbg (i := 39) (by decide +kernel) (by decide +kernel)
theorem wd40 : (Cond.instanceMethod ⟨"java/lang/Object", "<init>", "()V"⟩ : Cond) ∈ wBIG := wbg (i := 40) (by decide +kernel) (by decide +kernel)
theorem wd42 : (Cond.classLink "ClosureRows" 9 "ClosureRows$Closures" : Cond) ∈ wBIG := wbg (i := 42) (by decide +kernel) (by decide +kernel)
theorem wd43 : (Cond.instantiable "ClosureRows$Closures" 10 : Cond) ∈ wBIG := wbg (i := 43) (by decide +kernel) (by decide +kernel)
theorem wd44 : (Cond.methodLink "ClosureRows" 11 ⟨"ClosureRows$Closures", "<init>", "()V"⟩ : Cond) ∈ wBIG := wbg (i := 44) (by decide +kernel) (by decide +kernel)
theorem wd45 : (Cond.instanceMethod ⟨"ClosureRows$Closures", "<init>", "()V"⟩ : Cond) ∈ wBIG := wbg (i := 45) (by decide +kernel) (by decide +kernel)
theorem wd46 : (Cond.code ⟨"ClosureRows$Closures", "<init>", "()V"⟩ prog_2_method_1_code 1 none : Cond) ∈ wBIG := wbg (i := 46) (by decide +kernel) (by decide +kernel)
theorem wd47 : (Cond.methodLink "ClosureRows$Closures" 3 ⟨"java/lang/Object", "<init>", "()V"⟩ : Cond) ∈ wBIG := wbg (i := 47) (by decide +kernel) (by decide +kernel)
theorem wd48 : (Cond.fieldLink "ClosureRows$Closures" 9 "ClosureRows$Closures" "kinds" "[I" : Cond) ∈ wBIG := wbg (i := 48) (by decide +kernel) (by decide +kernel)
theorem wd49 : (Cond.fieldLink "ClosureRows$Closures" 15 "ClosureRows$Closures" "pieces" "[I" : Cond) ∈ wBIG := wbg (i := 49) (by decide +kernel) (by decide +kernel)
theorem wd50 : (Cond.fieldLink "ClosureRows$Closures" 18 "ClosureRows$Closures" "sides" "[I" : Cond) ∈ wBIG := wbg (i := 50) (by decide +kernel) (by decide +kernel)
theorem wd51 : (Cond.fieldLink "ClosureRows$Closures" 21 "ClosureRows$Closures" "starts" "[I" : Cond) ∈ wBIG := wbg (i := 51) (by decide +kernel) (by decide +kernel)
theorem wd52 : (Cond.fieldLink "ClosureRows$Closures" 24 "ClosureRows$Closures" "ends" "[I" : Cond) ∈ wBIG := wbg (i := 52) (by decide +kernel) (by decide +kernel)
theorem wd53 : (Cond.fieldLink "ClosureRows$Closures" 27 "ClosureRows$Closures" "xs" "[I" : Cond) ∈ wBIG := wbg (i := 53) (by decide +kernel) (by decide +kernel)
theorem wd54 : (Cond.fieldLink "ClosureRows$Closures" 30 "ClosureRows$Closures" "answers" "[I" : Cond) ∈ wBIG := wbg (i := 54) (by decide +kernel) (by decide +kernel)
theorem wd55 : (Cond.fieldLink "ClosureRows$Closures" 33 "ClosureRows$Closures" "words" "[I" : Cond) ∈ wBIG := wbg (i := 55) (by decide +kernel) (by decide +kernel)
theorem wd56 : (Cond.fieldLink "ClosureRows$Closures" 36 "ClosureRows$Closures" "incidents" "[Z" : Cond) ∈ wBIG := wbg (i := 56) (by decide +kernel) (by decide +kernel)
theorem wd57 : (Cond.fieldLink "ClosureRows$Closures" 40 "ClosureRows$Closures" "count" "I" : Cond) ∈ wBIG := wbg (i := 57) (by decide +kernel) (by decide +kernel)
theorem wd79 : (Cond.arrayClass .int : Cond) ∈ wBIG := wbg (i := 79) (by decide +kernel) (by decide +kernel)
theorem wd80 : (Cond.arrayClass .boolean : Cond) ∈ wBIG := wbg (i := 80) (by decide +kernel) (by decide +kernel)
theorem wd81 : (Cond.classLink "ClosureRows" 16 "ClosureRows$Routes" : Cond) ∈ wBIG := wbg (i := 81) (by decide +kernel) (by decide +kernel)
theorem wd82 : (Cond.instantiable "ClosureRows$Routes" 2 : Cond) ∈ wBIG := wbg (i := 82) (by decide +kernel) (by decide +kernel)
theorem wd83 : (Cond.methodLink "ClosureRows" 18 ⟨"ClosureRows$Routes", "<init>", "()V"⟩ : Cond) ∈ wBIG := wbg (i := 83) (by decide +kernel) (by decide +kernel)
theorem wd84 : (Cond.instanceMethod ⟨"ClosureRows$Routes", "<init>", "()V"⟩ : Cond) ∈ wBIG := wbg (i := 84) (by decide +kernel) (by decide +kernel)
theorem wd85 : (Cond.code ⟨"ClosureRows$Routes", "<init>", "()V"⟩ prog_4_method_1_code 1 none : Cond) ∈ wBIG := wbg (i := 85) (by decide +kernel) (by decide +kernel)
theorem wd86 : (Cond.methodLink "ClosureRows$Routes" 3 ⟨"java/lang/Object", "<init>", "()V"⟩ : Cond) ∈ wBIG := wbg (i := 86) (by decide +kernel) (by decide +kernel)
theorem wd87 : (Cond.fieldLink "ClosureRows$Routes" 9 "ClosureRows$Routes" "places" "[I" : Cond) ∈ wBIG := wbg (i := 87) (by decide +kernel) (by decide +kernel)
theorem wd88 : (Cond.fieldLink "ClosureRows$Routes" 15 "ClosureRows$Routes" "lengths" "[I" : Cond) ∈ wBIG := wbg (i := 88) (by decide +kernel) (by decide +kernel)
theorem wd94 : (Cond.classLink "ClosureRows" 23 "ClosureRows$Notices" : Cond) ∈ wBIG := wbg (i := 94) (by decide +kernel) (by decide +kernel)
theorem wd95 : (Cond.instantiable "ClosureRows$Notices" 2 : Cond) ∈ wBIG := wbg (i := 95) (by decide +kernel) (by decide +kernel)
theorem wd96 : (Cond.methodLink "ClosureRows" 25 ⟨"ClosureRows$Notices", "<init>", "()V"⟩ : Cond) ∈ wBIG := wbg (i := 96) (by decide +kernel) (by decide +kernel)
theorem wd97 : (Cond.instanceMethod ⟨"ClosureRows$Notices", "<init>", "()V"⟩ : Cond) ∈ wBIG := wbg (i := 97) (by decide +kernel) (by decide +kernel)
theorem wd98 : (Cond.code ⟨"ClosureRows$Notices", "<init>", "()V"⟩ prog_3_method_1_code 1 none : Cond) ∈ wBIG := wbg (i := 98) (by decide +kernel) (by decide +kernel)
theorem wd99 : (Cond.methodLink "ClosureRows$Notices" 3 ⟨"java/lang/Object", "<init>", "()V"⟩ : Cond) ∈ wBIG := wbg (i := 99) (by decide +kernel) (by decide +kernel)
theorem wd100 : (Cond.fieldLink "ClosureRows$Notices" 9 "ClosureRows$Notices" "row" "[I" : Cond) ∈ wBIG := wbg (i := 100) (by decide +kernel) (by decide +kernel)
theorem wd101 : (Cond.fieldLink "ClosureRows$Notices" 15 "ClosureRows$Notices" "total" "I" : Cond) ∈ wBIG := wbg (i := 101) (by decide +kernel) (by decide +kernel)
theorem wd107 : (Cond.fieldLink "ClosureRows" 12 "ClosureRows" "closures" "LClosureRows$Closures;" : Cond) ∈ wBIG := wbg (i := 107) (by decide +kernel) (by decide +kernel)
theorem wd108 : (Cond.fieldLink "ClosureRows" 19 "ClosureRows" "routes" "LClosureRows$Routes;" : Cond) ∈ wBIG := wbg (i := 108) (by decide +kernel) (by decide +kernel)
theorem wd109 : (Cond.fieldLink "ClosureRows" 26 "ClosureRows" "notices" "LClosureRows$Notices;" : Cond) ∈ wBIG := wbg (i := 109) (by decide +kernel) (by decide +kernel)
theorem wd110 : (Cond.fieldLink "ClosureRows" 30 "ClosureRows" "wasClosed" "[Z" : Cond) ∈ wBIG := wbg (i := 110) (by decide +kernel) (by decide +kernel)
theorem wd111 : (Cond.fieldLink "ClosureRows" 34 "ClosureRows" "nowClosed" "[Z" : Cond) ∈ wBIG := wbg (i := 111) (by decide +kernel) (by decide +kernel)
theorem wd112 : (Cond.fieldLink "ClosureRows" 37 "ClosureRows" "now" "I" : Cond) ∈ wBIG := wbg (i := 112) (by decide +kernel) (by decide +kernel)
theorem wd126 : (Cond.methodLink "ClosureRowsLaw" 97 ⟨"ClosureRows", "clock", "()I"⟩ : Cond) ∈ wBIG := wbg (i := 126) (by decide +kernel) (by decide +kernel)
theorem wd127 : (Cond.instanceMethod ⟨"ClosureRows", "clock", "()I"⟩ : Cond) ∈ wBIG := wbg (i := 127) (by decide +kernel) (by decide +kernel)
theorem wd128 : (Cond.selects "ClosureRows" ⟨"ClosureRows", "clock", "()I"⟩ ⟨"ClosureRows", "clock", "()I"⟩ : Cond) ∈ wBIG := wbg (i := 128) (by decide +kernel) (by decide +kernel)
theorem wd129 : (Cond.code ⟨"ClosureRows", "clock", "()I"⟩ prog_1_method_8_code 1 (some .int) : Cond) ∈ wBIG := wbg (i := 129) (by decide +kernel) (by decide +kernel)
theorem wd130 : (Cond.methodLink "ClosureRowsLaw" 68 ⟨"ClosureRowsLaw", "close", "(LClosureRows;IIIIII[J)I"⟩ : Cond) ∈ wBIG := wbg (i := 130) (by decide +kernel) (by decide +kernel)
theorem wd131 : (Cond.static ⟨"ClosureRowsLaw", "close", "(LClosureRows;IIIIII[J)I"⟩ : Cond) ∈ wBIG := wbg (i := 131) (by decide +kernel) (by decide +kernel)
theorem wd132 : (Cond.codeWith ⟨"ClosureRowsLaw", "close", "(LClosureRows;IIIIII[J)I"⟩ method_3_code 9 (some .int) [(0, 18, 21, 13), (0, 18, 25, 15), (0, 18, 29, 17)] : Cond) ∈ wBIG := wbg (i := 132) (by decide +kernel) (by decide +kernel)
theorem wd133 : (Cond.classLink "ClosureRowsLaw" 13 "java/lang/IllegalArgumentException" : Cond) ∈ wBIG := wbg (i := 133) (by decide +kernel) (by decide +kernel)
theorem wd134 : (Cond.classLink "ClosureRowsLaw" 15 "java/lang/IndexOutOfBoundsException" : Cond) ∈ wBIG := wbg (i := 134) (by decide +kernel) (by decide +kernel)
theorem wd135 : (Cond.classLink "ClosureRowsLaw" 17 "java/lang/UnsupportedOperationException" : Cond) ∈ wBIG := wbg (i := 135) (by decide +kernel) (by decide +kernel)
theorem wd136 : (Cond.methodLink "ClosureRowsLaw" 7 ⟨"ClosureRows", "close", "(IIIIII)I"⟩ : Cond) ∈ wBIG := wbg (i := 136) (by decide +kernel) (by decide +kernel)
theorem wd137 : (Cond.instanceMethod ⟨"ClosureRows", "close", "(IIIIII)I"⟩ : Cond) ∈ wBIG := wbg (i := 137) (by decide +kernel) (by decide +kernel)
theorem wd138 : (Cond.selects "ClosureRows" ⟨"ClosureRows", "close", "(IIIIII)I"⟩ ⟨"ClosureRows", "close", "(IIIIII)I"⟩ : Cond) ∈ wBIG := wbg (i := 138) (by decide +kernel) (by decide +kernel)
theorem wd139 : (Cond.code ⟨"ClosureRows", "close", "(IIIIII)I"⟩ prog_1_method_2_code 8 (some .int) : Cond) ∈ wBIG := wbg (i := 139) (by decide +kernel) (by decide +kernel)
theorem wd140 : (Cond.methodLink "ClosureRows" 41 ⟨"ClosureRows", "needKind", "(II)V"⟩ : Cond) ∈ wBIG := wbg (i := 140) (by decide +kernel) (by decide +kernel)
theorem wd141 : (Cond.static ⟨"ClosureRows", "needKind", "(II)V"⟩ : Cond) ∈ wBIG := wbg (i := 141) (by decide +kernel) (by decide +kernel)
theorem wd142 : (Cond.code ⟨"ClosureRows", "needKind", "(II)V"⟩ prog_1_method_19_code 2 none : Cond) ∈ wBIG := wbg (i := 142) (by decide +kernel) (by decide +kernel)
theorem wd143 : (Cond.classLink "ClosureRows" 119 "java/lang/IllegalArgumentException" : Cond) ∈ wBIG := wbg (i := 143) (by decide +kernel) (by decide +kernel)
theorem wd144 : (Cond.instantiable "java/lang/IllegalArgumentException" 6 : Cond) ∈ wBIG := wbg (i := 144) (by decide +kernel) (by decide +kernel)
theorem wd164 : (Cond.fieldLink "java/lang/Throwable" 198 "java/lang/Throwable" "backtrace" "Ljava/lang/Object;" : Cond) ∈ wBIG := wbg (i := 164) (by decide +kernel) (by decide +kernel)
theorem wd166 : (Cond.instanceMethod ⟨"java/lang/Throwable", "<init>", "()V"⟩ : Cond) ∈ wBIG := wbg (i := 166) (by decide +kernel) (by decide +kernel)
theorem wd168 : (Cond.methodLink "java/lang/Throwable" 1 ⟨"java/lang/Object", "<init>", "()V"⟩ : Cond) ∈ wBIG := wbg (i := 168) (by decide +kernel) (by decide +kernel)
theorem wd169 : (Cond.fieldLink "java/lang/Throwable" 13 "java/lang/Throwable" "UNASSIGNED_STACK" "[Ljava/lang/StackTraceElement;" : Cond) ∈ wBIG := wbg (i := 169) (by decide +kernel) (by decide +kernel)
theorem wd171 : (Cond.fieldLink "java/lang/Throwable" 20 "java/lang/Throwable" "SUPPRESSED_SENTINEL" "Ljava/util/List;" : Cond) ∈ wBIG := wbg (i := 171) (by decide +kernel) (by decide +kernel)
theorem wd173 : (Cond.methodLink "java/lang/Throwable" 27 ⟨"java/lang/Throwable", "fillInStackTrace", "()Ljava/lang/Throwable;"⟩ : Cond) ∈ wBIG := wbg (i := 173) (by decide +kernel) (by decide +kernel)
theorem wd174 : (Cond.instanceMethod ⟨"java/lang/Throwable", "fillInStackTrace", "()Ljava/lang/Throwable;"⟩ : Cond) ∈ wBIG := wbg (i := 174) (by decide +kernel) (by decide +kernel)
theorem wd180 : (Cond.methodLink "java/lang/Throwable" 202 ⟨"java/lang/Throwable", "fillInStackTrace", "(I)Ljava/lang/Throwable;"⟩ : Cond) ∈ wBIG := wbg (i := 180) (by decide +kernel) (by decide +kernel)
theorem wd182 : (Cond.instanceMethod ⟨"java/lang/Throwable", "fillInStackTrace", "(I)Ljava/lang/Throwable;"⟩ : Cond) ∈ wBIG := wbg (i := 182) (by decide +kernel) (by decide +kernel)
theorem wd183 : (Cond.instantiable "java/lang/Throwable" 6 : Cond) ∈ wBIG := wbg (i := 183) (by decide +kernel) (by decide +kernel)
theorem wd186 : (Cond.methodLink "ClosureRows" 123 ⟨"java/lang/IllegalArgumentException", "<init>", "(Ljava/lang/String;)V"⟩ : Cond) ∈ wBIG := wbg (i := 186) (by decide +kernel) (by decide +kernel)
theorem wd187 : (Cond.instanceMethod ⟨"java/lang/IllegalArgumentException", "<init>", "(Ljava/lang/String;)V"⟩ : Cond) ∈ wBIG := wbg (i := 187) (by decide +kernel) (by decide +kernel)
theorem wd189 : (Cond.methodLink "java/lang/IllegalArgumentException" 7 ⟨"java/lang/RuntimeException", "<init>", "(Ljava/lang/String;)V"⟩ : Cond) ∈ wBIG := wbg (i := 189) (by decide +kernel) (by decide +kernel)
theorem wd190 : (Cond.instanceMethod ⟨"java/lang/RuntimeException", "<init>", "(Ljava/lang/String;)V"⟩ : Cond) ∈ wBIG := wbg (i := 190) (by decide +kernel) (by decide +kernel)
theorem wd192 : (Cond.methodLink "java/lang/RuntimeException" 7 ⟨"java/lang/Exception", "<init>", "(Ljava/lang/String;)V"⟩ : Cond) ∈ wBIG := wbg (i := 192) (by decide +kernel) (by decide +kernel)
theorem wd193 : (Cond.instanceMethod ⟨"java/lang/Exception", "<init>", "(Ljava/lang/String;)V"⟩ : Cond) ∈ wBIG := wbg (i := 193) (by decide +kernel) (by decide +kernel)
theorem wd195 : (Cond.methodLink "java/lang/Exception" 7 ⟨"java/lang/Throwable", "<init>", "(Ljava/lang/String;)V"⟩ : Cond) ∈ wBIG := wbg (i := 195) (by decide +kernel) (by decide +kernel)
theorem wd196 : (Cond.instanceMethod ⟨"java/lang/Throwable", "<init>", "(Ljava/lang/String;)V"⟩ : Cond) ∈ wBIG := wbg (i := 196) (by decide +kernel) (by decide +kernel)
theorem wd198 : (Cond.fieldLink "java/lang/Throwable" 198 "java/lang/Throwable" "backtrace" "Ljava/lang/Object;" : Cond) ∈ wBIG := wbg (i := 198) (by decide +kernel) (by decide +kernel)
theorem wd199 : (Cond.fieldLink "java/lang/Throwable" 31 "java/lang/Throwable" "detailMessage" "Ljava/lang/String;" : Cond) ∈ wBIG := wbg (i := 199) (by decide +kernel) (by decide +kernel)
theorem wd200 : (Cond.fieldLink "java/lang/Throwable" 7 "java/lang/Throwable" "cause" "Ljava/lang/Throwable;" : Cond) ∈ wBIG := wbg (i := 200) (by decide +kernel) (by decide +kernel)
theorem wd201 : (Cond.fieldLink "java/lang/Throwable" 17 "java/lang/Throwable" "stackTrace" "[Ljava/lang/StackTraceElement;" : Cond) ∈ wBIG := wbg (i := 201) (by decide +kernel) (by decide +kernel)
theorem wd202 : (Cond.fieldLink "java/lang/Throwable" 24 "java/lang/Throwable" "suppressedExceptions" "Ljava/util/List;" : Cond) ∈ wBIG := wbg (i := 202) (by decide +kernel) (by decide +kernel)
theorem wd211 : (Cond.arrayClass .byte : Cond) ∈ wBIG := wbg (i := 211) (by decide +kernel) (by decide +kernel)
theorem wd212 : (Cond.methodLink "ClosureRows" 116 ⟨"ClosureRows", "isIncident", "(I)Z"⟩ : Cond) ∈ wBIG := wbg (i := 212) (by decide +kernel) (by decide +kernel)
theorem wd213 : (Cond.static ⟨"ClosureRows", "isIncident", "(I)Z"⟩ : Cond) ∈ wBIG := wbg (i := 213) (by decide +kernel) (by decide +kernel)
theorem wd214 : (Cond.code ⟨"ClosureRows", "isIncident", "(I)Z"⟩ prog_1_method_26_code 1 (some .boolean) : Cond) ∈ wBIG := wbg (i := 214) (by decide +kernel) (by decide +kernel)
theorem wd216 : (Cond.methodLink "ClosureRows" 45 ⟨"ClosureRows", "needPiece", "(I)V"⟩ : Cond) ∈ wBIG := wbg (i := 216) (by decide +kernel) (by decide +kernel)
theorem wd217 : (Cond.static ⟨"ClosureRows", "needPiece", "(I)V"⟩ : Cond) ∈ wBIG := wbg (i := 217) (by decide +kernel) (by decide +kernel)
theorem wd218 : (Cond.code ⟨"ClosureRows", "needPiece", "(I)V"⟩ prog_1_method_20_code 1 none : Cond) ∈ wBIG := wbg (i := 218) (by decide +kernel) (by decide +kernel)
theorem wd220 : (Cond.classLink "ClosureRows" 49 "java/lang/IndexOutOfBoundsException" : Cond) ∈ wBIG := wbg (i := 220) (by decide +kernel) (by decide +kernel)
theorem wd221 : (Cond.instantiable "java/lang/IndexOutOfBoundsException" 6 : Cond) ∈ wBIG := wbg (i := 221) (by decide +kernel) (by decide +kernel)
theorem wd230 : (Cond.methodLink "ClosureRows" 53 ⟨"java/lang/IndexOutOfBoundsException", "<init>", "(Ljava/lang/String;)V"⟩ : Cond) ∈ wBIG := wbg (i := 230) (by decide +kernel) (by decide +kernel)
theorem wd231 : (Cond.instanceMethod ⟨"java/lang/IndexOutOfBoundsException", "<init>", "(Ljava/lang/String;)V"⟩ : Cond) ∈ wBIG := wbg (i := 231) (by decide +kernel) (by decide +kernel)
theorem wd233 : (Cond.methodLink "java/lang/IndexOutOfBoundsException" 7 ⟨"java/lang/RuntimeException", "<init>", "(Ljava/lang/String;)V"⟩ : Cond) ∈ wBIG := wbg (i := 233) (by decide +kernel) (by decide +kernel)
theorem wd236 : (Cond.methodLink "ClosureRows" 56 ⟨"ClosureRows", "needMinute", "(I)V"⟩ : Cond) ∈ wBIG := wbg (i := 236) (by decide +kernel) (by decide +kernel)
theorem wd237 : (Cond.static ⟨"ClosureRows", "needMinute", "(I)V"⟩ : Cond) ∈ wBIG := wbg (i := 237) (by decide +kernel) (by decide +kernel)
theorem wd238 : (Cond.code ⟨"ClosureRows", "needMinute", "(I)V"⟩ prog_1_method_23_code 1 none : Cond) ∈ wBIG := wbg (i := 238) (by decide +kernel) (by decide +kernel)
theorem wd239 : (Cond.constant "ClosureRows" 143 99999 : Cond) ∈ wBIG := wbg (i := 239) (by decide +kernel) (by decide +kernel)
theorem wd241 : (Cond.methodLink "ClosureRows" 59 ⟨"ClosureRows", "needEnd", "(III)V"⟩ : Cond) ∈ wBIG := wbg (i := 241) (by decide +kernel) (by decide +kernel)
theorem wd242 : (Cond.static ⟨"ClosureRows", "needEnd", "(III)V"⟩ : Cond) ∈ wBIG := wbg (i := 242) (by decide +kernel) (by decide +kernel)
theorem wd243 : (Cond.code ⟨"ClosureRows", "needEnd", "(III)V"⟩ prog_1_method_24_code 3 none : Cond) ∈ wBIG := wbg (i := 243) (by decide +kernel) (by decide +kernel)
theorem wd244 : (Cond.methodLink "ClosureRows" 75 ⟨"ClosureRows", "hasEnd", "(I)Z"⟩ : Cond) ∈ wBIG := wbg (i := 244) (by decide +kernel) (by decide +kernel)
theorem wd245 : (Cond.static ⟨"ClosureRows", "hasEnd", "(I)Z"⟩ : Cond) ∈ wBIG := wbg (i := 245) (by decide +kernel) (by decide +kernel)
theorem wd246 : (Cond.code ⟨"ClosureRows", "hasEnd", "(I)Z"⟩ prog_1_method_27_code 1 (some .boolean) : Cond) ∈ wBIG := wbg (i := 246) (by decide +kernel) (by decide +kernel)
theorem wd248 : (Cond.methodLink "ClosureRows" 63 ⟨"ClosureRows", "needX", "(II)V"⟩ : Cond) ∈ wBIG := wbg (i := 248) (by decide +kernel) (by decide +kernel)
theorem wd249 : (Cond.static ⟨"ClosureRows", "needX", "(II)V"⟩ : Cond) ∈ wBIG := wbg (i := 249) (by decide +kernel) (by decide +kernel)
theorem wd250 : (Cond.code ⟨"ClosureRows", "needX", "(II)V"⟩ prog_1_method_25_code 2 none : Cond) ∈ wBIG := wbg (i := 250) (by decide +kernel) (by decide +kernel)
theorem wd251 : (Cond.methodLink "ClosureRows" 223 ⟨"ClosureRows", "isTimetable", "(I)Z"⟩ : Cond) ∈ wBIG := wbg (i := 251) (by decide +kernel) (by decide +kernel)
theorem wd252 : (Cond.static ⟨"ClosureRows", "isTimetable", "(I)Z"⟩ : Cond) ∈ wBIG := wbg (i := 252) (by decide +kernel) (by decide +kernel)
theorem wd253 : (Cond.code ⟨"ClosureRows", "isTimetable", "(I)Z"⟩ prog_1_method_28_code 2 (some .boolean) : Cond) ∈ wBIG := wbg (i := 253) (by decide +kernel) (by decide +kernel)
theorem wd254 : (Cond.methodLink "ClosureRows" 230 ⟨"ClosureRows", "periodOf", "(I)I"⟩ : Cond) ∈ wBIG := wbg (i := 254) (by decide +kernel) (by decide +kernel)
theorem wd255 : (Cond.static ⟨"ClosureRows", "periodOf", "(I)I"⟩ : Cond) ∈ wBIG := wbg (i := 255) (by decide +kernel) (by decide +kernel)
theorem wd256 : (Cond.code ⟨"ClosureRows", "periodOf", "(I)I"⟩ prog_1_method_29_code 1 (some .int) : Cond) ∈ wBIG := wbg (i := 256) (by decide +kernel) (by decide +kernel)
theorem wd257 : (Cond.methodLink "ClosureRows" 233 ⟨"ClosureRows", "lengthOf", "(I)I"⟩ : Cond) ∈ wBIG := wbg (i := 257) (by decide +kernel) (by decide +kernel)
theorem wd258 : (Cond.static ⟨"ClosureRows", "lengthOf", "(I)I"⟩ : Cond) ∈ wBIG := wbg (i := 258) (by decide +kernel) (by decide +kernel)
theorem wd259 : (Cond.code ⟨"ClosureRows", "lengthOf", "(I)I"⟩ prog_1_method_30_code 1 (some .int) : Cond) ∈ wBIG := wbg (i := 259) (by decide +kernel) (by decide +kernel)
theorem wd262 : (Cond.methodLink "ClosureRows" 66 ⟨"ClosureRows$Closures", "isFull", "()Z"⟩ : Cond) ∈ wBIG := wbg (i := 262) (by decide +kernel) (by decide +kernel)
theorem wd263 : (Cond.instanceMethod ⟨"ClosureRows$Closures", "isFull", "()Z"⟩ : Cond) ∈ wBIG := wbg (i := 263) (by decide +kernel) (by decide +kernel)
theorem wd264 : (Cond.selects "ClosureRows$Closures" ⟨"ClosureRows$Closures", "isFull", "()Z"⟩ ⟨"ClosureRows$Closures", "isFull", "()Z"⟩ : Cond) ∈ wBIG := wbg (i := 264) (by decide +kernel) (by decide +kernel)
theorem wd265 : (Cond.code ⟨"ClosureRows$Closures", "isFull", "()Z"⟩ prog_2_method_2_code 1 (some .boolean) : Cond) ∈ wBIG := wbg (i := 265) (by decide +kernel) (by decide +kernel)
theorem wd266 : (Cond.classLink "ClosureRows" 70 "java/lang/UnsupportedOperationException" : Cond) ∈ wBIG := wbg (i := 266) (by decide +kernel) (by decide +kernel)
theorem wd267 : (Cond.instantiable "java/lang/UnsupportedOperationException" 6 : Cond) ∈ wBIG := wbg (i := 267) (by decide +kernel) (by decide +kernel)
theorem wd276 : (Cond.methodLink "ClosureRows" 74 ⟨"java/lang/UnsupportedOperationException", "<init>", "(Ljava/lang/String;)V"⟩ : Cond) ∈ wBIG := wbg (i := 276) (by decide +kernel) (by decide +kernel)
theorem wd277 : (Cond.instanceMethod ⟨"java/lang/UnsupportedOperationException", "<init>", "(Ljava/lang/String;)V"⟩ : Cond) ∈ wBIG := wbg (i := 277) (by decide +kernel) (by decide +kernel)
theorem wd279 : (Cond.methodLink "java/lang/UnsupportedOperationException" 7 ⟨"java/lang/RuntimeException", "<init>", "(Ljava/lang/String;)V"⟩ : Cond) ∈ wBIG := wbg (i := 279) (by decide +kernel) (by decide +kernel)
theorem wd282 : (Cond.constant "ClosureRows" 79 100000 : Cond) ∈ wBIG := wbg (i := 282) (by decide +kernel) (by decide +kernel)
theorem wd283 : (Cond.methodLink "ClosureRows" 80 ⟨"ClosureRows$Closures", "add", "(IIIIII)I"⟩ : Cond) ∈ wBIG := wbg (i := 283) (by decide +kernel) (by decide +kernel)
theorem wd284 : (Cond.instanceMethod ⟨"ClosureRows$Closures", "add", "(IIIIII)I"⟩ : Cond) ∈ wBIG := wbg (i := 284) (by decide +kernel) (by decide +kernel)
theorem wd285 : (Cond.selects "ClosureRows$Closures" ⟨"ClosureRows$Closures", "add", "(IIIIII)I"⟩ ⟨"ClosureRows$Closures", "add", "(IIIIII)I"⟩ : Cond) ∈ wBIG := wbg (i := 285) (by decide +kernel) (by decide +kernel)
theorem wd286 : (Cond.code ⟨"ClosureRows$Closures", "add", "(IIIIII)I"⟩ prog_2_method_4_code 8 (some .int) : Cond) ∈ wBIG := wbg (i := 286) (by decide +kernel) (by decide +kernel)
theorem wd287 : (Cond.methodLink "ClosureRows" 84 ⟨"ClosureRows", "tellChanges", "()V"⟩ : Cond) ∈ wBIG := wbg (i := 287) (by decide +kernel) (by decide +kernel)
theorem wd289 : (Cond.instanceMethod ⟨"ClosureRows", "tellChanges", "()V"⟩ : Cond) ∈ wBIG := wbg (i := 289) (by decide +kernel) (by decide +kernel)
theorem wd290 : (Cond.code ⟨"ClosureRows", "tellChanges", "()V"⟩ prog_1_method_16_code 2 none : Cond) ∈ wBIG := wbg (i := 290) (by decide +kernel) (by decide +kernel)
theorem wd291 : (Cond.methodLink "ClosureRows" 190 ⟨"ClosureRows$Closures", "markClosed", "([ZI)V"⟩ : Cond) ∈ wBIG := wbg (i := 291) (by decide +kernel) (by decide +kernel)
theorem wd292 : (Cond.instanceMethod ⟨"ClosureRows$Closures", "markClosed", "([ZI)V"⟩ : Cond) ∈ wBIG := wbg (i := 292) (by decide +kernel) (by decide +kernel)
theorem wd293 : (Cond.selects "ClosureRows$Closures" ⟨"ClosureRows$Closures", "markClosed", "([ZI)V"⟩ ⟨"ClosureRows$Closures", "markClosed", "([ZI)V"⟩ : Cond) ∈ wBIG := wbg (i := 293) (by decide +kernel) (by decide +kernel)
theorem wd294 : (Cond.code ⟨"ClosureRows$Closures", "markClosed", "([ZI)V"⟩ prog_2_method_12_code 4 none : Cond) ∈ wBIG := wbg (i := 294) (by decide +kernel) (by decide +kernel)
theorem wd295 : (Cond.methodLink "ClosureRows$Closures" 48 ⟨"ClosureRows$Closures", "holds", "(II)Z"⟩ : Cond) ∈ wBIG := wbg (i := 295) (by decide +kernel) (by decide +kernel)
theorem wd297 : (Cond.instanceMethod ⟨"ClosureRows$Closures", "holds", "(II)Z"⟩ : Cond) ∈ wBIG := wbg (i := 297) (by decide +kernel) (by decide +kernel)
theorem wd298 : (Cond.code ⟨"ClosureRows$Closures", "holds", "(II)Z"⟩ prog_2_method_23_code 3 (some .boolean) : Cond) ∈ wBIG := wbg (i := 298) (by decide +kernel) (by decide +kernel)
theorem wd299 : (Cond.methodLink "ClosureRows$Closures" 79 ⟨"ClosureRows$Closures", "minuteOfPeriod", "(II)I"⟩ : Cond) ∈ wBIG := wbg (i := 299) (by decide +kernel) (by decide +kernel)
theorem wd301 : (Cond.instanceMethod ⟨"ClosureRows$Closures", "minuteOfPeriod", "(II)I"⟩ : Cond) ∈ wBIG := wbg (i := 301) (by decide +kernel) (by decide +kernel)
theorem wd302 : (Cond.code ⟨"ClosureRows$Closures", "minuteOfPeriod", "(II)I"⟩ prog_2_method_24_code 3 (some .int) : Cond) ∈ wBIG := wbg (i := 302) (by decide +kernel) (by decide +kernel)
theorem wd305 : (Cond.methodLink "ClosureRows$Closures" 52 ⟨"ClosureRows$Closures", "markSides", "([ZI)V"⟩ : Cond) ∈ wBIG := wbg (i := 305) (by decide +kernel) (by decide +kernel)
theorem wd307 : (Cond.instanceMethod ⟨"ClosureRows$Closures", "markSides", "([ZI)V"⟩ : Cond) ∈ wBIG := wbg (i := 307) (by decide +kernel) (by decide +kernel)
theorem wd308 : (Cond.code ⟨"ClosureRows$Closures", "markSides", "([ZI)V"⟩ prog_2_method_13_code 3 none : Cond) ∈ wBIG := wbg (i := 308) (by decide +kernel) (by decide +kernel)
theorem wd310 : (Cond.static ⟨"ClosureRows", "placeOf", "(II)I"⟩ : Cond) ∈ wBIG := wbg (i := 310) (by decide +kernel) (by decide +kernel)
theorem wd311 : (Cond.code ⟨"ClosureRows", "placeOf", "(II)I"⟩ prog_1_method_31_code 2 (some .int) : Cond) ∈ wBIG := wbg (i := 311) (by decide +kernel) (by decide +kernel)
theorem wd312 : (Cond.methodLink "ClosureRows" 194 ⟨"ClosureRows", "tellUnits", "(I)V"⟩ : Cond) ∈ wBIG := wbg (i := 312) (by decide +kernel) (by decide +kernel)
theorem wd314 : (Cond.instanceMethod ⟨"ClosureRows", "tellUnits", "(I)V"⟩ : Cond) ∈ wBIG := wbg (i := 314) (by decide +kernel) (by decide +kernel)
theorem wd315 : (Cond.code ⟨"ClosureRows", "tellUnits", "(I)V"⟩ prog_1_method_17_code 3 none : Cond) ∈ wBIG := wbg (i := 315) (by decide +kernel) (by decide +kernel)
theorem wd316 : (Cond.methodLink "ClosureRows" 197 ⟨"ClosureRows$Routes", "leadsOver", "(II)Z"⟩ : Cond) ∈ wBIG := wbg (i := 316) (by decide +kernel) (by decide +kernel)
theorem wd317 : (Cond.instanceMethod ⟨"ClosureRows$Routes", "leadsOver", "(II)Z"⟩ : Cond) ∈ wBIG := wbg (i := 317) (by decide +kernel) (by decide +kernel)
theorem wd318 : (Cond.selects "ClosureRows$Routes" ⟨"ClosureRows$Routes", "leadsOver", "(II)Z"⟩ ⟨"ClosureRows$Routes", "leadsOver", "(II)Z"⟩ : Cond) ∈ wBIG := wbg (i := 318) (by decide +kernel) (by decide +kernel)
theorem wd319 : (Cond.code ⟨"ClosureRows$Routes", "leadsOver", "(II)Z"⟩ prog_4_method_7_code 4 (some .boolean) : Cond) ∈ wBIG := wbg (i := 319) (by decide +kernel) (by decide +kernel)
theorem wd320 : (Cond.methodLink "ClosureRows$Routes" 18 ⟨"ClosureRows$Routes", "stepOf", "(II)I"⟩ : Cond) ∈ wBIG := wbg (i := 320) (by decide +kernel) (by decide +kernel)
theorem wd321 : (Cond.instanceMethod ⟨"ClosureRows$Routes", "stepOf", "(II)I"⟩ : Cond) ∈ wBIG := wbg (i := 321) (by decide +kernel) (by decide +kernel)
theorem wd322 : (Cond.selects "ClosureRows$Routes" ⟨"ClosureRows$Routes", "stepOf", "(II)I"⟩ ⟨"ClosureRows$Routes", "stepOf", "(II)I"⟩ : Cond) ∈ wBIG := wbg (i := 322) (by decide +kernel) (by decide +kernel)
theorem wd323 : (Cond.code ⟨"ClosureRows$Routes", "stepOf", "(II)I"⟩ prog_4_method_6_code 3 (some .int) : Cond) ∈ wBIG := wbg (i := 323) (by decide +kernel) (by decide +kernel)
theorem wd324 : (Cond.methodLink "ClosureRows" 200 ⟨"ClosureRows$Notices", "add", "(IIZI)V"⟩ : Cond) ∈ wBIG := wbg (i := 324) (by decide +kernel) (by decide +kernel)
theorem wd325 : (Cond.instanceMethod ⟨"ClosureRows$Notices", "add", "(IIZI)V"⟩ : Cond) ∈ wBIG := wbg (i := 325) (by decide +kernel) (by decide +kernel)
theorem wd326 : (Cond.selects "ClosureRows$Notices" ⟨"ClosureRows$Notices", "add", "(IIZI)V"⟩ ⟨"ClosureRows$Notices", "add", "(IIZI)V"⟩ : Cond) ∈ wBIG := wbg (i := 326) (by decide +kernel) (by decide +kernel)
theorem wd327 : (Cond.code ⟨"ClosureRows$Notices", "add", "(IIZI)V"⟩ prog_3_method_5_code 6 none : Cond) ∈ wBIG := wbg (i := 327) (by decide +kernel) (by decide +kernel)
theorem wd328 : (Cond.methodLink "ClosureRows$Notices" 19 ⟨"ClosureRows$Notices", "firstOf", "(I)I"⟩ : Cond) ∈ wBIG := wbg (i := 328) (by decide +kernel) (by decide +kernel)
theorem wd329 : (Cond.static ⟨"ClosureRows$Notices", "firstOf", "(I)I"⟩ : Cond) ∈ wBIG := wbg (i := 329) (by decide +kernel) (by decide +kernel)
theorem wd330 : (Cond.code ⟨"ClosureRows$Notices", "firstOf", "(I)I"⟩ prog_3_method_6_code 1 (some .int) : Cond) ∈ wBIG := wbg (i := 330) (by decide +kernel) (by decide +kernel)
theorem wd331 : (Cond.methodLink "ClosureRows$Notices" 29 ⟨"java/lang/Math", "floorMod", "(II)I"⟩ : Cond) ∈ wBIG := wbg (i := 331) (by decide +kernel) (by decide +kernel)
theorem wd332 : (Cond.static ⟨"java/lang/Math", "floorMod", "(II)I"⟩ : Cond) ∈ wBIG := wbg (i := 332) (by decide +kernel) (by decide +kernel)
theorem wd333 : (Cond.code ⟨"java/lang/Math", "floorMod", "(II)I"⟩ prog_11_method_50_code 3 (some .int) : Cond) ∈ wBIG := wbg (i := 333) (by decide +kernel) (by decide +kernel)
theorem wd335 : (Cond.static ⟨"ClosureRows", "pieceOf", "(I)I"⟩ : Cond) ∈ wBIG := wbg (i := 335) (by decide +kernel) (by decide +kernel)
theorem wd336 : (Cond.code ⟨"ClosureRows", "pieceOf", "(I)I"⟩ prog_1_method_32_code 1 (some .int) : Cond) ∈ wBIG := wbg (i := 336) (by decide +kernel) (by decide +kernel)
theorem wd338 : (Cond.static ⟨"ClosureRows", "sideOf", "(I)I"⟩ : Cond) ∈ wBIG := wbg (i := 338) (by decide +kernel) (by decide +kernel)
theorem wd339 : (Cond.code ⟨"ClosureRows", "sideOf", "(I)I"⟩ prog_1_method_33_code 1 (some .int) : Cond) ∈ wBIG := wbg (i := 339) (by decide +kernel) (by decide +kernel)
theorem wd340 : (Cond.methodLink "ClosureRowsLaw" 78 ⟨"ClosureRowsLaw", "answer", "(LClosureRows;IZ)I"⟩ : Cond) ∈ wBIG := wbg (i := 340) (by decide +kernel) (by decide +kernel)
theorem wd341 : (Cond.static ⟨"ClosureRowsLaw", "answer", "(LClosureRows;IZ)I"⟩ : Cond) ∈ wBIG := wbg (i := 341) (by decide +kernel) (by decide +kernel)
theorem wd342 : (Cond.codeWith ⟨"ClosureRowsLaw", "answer", "(LClosureRows;IZ)I"⟩ method_4_code 4 (some .int) [(0, 6, 9, 13), (0, 6, 12, 23)] : Cond) ∈ wBIG := wbg (i := 342) (by decide +kernel) (by decide +kernel)
theorem wd343 : (Cond.classLink "ClosureRowsLaw" 23 "java/lang/IllegalStateException" : Cond) ∈ wBIG := wbg (i := 343) (by decide +kernel) (by decide +kernel)
theorem wd344 : (Cond.methodLink "ClosureRowsLaw" 19 ⟨"ClosureRows", "answer", "(IZ)V"⟩ : Cond) ∈ wBIG := wbg (i := 344) (by decide +kernel) (by decide +kernel)
theorem wd345 : (Cond.instanceMethod ⟨"ClosureRows", "answer", "(IZ)V"⟩ : Cond) ∈ wBIG := wbg (i := 345) (by decide +kernel) (by decide +kernel)
theorem wd346 : (Cond.selects "ClosureRows" ⟨"ClosureRows", "answer", "(IZ)V"⟩ ⟨"ClosureRows", "answer", "(IZ)V"⟩ : Cond) ∈ wBIG := wbg (i := 346) (by decide +kernel) (by decide +kernel)
theorem wd347 : (Cond.code ⟨"ClosureRows", "answer", "(IZ)V"⟩ prog_1_method_3_code 3 none : Cond) ∈ wBIG := wbg (i := 347) (by decide +kernel) (by decide +kernel)
theorem wd348 : (Cond.methodLink "ClosureRows" 87 ⟨"ClosureRows", "needClosure", "(I)V"⟩ : Cond) ∈ wBIG := wbg (i := 348) (by decide +kernel) (by decide +kernel)
theorem wd350 : (Cond.instanceMethod ⟨"ClosureRows", "needClosure", "(I)V"⟩ : Cond) ∈ wBIG := wbg (i := 350) (by decide +kernel) (by decide +kernel)
theorem wd351 : (Cond.code ⟨"ClosureRows", "needClosure", "(I)V"⟩ prog_1_method_18_code 2 none : Cond) ∈ wBIG := wbg (i := 351) (by decide +kernel) (by decide +kernel)
theorem wd352 : (Cond.methodLink "ClosureRows" 203 ⟨"ClosureRows$Closures", "has", "(I)Z"⟩ : Cond) ∈ wBIG := wbg (i := 352) (by decide +kernel) (by decide +kernel)
theorem wd353 : (Cond.instanceMethod ⟨"ClosureRows$Closures", "has", "(I)Z"⟩ : Cond) ∈ wBIG := wbg (i := 353) (by decide +kernel) (by decide +kernel)
theorem wd354 : (Cond.selects "ClosureRows$Closures" ⟨"ClosureRows$Closures", "has", "(I)Z"⟩ ⟨"ClosureRows$Closures", "has", "(I)Z"⟩ : Cond) ∈ wBIG := wbg (i := 354) (by decide +kernel) (by decide +kernel)
theorem wd355 : (Cond.code ⟨"ClosureRows$Closures", "has", "(I)Z"⟩ prog_2_method_3_code 2 (some .boolean) : Cond) ∈ wBIG := wbg (i := 355) (by decide +kernel) (by decide +kernel)
theorem wd357 : (Cond.methodLink "ClosureRows" 90 ⟨"ClosureRows$Closures", "awaitsAnswer", "(I)Z"⟩ : Cond) ∈ wBIG := wbg (i := 357) (by decide +kernel) (by decide +kernel)
theorem wd358 : (Cond.instanceMethod ⟨"ClosureRows$Closures", "awaitsAnswer", "(I)Z"⟩ : Cond) ∈ wBIG := wbg (i := 358) (by decide +kernel) (by decide +kernel)
theorem wd359 : (Cond.selects "ClosureRows$Closures" ⟨"ClosureRows$Closures", "awaitsAnswer", "(I)Z"⟩ ⟨"ClosureRows$Closures", "awaitsAnswer", "(I)Z"⟩ : Cond) ∈ wBIG := wbg (i := 359) (by decide +kernel) (by decide +kernel)
theorem wd360 : (Cond.code ⟨"ClosureRows$Closures", "awaitsAnswer", "(I)Z"⟩ prog_2_method_5_code 2 (some .boolean) : Cond) ∈ wBIG := wbg (i := 360) (by decide +kernel) (by decide +kernel)
theorem wd361 : (Cond.classLink "ClosureRows" 93 "java/lang/IllegalStateException" : Cond) ∈ wBIG := wbg (i := 361) (by decide +kernel) (by decide +kernel)
theorem wd362 : (Cond.instantiable "java/lang/IllegalStateException" 6 : Cond) ∈ wBIG := wbg (i := 362) (by decide +kernel) (by decide +kernel)
theorem wd371 : (Cond.methodLink "ClosureRows" 97 ⟨"java/lang/IllegalStateException", "<init>", "(Ljava/lang/String;)V"⟩ : Cond) ∈ wBIG := wbg (i := 371) (by decide +kernel) (by decide +kernel)
theorem wd372 : (Cond.instanceMethod ⟨"java/lang/IllegalStateException", "<init>", "(Ljava/lang/String;)V"⟩ : Cond) ∈ wBIG := wbg (i := 372) (by decide +kernel) (by decide +kernel)
theorem wd374 : (Cond.methodLink "java/lang/IllegalStateException" 7 ⟨"java/lang/RuntimeException", "<init>", "(Ljava/lang/String;)V"⟩ : Cond) ∈ wBIG := wbg (i := 374) (by decide +kernel) (by decide +kernel)
theorem wd377 : (Cond.methodLink "ClosureRows" 98 ⟨"ClosureRows$Closures", "setAnswer", "(IZ)V"⟩ : Cond) ∈ wBIG := wbg (i := 377) (by decide +kernel) (by decide +kernel)
theorem wd378 : (Cond.instanceMethod ⟨"ClosureRows$Closures", "setAnswer", "(IZ)V"⟩ : Cond) ∈ wBIG := wbg (i := 378) (by decide +kernel) (by decide +kernel)
theorem wd379 : (Cond.selects "ClosureRows$Closures" ⟨"ClosureRows$Closures", "setAnswer", "(IZ)V"⟩ ⟨"ClosureRows$Closures", "setAnswer", "(IZ)V"⟩ : Cond) ∈ wBIG := wbg (i := 379) (by decide +kernel) (by decide +kernel)
theorem wd380 : (Cond.code ⟨"ClosureRows$Closures", "setAnswer", "(IZ)V"⟩ prog_2_method_6_code 3 none : Cond) ∈ wBIG := wbg (i := 380) (by decide +kernel) (by decide +kernel)
theorem wd381 : (Cond.methodLink "ClosureRowsLaw" 82 ⟨"ClosureRowsLaw", "lift", "(LClosureRows;II[J)I"⟩ : Cond) ∈ wBIG := wbg (i := 381) (by decide +kernel) (by decide +kernel)
theorem wd382 : (Cond.static ⟨"ClosureRowsLaw", "lift", "(LClosureRows;II[J)I"⟩ : Cond) ∈ wBIG := wbg (i := 382) (by decide +kernel) (by decide +kernel)
theorem wd383 : (Cond.codeWith ⟨"ClosureRowsLaw", "lift", "(LClosureRows;II[J)I"⟩ method_5_code 5 (some .int) [(0, 17, 20, 13), (0, 17, 24, 15), (0, 17, 28, 23)] : Cond) ∈ wBIG := wbg (i := 383) (by decide +kernel) (by decide +kernel)
theorem wd384 : (Cond.methodLink "ClosureRowsLaw" 25 ⟨"ClosureRows", "lift", "(II)Z"⟩ : Cond) ∈ wBIG := wbg (i := 384) (by decide +kernel) (by decide +kernel)
theorem wd385 : (Cond.instanceMethod ⟨"ClosureRows", "lift", "(II)Z"⟩ : Cond) ∈ wBIG := wbg (i := 385) (by decide +kernel) (by decide +kernel)
theorem wd386 : (Cond.selects "ClosureRows" ⟨"ClosureRows", "lift", "(II)Z"⟩ ⟨"ClosureRows", "lift", "(II)Z"⟩ : Cond) ∈ wBIG := wbg (i := 386) (by decide +kernel) (by decide +kernel)
theorem wd387 : (Cond.code ⟨"ClosureRows", "lift", "(II)Z"⟩ prog_1_method_4_code 3 (some .boolean) : Cond) ∈ wBIG := wbg (i := 387) (by decide +kernel) (by decide +kernel)
theorem wd389 : (Cond.methodLink "ClosureRows" 104 ⟨"ClosureRows$Closures", "canBeLifted", "(II)Z"⟩ : Cond) ∈ wBIG := wbg (i := 389) (by decide +kernel) (by decide +kernel)
theorem wd390 : (Cond.instanceMethod ⟨"ClosureRows$Closures", "canBeLifted", "(II)Z"⟩ : Cond) ∈ wBIG := wbg (i := 390) (by decide +kernel) (by decide +kernel)
theorem wd391 : (Cond.selects "ClosureRows$Closures" ⟨"ClosureRows$Closures", "canBeLifted", "(II)Z"⟩ ⟨"ClosureRows$Closures", "canBeLifted", "(II)Z"⟩ : Cond) ∈ wBIG := wbg (i := 391) (by decide +kernel) (by decide +kernel)
theorem wd392 : (Cond.code ⟨"ClosureRows$Closures", "canBeLifted", "(II)Z"⟩ prog_2_method_8_code 3 (some .boolean) : Cond) ∈ wBIG := wbg (i := 392) (by decide +kernel) (by decide +kernel)
theorem wd394 : (Cond.methodLink "ClosureRows" 110 ⟨"ClosureRows$Closures", "giveWord", "(II)Z"⟩ : Cond) ∈ wBIG := wbg (i := 394) (by decide +kernel) (by decide +kernel)
theorem wd395 : (Cond.instanceMethod ⟨"ClosureRows$Closures", "giveWord", "(II)Z"⟩ : Cond) ∈ wBIG := wbg (i := 395) (by decide +kernel) (by decide +kernel)
theorem wd396 : (Cond.selects "ClosureRows$Closures" ⟨"ClosureRows$Closures", "giveWord", "(II)Z"⟩ ⟨"ClosureRows$Closures", "giveWord", "(II)Z"⟩ : Cond) ∈ wBIG := wbg (i := 396) (by decide +kernel) (by decide +kernel)
theorem wd397 : (Cond.code ⟨"ClosureRows$Closures", "giveWord", "(II)Z"⟩ prog_2_method_9_code 3 (some .boolean) : Cond) ∈ wBIG := wbg (i := 397) (by decide +kernel) (by decide +kernel)
theorem wd398 : (Cond.methodLink "ClosureRows" 113 ⟨"ClosureRows$Closures", "endAt", "(II)V"⟩ : Cond) ∈ wBIG := wbg (i := 398) (by decide +kernel) (by decide +kernel)
theorem wd399 : (Cond.instanceMethod ⟨"ClosureRows$Closures", "endAt", "(II)V"⟩ : Cond) ∈ wBIG := wbg (i := 399) (by decide +kernel) (by decide +kernel)
theorem wd400 : (Cond.selects "ClosureRows$Closures" ⟨"ClosureRows$Closures", "endAt", "(II)V"⟩ ⟨"ClosureRows$Closures", "endAt", "(II)V"⟩ : Cond) ∈ wBIG := wbg (i := 400) (by decide +kernel) (by decide +kernel)
theorem wd401 : (Cond.code ⟨"ClosureRows$Closures", "endAt", "(II)V"⟩ prog_2_method_10_code 3 none : Cond) ∈ wBIG := wbg (i := 401) (by decide +kernel) (by decide +kernel)
theorem wd402 : (Cond.methodLink "ClosureRowsLaw" 86 ⟨"ClosureRowsLaw", "incident", "(LClosureRows;IZ)I"⟩ : Cond) ∈ wBIG := wbg (i := 402) (by decide +kernel) (by decide +kernel)
theorem wd403 : (Cond.static ⟨"ClosureRowsLaw", "incident", "(LClosureRows;IZ)I"⟩ : Cond) ∈ wBIG := wbg (i := 403) (by decide +kernel) (by decide +kernel)
theorem wd404 : (Cond.codeWith ⟨"ClosureRowsLaw", "incident", "(LClosureRows;IZ)I"⟩ method_6_code 4 (some .int) [(0, 6, 9, 13)] : Cond) ∈ wBIG := wbg (i := 404) (by decide +kernel) (by decide +kernel)
theorem wd405 : (Cond.methodLink "ClosureRowsLaw" 29 ⟨"ClosureRows", "incident", "(IZ)V"⟩ : Cond) ∈ wBIG := wbg (i := 405) (by decide +kernel) (by decide +kernel)
theorem wd406 : (Cond.instanceMethod ⟨"ClosureRows", "incident", "(IZ)V"⟩ : Cond) ∈ wBIG := wbg (i := 406) (by decide +kernel) (by decide +kernel)
theorem wd407 : (Cond.selects "ClosureRows" ⟨"ClosureRows", "incident", "(IZ)V"⟩ ⟨"ClosureRows", "incident", "(IZ)V"⟩ : Cond) ∈ wBIG := wbg (i := 407) (by decide +kernel) (by decide +kernel)
theorem wd408 : (Cond.code ⟨"ClosureRows", "incident", "(IZ)V"⟩ prog_1_method_5_code 3 none : Cond) ∈ wBIG := wbg (i := 408) (by decide +kernel) (by decide +kernel)
theorem wd409 : (Cond.methodLink "ClosureRows" 124 ⟨"ClosureRows$Closures", "setIncident", "(IZ)V"⟩ : Cond) ∈ wBIG := wbg (i := 409) (by decide +kernel) (by decide +kernel)
theorem wd410 : (Cond.instanceMethod ⟨"ClosureRows$Closures", "setIncident", "(IZ)V"⟩ : Cond) ∈ wBIG := wbg (i := 410) (by decide +kernel) (by decide +kernel)
theorem wd411 : (Cond.selects "ClosureRows$Closures" ⟨"ClosureRows$Closures", "setIncident", "(IZ)V"⟩ ⟨"ClosureRows$Closures", "setIncident", "(IZ)V"⟩ : Cond) ∈ wBIG := wbg (i := 411) (by decide +kernel) (by decide +kernel)
theorem wd412 : (Cond.code ⟨"ClosureRows$Closures", "setIncident", "(IZ)V"⟩ prog_2_method_7_code 3 none : Cond) ∈ wBIG := wbg (i := 412) (by decide +kernel) (by decide +kernel)
theorem wd413 : (Cond.methodLink "ClosureRowsLaw" 89 ⟨"ClosureRowsLaw", "step", "(LClosureRows;III[J)I"⟩ : Cond) ∈ wBIG := wbg (i := 413) (by decide +kernel) (by decide +kernel)
theorem wd414 : (Cond.static ⟨"ClosureRowsLaw", "step", "(LClosureRows;III[J)I"⟩ : Cond) ∈ wBIG := wbg (i := 414) (by decide +kernel) (by decide +kernel)
theorem wd415 : (Cond.codeWith ⟨"ClosureRowsLaw", "step", "(LClosureRows;III[J)I"⟩ method_7_code 6 (some .int) [(0, 12, 15, 13), (0, 12, 19, 15), (0, 12, 23, 17)] : Cond) ∈ wBIG := wbg (i := 415) (by decide +kernel) (by decide +kernel)
theorem wd416 : (Cond.methodLink "ClosureRowsLaw" 32 ⟨"ClosureRows", "step", "(III)I"⟩ : Cond) ∈ wBIG := wbg (i := 416) (by decide +kernel) (by decide +kernel)
theorem wd417 : (Cond.instanceMethod ⟨"ClosureRows", "step", "(III)I"⟩ : Cond) ∈ wBIG := wbg (i := 417) (by decide +kernel) (by decide +kernel)
theorem wd418 : (Cond.selects "ClosureRows" ⟨"ClosureRows", "step", "(III)I"⟩ ⟨"ClosureRows", "step", "(III)I"⟩ : Cond) ∈ wBIG := wbg (i := 418) (by decide +kernel) (by decide +kernel)
theorem wd419 : (Cond.code ⟨"ClosureRows", "step", "(III)I"⟩ prog_1_method_6_code 5 (some .int) : Cond) ∈ wBIG := wbg (i := 419) (by decide +kernel) (by decide +kernel)
theorem wd420 : (Cond.methodLink "ClosureRows" 127 ⟨"ClosureRows", "needUnit", "(I)V"⟩ : Cond) ∈ wBIG := wbg (i := 420) (by decide +kernel) (by decide +kernel)
theorem wd421 : (Cond.static ⟨"ClosureRows", "needUnit", "(I)V"⟩ : Cond) ∈ wBIG := wbg (i := 421) (by decide +kernel) (by decide +kernel)
theorem wd422 : (Cond.code ⟨"ClosureRows", "needUnit", "(I)V"⟩ prog_1_method_22_code 1 none : Cond) ∈ wBIG := wbg (i := 422) (by decide +kernel) (by decide +kernel)
theorem wd424 : (Cond.methodLink "ClosureRows" 130 ⟨"ClosureRows$Routes", "empty", "(I)V"⟩ : Cond) ∈ wBIG := wbg (i := 424) (by decide +kernel) (by decide +kernel)
theorem wd425 : (Cond.instanceMethod ⟨"ClosureRows$Routes", "empty", "(I)V"⟩ : Cond) ∈ wBIG := wbg (i := 425) (by decide +kernel) (by decide +kernel)
theorem wd426 : (Cond.selects "ClosureRows$Routes" ⟨"ClosureRows$Routes", "empty", "(I)V"⟩ ⟨"ClosureRows$Routes", "empty", "(I)V"⟩ : Cond) ∈ wBIG := wbg (i := 426) (by decide +kernel) (by decide +kernel)
theorem wd427 : (Cond.code ⟨"ClosureRows$Routes", "empty", "(I)V"⟩ prog_4_method_2_code 2 none : Cond) ∈ wBIG := wbg (i := 427) (by decide +kernel) (by decide +kernel)
theorem wd428 : (Cond.methodLink "ClosureRows" 133 ⟨"ClosureRows", "needPlace", "(II)I"⟩ : Cond) ∈ wBIG := wbg (i := 428) (by decide +kernel) (by decide +kernel)
theorem wd429 : (Cond.static ⟨"ClosureRows", "needPlace", "(II)I"⟩ : Cond) ∈ wBIG := wbg (i := 429) (by decide +kernel) (by decide +kernel)
theorem wd430 : (Cond.code ⟨"ClosureRows", "needPlace", "(II)I"⟩ prog_1_method_21_code 2 (some .int) : Cond) ∈ wBIG := wbg (i := 430) (by decide +kernel) (by decide +kernel)
theorem wd432 : (Cond.methodLink "ClosureRows" 214 ⟨"ClosureRows", "placeOf", "(II)I"⟩ : Cond) ∈ wBIG := wbg (i := 432) (by decide +kernel) (by decide +kernel)
theorem wd433 : (Cond.methodLink "ClosureRows" 137 ⟨"ClosureRows$Routes", "isFull", "(I)Z"⟩ : Cond) ∈ wBIG := wbg (i := 433) (by decide +kernel) (by decide +kernel)
theorem wd434 : (Cond.instanceMethod ⟨"ClosureRows$Routes", "isFull", "(I)Z"⟩ : Cond) ∈ wBIG := wbg (i := 434) (by decide +kernel) (by decide +kernel)
theorem wd435 : (Cond.selects "ClosureRows$Routes" ⟨"ClosureRows$Routes", "isFull", "(I)Z"⟩ ⟨"ClosureRows$Routes", "isFull", "(I)Z"⟩ : Cond) ∈ wBIG := wbg (i := 435) (by decide +kernel) (by decide +kernel)
theorem wd436 : (Cond.code ⟨"ClosureRows$Routes", "isFull", "(I)Z"⟩ prog_4_method_3_code 2 (some .boolean) : Cond) ∈ wBIG := wbg (i := 436) (by decide +kernel) (by decide +kernel)
theorem wd438 : (Cond.methodLink "ClosureRows" 141 ⟨"ClosureRows$Routes", "add", "(II)I"⟩ : Cond) ∈ wBIG := wbg (i := 438) (by decide +kernel) (by decide +kernel)
theorem wd439 : (Cond.instanceMethod ⟨"ClosureRows$Routes", "add", "(II)I"⟩ : Cond) ∈ wBIG := wbg (i := 439) (by decide +kernel) (by decide +kernel)
theorem wd440 : (Cond.selects "ClosureRows$Routes" ⟨"ClosureRows$Routes", "add", "(II)I"⟩ ⟨"ClosureRows$Routes", "add", "(II)I"⟩ : Cond) ∈ wBIG := wbg (i := 440) (by decide +kernel) (by decide +kernel)
theorem wd441 : (Cond.code ⟨"ClosureRows$Routes", "add", "(II)I"⟩ prog_4_method_4_code 3 (some .int) : Cond) ∈ wBIG := wbg (i := 441) (by decide +kernel) (by decide +kernel)
theorem wd442 : (Cond.methodLink "ClosureRowsLaw" 93 ⟨"ClosureRowsLaw", "tick", "(LClosureRows;I[J)I"⟩ : Cond) ∈ wBIG := wbg (i := 442) (by decide +kernel) (by decide +kernel)
theorem wd443 : (Cond.static ⟨"ClosureRowsLaw", "tick", "(LClosureRows;I[J)I"⟩ : Cond) ∈ wBIG := wbg (i := 443) (by decide +kernel) (by decide +kernel)
theorem wd444 : (Cond.codeWith ⟨"ClosureRowsLaw", "tick", "(LClosureRows;I[J)I"⟩ method_8_code 4 (some .int) [(0, 9, 12, 15)] : Cond) ∈ wBIG := wbg (i := 444) (by decide +kernel) (by decide +kernel)
theorem wd445 : (Cond.methodLink "ClosureRowsLaw" 36 ⟨"ClosureRows", "tick", "(I)I"⟩ : Cond) ∈ wBIG := wbg (i := 445) (by decide +kernel) (by decide +kernel)
theorem wd446 : (Cond.instanceMethod ⟨"ClosureRows", "tick", "(I)I"⟩ : Cond) ∈ wBIG := wbg (i := 446) (by decide +kernel) (by decide +kernel)
theorem wd447 : (Cond.selects "ClosureRows" ⟨"ClosureRows", "tick", "(I)I"⟩ ⟨"ClosureRows", "tick", "(I)I"⟩ : Cond) ∈ wBIG := wbg (i := 447) (by decide +kernel) (by decide +kernel)
theorem wd448 : (Cond.code ⟨"ClosureRows", "tick", "(I)I"⟩ prog_1_method_7_code 5 (some .int) : Cond) ∈ wBIG := wbg (i := 448) (by decide +kernel) (by decide +kernel)
theorem wd450 : (Cond.methodLink "ClosureRows" 146 ⟨"ClosureRows$Notices", "total", "()I"⟩ : Cond) ∈ wBIG := wbg (i := 450) (by decide +kernel) (by decide +kernel)
theorem wd451 : (Cond.instanceMethod ⟨"ClosureRows$Notices", "total", "()I"⟩ : Cond) ∈ wBIG := wbg (i := 451) (by decide +kernel) (by decide +kernel)
theorem wd452 : (Cond.selects "ClosureRows$Notices" ⟨"ClosureRows$Notices", "total", "()I"⟩ ⟨"ClosureRows$Notices", "total", "()I"⟩ : Cond) ∈ wBIG := wbg (i := 452) (by decide +kernel) (by decide +kernel)
theorem wd453 : (Cond.code ⟨"ClosureRows$Notices", "total", "()I"⟩ prog_3_method_2_code 1 (some .int) : Cond) ∈ wBIG := wbg (i := 453) (by decide +kernel) (by decide +kernel)
theorem wd454 : (Cond.methodLink "ClosureRows" 150 ⟨"ClosureRows$Closures", "nextChange", "(I)I"⟩ : Cond) ∈ wBIG := wbg (i := 454) (by decide +kernel) (by decide +kernel)
theorem wd455 : (Cond.instanceMethod ⟨"ClosureRows$Closures", "nextChange", "(I)I"⟩ : Cond) ∈ wBIG := wbg (i := 455) (by decide +kernel) (by decide +kernel)
theorem wd456 : (Cond.selects "ClosureRows$Closures" ⟨"ClosureRows$Closures", "nextChange", "(I)I"⟩ ⟨"ClosureRows$Closures", "nextChange", "(I)I"⟩ : Cond) ∈ wBIG := wbg (i := 456) (by decide +kernel) (by decide +kernel)
theorem wd457 : (Cond.code ⟨"ClosureRows$Closures", "nextChange", "(I)I"⟩ prog_2_method_18_code 4 (some .int) : Cond) ∈ wBIG := wbg (i := 457) (by decide +kernel) (by decide +kernel)
theorem wd458 : (Cond.constant "ClosureRows$Closures" 72 100000 : Cond) ∈ wBIG := wbg (i := 458) (by decide +kernel) (by decide +kernel)
theorem wd459 : (Cond.methodLink "ClosureRows$Closures" 73 ⟨"ClosureRows$Closures", "changeOf", "(II)I"⟩ : Cond) ∈ wBIG := wbg (i := 459) (by decide +kernel) (by decide +kernel)
theorem wd461 : (Cond.instanceMethod ⟨"ClosureRows$Closures", "changeOf", "(II)I"⟩ : Cond) ∈ wBIG := wbg (i := 461) (by decide +kernel) (by decide +kernel)
theorem wd462 : (Cond.code ⟨"ClosureRows$Closures", "changeOf", "(II)I"⟩ prog_2_method_20_code 6 (some .int) : Cond) ∈ wBIG := wbg (i := 462) (by decide +kernel) (by decide +kernel)
theorem wd463 : (Cond.methodLink "ClosureRows$Closures" 60 ⟨"java/lang/Math", "min", "(II)I"⟩ : Cond) ∈ wBIG := wbg (i := 463) (by decide +kernel) (by decide +kernel)
theorem wd464 : (Cond.static ⟨"java/lang/Math", "min", "(II)I"⟩ : Cond) ∈ wBIG := wbg (i := 464) (by decide +kernel) (by decide +kernel)
theorem wd465 : (Cond.code ⟨"java/lang/Math", "min", "(II)I"⟩ prog_11_method_69_code 2 (some .int) : Cond) ∈ wBIG := wbg (i := 465) (by decide +kernel) (by decide +kernel)
theorem wd466 : (Cond.methodLink "ClosureRowsLaw" 101 ⟨"ClosureRowsLaw", "closed", "(LClosureRows;III[J)I"⟩ : Cond) ∈ wBIG := wbg (i := 466) (by decide +kernel) (by decide +kernel)
theorem wd467 : (Cond.static ⟨"ClosureRowsLaw", "closed", "(LClosureRows;III[J)I"⟩ : Cond) ∈ wBIG := wbg (i := 467) (by decide +kernel) (by decide +kernel)
theorem wd468 : (Cond.codeWith ⟨"ClosureRowsLaw", "closed", "(LClosureRows;III[J)I"⟩ method_9_code 6 (some .int) [(0, 19, 22, 13), (0, 19, 26, 15)] : Cond) ∈ wBIG := wbg (i := 468) (by decide +kernel) (by decide +kernel)
theorem wd469 : (Cond.methodLink "ClosureRowsLaw" 40 ⟨"ClosureRows", "closed", "(III)Z"⟩ : Cond) ∈ wBIG := wbg (i := 469) (by decide +kernel) (by decide +kernel)
theorem wd470 : (Cond.instanceMethod ⟨"ClosureRows", "closed", "(III)Z"⟩ : Cond) ∈ wBIG := wbg (i := 470) (by decide +kernel) (by decide +kernel)
theorem wd471 : (Cond.selects "ClosureRows" ⟨"ClosureRows", "closed", "(III)Z"⟩ ⟨"ClosureRows", "closed", "(III)Z"⟩ : Cond) ∈ wBIG := wbg (i := 471) (by decide +kernel) (by decide +kernel)
theorem wd472 : (Cond.code ⟨"ClosureRows", "closed", "(III)Z"⟩ prog_1_method_9_code 5 (some .boolean) : Cond) ∈ wBIG := wbg (i := 472) (by decide +kernel) (by decide +kernel)
theorem wd473 : (Cond.methodLink "ClosureRows" 154 ⟨"ClosureRows$Closures", "isClosedAt", "(II)Z"⟩ : Cond) ∈ wBIG := wbg (i := 473) (by decide +kernel) (by decide +kernel)
theorem wd474 : (Cond.instanceMethod ⟨"ClosureRows$Closures", "isClosedAt", "(II)Z"⟩ : Cond) ∈ wBIG := wbg (i := 474) (by decide +kernel) (by decide +kernel)
theorem wd475 : (Cond.selects "ClosureRows$Closures" ⟨"ClosureRows$Closures", "isClosedAt", "(II)Z"⟩ ⟨"ClosureRows$Closures", "isClosedAt", "(II)Z"⟩ : Cond) ∈ wBIG := wbg (i := 475) (by decide +kernel) (by decide +kernel)
theorem wd476 : (Cond.code ⟨"ClosureRows$Closures", "isClosedAt", "(II)Z"⟩ prog_2_method_11_code 4 (some .boolean) : Cond) ∈ wBIG := wbg (i := 476) (by decide +kernel) (by decide +kernel)
theorem wd477 : (Cond.methodLink "ClosureRows$Closures" 44 ⟨"ClosureRows$Closures", "holdsOn", "(III)Z"⟩ : Cond) ∈ wBIG := wbg (i := 477) (by decide +kernel) (by decide +kernel)
theorem wd479 : (Cond.instanceMethod ⟨"ClosureRows$Closures", "holdsOn", "(III)Z"⟩ : Cond) ∈ wBIG := wbg (i := 479) (by decide +kernel) (by decide +kernel)
theorem wd480 : (Cond.code ⟨"ClosureRows$Closures", "holdsOn", "(III)Z"⟩ prog_2_method_21_code 4 (some .boolean) : Cond) ∈ wBIG := wbg (i := 480) (by decide +kernel) (by decide +kernel)
theorem wd481 : (Cond.methodLink "ClosureRows$Closures" 76 ⟨"ClosureRows$Closures", "covers", "(II)Z"⟩ : Cond) ∈ wBIG := wbg (i := 481) (by decide +kernel) (by decide +kernel)
theorem wd483 : (Cond.instanceMethod ⟨"ClosureRows$Closures", "covers", "(II)Z"⟩ : Cond) ∈ wBIG := wbg (i := 483) (by decide +kernel) (by decide +kernel)
theorem wd484 : (Cond.code ⟨"ClosureRows$Closures", "covers", "(II)Z"⟩ prog_2_method_22_code 3 (some .boolean) : Cond) ∈ wBIG := wbg (i := 484) (by decide +kernel) (by decide +kernel)
theorem wd487 : (Cond.methodLink "ClosureRowsLaw" 104 ⟨"ClosureRowsLaw", "minutes", "(LClosureRows;IIII[J)I"⟩ : Cond) ∈ wBIG := wbg (i := 487) (by decide +kernel) (by decide +kernel)
theorem wd488 : (Cond.static ⟨"ClosureRowsLaw", "minutes", "(LClosureRows;IIII[J)I"⟩ : Cond) ∈ wBIG := wbg (i := 488) (by decide +kernel) (by decide +kernel)
theorem wd489 : (Cond.codeWith ⟨"ClosureRowsLaw", "minutes", "(LClosureRows;IIII[J)I"⟩ method_10_code 7 (some .int) [(0, 14, 17, 13), (0, 14, 21, 15)] : Cond) ∈ wBIG := wbg (i := 489) (by decide +kernel) (by decide +kernel)
theorem wd490 : (Cond.methodLink "ClosureRowsLaw" 44 ⟨"ClosureRows", "minutes", "(IIII)I"⟩ : Cond) ∈ wBIG := wbg (i := 490) (by decide +kernel) (by decide +kernel)
theorem wd491 : (Cond.instanceMethod ⟨"ClosureRows", "minutes", "(IIII)I"⟩ : Cond) ∈ wBIG := wbg (i := 491) (by decide +kernel) (by decide +kernel)
theorem wd492 : (Cond.selects "ClosureRows" ⟨"ClosureRows", "minutes", "(IIII)I"⟩ ⟨"ClosureRows", "minutes", "(IIII)I"⟩ : Cond) ∈ wBIG := wbg (i := 492) (by decide +kernel) (by decide +kernel)
theorem wd493 : (Cond.code ⟨"ClosureRows", "minutes", "(IIII)I"⟩ prog_1_method_10_code 10 (some .int) : Cond) ∈ wBIG := wbg (i := 493) (by decide +kernel) (by decide +kernel)
theorem wd495 : (Cond.methodLink "ClosureRows" 159 ⟨"ClosureRows$Closures", "nextChangeOn", "(II)I"⟩ : Cond) ∈ wBIG := wbg (i := 495) (by decide +kernel) (by decide +kernel)
theorem wd496 : (Cond.instanceMethod ⟨"ClosureRows$Closures", "nextChangeOn", "(II)I"⟩ : Cond) ∈ wBIG := wbg (i := 496) (by decide +kernel) (by decide +kernel)
theorem wd497 : (Cond.selects "ClosureRows$Closures" ⟨"ClosureRows$Closures", "nextChangeOn", "(II)I"⟩ ⟨"ClosureRows$Closures", "nextChangeOn", "(II)I"⟩ : Cond) ∈ wBIG := wbg (i := 497) (by decide +kernel) (by decide +kernel)
theorem wd498 : (Cond.code ⟨"ClosureRows$Closures", "nextChangeOn", "(II)I"⟩ prog_2_method_19_code 5 (some .int) : Cond) ∈ wBIG := wbg (i := 498) (by decide +kernel) (by decide +kernel)
theorem wd499 : (Cond.methodLink "ClosureRowsLaw" 108 ⟨"ClosureRowsLaw", "opens", "(LClosureRows;III[J)I"⟩ : Cond) ∈ wBIG := wbg (i := 499) (by decide +kernel) (by decide +kernel)
theorem wd500 : (Cond.static ⟨"ClosureRowsLaw", "opens", "(LClosureRows;III[J)I"⟩ : Cond) ∈ wBIG := wbg (i := 500) (by decide +kernel) (by decide +kernel)
theorem wd501 : (Cond.codeWith ⟨"ClosureRowsLaw", "opens", "(LClosureRows;III[J)I"⟩ method_11_code 6 (some .int) [(0, 12, 15, 13), (0, 12, 19, 15)] : Cond) ∈ wBIG := wbg (i := 501) (by decide +kernel) (by decide +kernel)
theorem wd502 : (Cond.methodLink "ClosureRowsLaw" 48 ⟨"ClosureRows", "opens", "(III)I"⟩ : Cond) ∈ wBIG := wbg (i := 502) (by decide +kernel) (by decide +kernel)
theorem wd503 : (Cond.instanceMethod ⟨"ClosureRows", "opens", "(III)I"⟩ : Cond) ∈ wBIG := wbg (i := 503) (by decide +kernel) (by decide +kernel)
theorem wd504 : (Cond.selects "ClosureRows" ⟨"ClosureRows", "opens", "(III)I"⟩ ⟨"ClosureRows", "opens", "(III)I"⟩ : Cond) ∈ wBIG := wbg (i := 504) (by decide +kernel) (by decide +kernel)
theorem wd505 : (Cond.code ⟨"ClosureRows", "opens", "(III)I"⟩ prog_1_method_11_code 8 (some .int) : Cond) ∈ wBIG := wbg (i := 505) (by decide +kernel) (by decide +kernel)
theorem wd506 : (Cond.methodLink "ClosureRows" 162 ⟨"java/lang/Math", "min", "(II)I"⟩ : Cond) ∈ wBIG := wbg (i := 506) (by decide +kernel) (by decide +kernel)
theorem wd507 : (Cond.methodLink "ClosureRowsLaw" 111 ⟨"ClosureRowsLaw", "reason", "(LClosureRows;IIII[J)I"⟩ : Cond) ∈ wBIG := wbg (i := 507) (by decide +kernel) (by decide +kernel)
theorem wd508 : (Cond.static ⟨"ClosureRowsLaw", "reason", "(LClosureRows;IIII[J)I"⟩ : Cond) ∈ wBIG := wbg (i := 508) (by decide +kernel) (by decide +kernel)
theorem wd509 : (Cond.codeWith ⟨"ClosureRowsLaw", "reason", "(LClosureRows;IIII[J)I"⟩ method_12_code 7 (some .int) [(0, 14, 17, 13), (0, 14, 21, 15)] : Cond) ∈ wBIG := wbg (i := 509) (by decide +kernel) (by decide +kernel)
theorem wd510 : (Cond.methodLink "ClosureRowsLaw" 51 ⟨"ClosureRows", "reason", "(IIII)I"⟩ : Cond) ∈ wBIG := wbg (i := 510) (by decide +kernel) (by decide +kernel)
theorem wd511 : (Cond.instanceMethod ⟨"ClosureRows", "reason", "(IIII)I"⟩ : Cond) ∈ wBIG := wbg (i := 511) (by decide +kernel) (by decide +kernel)
theorem wd512 : (Cond.selects "ClosureRows" ⟨"ClosureRows", "reason", "(IIII)I"⟩ ⟨"ClosureRows", "reason", "(IIII)I"⟩ : Cond) ∈ wBIG := wbg (i := 512) (by decide +kernel) (by decide +kernel)
theorem wd513 : (Cond.code ⟨"ClosureRows", "reason", "(IIII)I"⟩ prog_1_method_12_code 6 (some .int) : Cond) ∈ wBIG := wbg (i := 513) (by decide +kernel) (by decide +kernel)
theorem wd515 : (Cond.methodLink "ClosureRows" 169 ⟨"ClosureRows$Closures", "holdingAt", "(III)I"⟩ : Cond) ∈ wBIG := wbg (i := 515) (by decide +kernel) (by decide +kernel)
theorem wd516 : (Cond.instanceMethod ⟨"ClosureRows$Closures", "holdingAt", "(III)I"⟩ : Cond) ∈ wBIG := wbg (i := 516) (by decide +kernel) (by decide +kernel)
theorem wd517 : (Cond.selects "ClosureRows$Closures" ⟨"ClosureRows$Closures", "holdingAt", "(III)I"⟩ ⟨"ClosureRows$Closures", "holdingAt", "(III)I"⟩ : Cond) ∈ wBIG := wbg (i := 517) (by decide +kernel) (by decide +kernel)
theorem wd518 : (Cond.code ⟨"ClosureRows$Closures", "holdingAt", "(III)I"⟩ prog_2_method_15_code 5 (some .int) : Cond) ∈ wBIG := wbg (i := 518) (by decide +kernel) (by decide +kernel)
theorem wd519 : (Cond.methodLink "ClosureRows$Closures" 65 ⟨"ClosureRows$Closures", "rankOf", "(III)I"⟩ : Cond) ∈ wBIG := wbg (i := 519) (by decide +kernel) (by decide +kernel)
theorem wd521 : (Cond.instanceMethod ⟨"ClosureRows$Closures", "rankOf", "(III)I"⟩ : Cond) ∈ wBIG := wbg (i := 521) (by decide +kernel) (by decide +kernel)
theorem wd522 : (Cond.code ⟨"ClosureRows$Closures", "rankOf", "(III)I"⟩ prog_2_method_16_code 6 (some .int) : Cond) ∈ wBIG := wbg (i := 522) (by decide +kernel) (by decide +kernel)
theorem wd523 : (Cond.methodLink "ClosureRows$Closures" 69 ⟨"ClosureRows$Closures", "endsAheadOf", "(II)Z"⟩ : Cond) ∈ wBIG := wbg (i := 523) (by decide +kernel) (by decide +kernel)
theorem wd525 : (Cond.instanceMethod ⟨"ClosureRows$Closures", "endsAheadOf", "(II)Z"⟩ : Cond) ∈ wBIG := wbg (i := 525) (by decide +kernel) (by decide +kernel)
theorem wd526 : (Cond.code ⟨"ClosureRows$Closures", "endsAheadOf", "(II)Z"⟩ prog_2_method_17_code 3 (some .boolean) : Cond) ∈ wBIG := wbg (i := 526) (by decide +kernel) (by decide +kernel)
theorem wd527 : (Cond.methodLink "ClosureRowsLaw" 114 ⟨"ClosureRowsLaw", "speed", "(LClosureRows;III[J)I"⟩ : Cond) ∈ wBIG := wbg (i := 527) (by decide +kernel) (by decide +kernel)
theorem wd528 : (Cond.static ⟨"ClosureRowsLaw", "speed", "(LClosureRows;III[J)I"⟩ : Cond) ∈ wBIG := wbg (i := 528) (by decide +kernel) (by decide +kernel)
theorem wd529 : (Cond.codeWith ⟨"ClosureRowsLaw", "speed", "(LClosureRows;III[J)I"⟩ method_13_code 6 (some .int) [(0, 12, 15, 13), (0, 12, 19, 15)] : Cond) ∈ wBIG := wbg (i := 529) (by decide +kernel) (by decide +kernel)
theorem wd530 : (Cond.methodLink "ClosureRowsLaw" 54 ⟨"ClosureRows", "speed", "(III)I"⟩ : Cond) ∈ wBIG := wbg (i := 530) (by decide +kernel) (by decide +kernel)
theorem wd531 : (Cond.instanceMethod ⟨"ClosureRows", "speed", "(III)I"⟩ : Cond) ∈ wBIG := wbg (i := 531) (by decide +kernel) (by decide +kernel)
theorem wd532 : (Cond.selects "ClosureRows" ⟨"ClosureRows", "speed", "(III)I"⟩ ⟨"ClosureRows", "speed", "(III)I"⟩ : Cond) ∈ wBIG := wbg (i := 532) (by decide +kernel) (by decide +kernel)
theorem wd533 : (Cond.code ⟨"ClosureRows", "speed", "(III)I"⟩ prog_1_method_13_code 5 (some .int) : Cond) ∈ wBIG := wbg (i := 533) (by decide +kernel) (by decide +kernel)
theorem wd534 : (Cond.methodLink "ClosureRows" 173 ⟨"ClosureRows$Closures", "percentAt", "(II)I"⟩ : Cond) ∈ wBIG := wbg (i := 534) (by decide +kernel) (by decide +kernel)
theorem wd535 : (Cond.instanceMethod ⟨"ClosureRows$Closures", "percentAt", "(II)I"⟩ : Cond) ∈ wBIG := wbg (i := 535) (by decide +kernel) (by decide +kernel)
theorem wd536 : (Cond.selects "ClosureRows$Closures" ⟨"ClosureRows$Closures", "percentAt", "(II)I"⟩ ⟨"ClosureRows$Closures", "percentAt", "(II)I"⟩ : Cond) ∈ wBIG := wbg (i := 536) (by decide +kernel) (by decide +kernel)
theorem wd537 : (Cond.code ⟨"ClosureRows$Closures", "percentAt", "(II)I"⟩ prog_2_method_14_code 5 (some .int) : Cond) ∈ wBIG := wbg (i := 537) (by decide +kernel) (by decide +kernel)
theorem wd538 : (Cond.methodLink "ClosureRowsLaw" 117 ⟨"ClosureRowsLaw", "notice", "(LClosureRows;II[J)I"⟩ : Cond) ∈ wBIG := wbg (i := 538) (by decide +kernel) (by decide +kernel)
theorem wd539 : (Cond.static ⟨"ClosureRowsLaw", "notice", "(LClosureRows;II[J)I"⟩ : Cond) ∈ wBIG := wbg (i := 539) (by decide +kernel) (by decide +kernel)
theorem wd540 : (Cond.codeWith ⟨"ClosureRowsLaw", "notice", "(LClosureRows;II[J)I"⟩ method_14_code 5 (some .int) [(0, 10, 13, 13)] : Cond) ∈ wBIG := wbg (i := 540) (by decide +kernel) (by decide +kernel)
theorem wd541 : (Cond.methodLink "ClosureRowsLaw" 57 ⟨"ClosureRows", "notice", "(II)I"⟩ : Cond) ∈ wBIG := wbg (i := 541) (by decide +kernel) (by decide +kernel)
theorem wd542 : (Cond.instanceMethod ⟨"ClosureRows", "notice", "(II)I"⟩ : Cond) ∈ wBIG := wbg (i := 542) (by decide +kernel) (by decide +kernel)
theorem wd543 : (Cond.selects "ClosureRows" ⟨"ClosureRows", "notice", "(II)I"⟩ ⟨"ClosureRows", "notice", "(II)I"⟩ : Cond) ∈ wBIG := wbg (i := 543) (by decide +kernel) (by decide +kernel)
theorem wd544 : (Cond.code ⟨"ClosureRows", "notice", "(II)I"⟩ prog_1_method_14_code 3 (some .int) : Cond) ∈ wBIG := wbg (i := 544) (by decide +kernel) (by decide +kernel)
theorem wd545 : (Cond.methodLink "ClosureRows" 176 ⟨"ClosureRows$Notices", "isKept", "(I)Z"⟩ : Cond) ∈ wBIG := wbg (i := 545) (by decide +kernel) (by decide +kernel)
theorem wd546 : (Cond.instanceMethod ⟨"ClosureRows$Notices", "isKept", "(I)Z"⟩ : Cond) ∈ wBIG := wbg (i := 546) (by decide +kernel) (by decide +kernel)
theorem wd547 : (Cond.selects "ClosureRows$Notices" ⟨"ClosureRows$Notices", "isKept", "(I)Z"⟩ ⟨"ClosureRows$Notices", "isKept", "(I)Z"⟩ : Cond) ∈ wBIG := wbg (i := 547) (by decide +kernel) (by decide +kernel)
theorem wd548 : (Cond.code ⟨"ClosureRows$Notices", "isKept", "(I)Z"⟩ prog_3_method_3_code 2 (some .boolean) : Cond) ∈ wBIG := wbg (i := 548) (by decide +kernel) (by decide +kernel)
theorem wd550 : (Cond.methodLink "ClosureRows" 181 ⟨"ClosureRows$Notices", "get", "(II)I"⟩ : Cond) ∈ wBIG := wbg (i := 550) (by decide +kernel) (by decide +kernel)
theorem wd551 : (Cond.instanceMethod ⟨"ClosureRows$Notices", "get", "(II)I"⟩ : Cond) ∈ wBIG := wbg (i := 551) (by decide +kernel) (by decide +kernel)
theorem wd552 : (Cond.selects "ClosureRows$Notices" ⟨"ClosureRows$Notices", "get", "(II)I"⟩ ⟨"ClosureRows$Notices", "get", "(II)I"⟩ : Cond) ∈ wBIG := wbg (i := 552) (by decide +kernel) (by decide +kernel)
theorem wd553 : (Cond.code ⟨"ClosureRows$Notices", "get", "(II)I"⟩ prog_3_method_4_code 3 (some .int) : Cond) ∈ wBIG := wbg (i := 553) (by decide +kernel) (by decide +kernel)
theorem wd554 : (Cond.methodLink "ClosureRowsLaw" 120 ⟨"ClosureRowsLaw", "blocked", "(LClosureRows;I[J)I"⟩ : Cond) ∈ wBIG := wbg (i := 554) (by decide +kernel) (by decide +kernel)
theorem wd555 : (Cond.static ⟨"ClosureRowsLaw", "blocked", "(LClosureRows;I[J)I"⟩ : Cond) ∈ wBIG := wbg (i := 555) (by decide +kernel) (by decide +kernel)
theorem wd556 : (Cond.codeWith ⟨"ClosureRowsLaw", "blocked", "(LClosureRows;I[J)I"⟩ method_15_code 4 (some .int) [(0, 9, 12, 13)] : Cond) ∈ wBIG := wbg (i := 556) (by decide +kernel) (by decide +kernel)
theorem wd557 : (Cond.methodLink "ClosureRowsLaw" 61 ⟨"ClosureRows", "blocked", "(I)I"⟩ : Cond) ∈ wBIG := wbg (i := 557) (by decide +kernel) (by decide +kernel)
theorem wd558 : (Cond.instanceMethod ⟨"ClosureRows", "blocked", "(I)I"⟩ : Cond) ∈ wBIG := wbg (i := 558) (by decide +kernel) (by decide +kernel)
theorem wd559 : (Cond.selects "ClosureRows" ⟨"ClosureRows", "blocked", "(I)I"⟩ ⟨"ClosureRows", "blocked", "(I)I"⟩ : Cond) ∈ wBIG := wbg (i := 559) (by decide +kernel) (by decide +kernel)
theorem wd560 : (Cond.code ⟨"ClosureRows", "blocked", "(I)I"⟩ prog_1_method_15_code 4 (some .int) : Cond) ∈ wBIG := wbg (i := 560) (by decide +kernel) (by decide +kernel)
theorem wd561 : (Cond.methodLink "ClosureRows" 184 ⟨"ClosureRows$Routes", "length", "(I)I"⟩ : Cond) ∈ wBIG := wbg (i := 561) (by decide +kernel) (by decide +kernel)
theorem wd562 : (Cond.instanceMethod ⟨"ClosureRows$Routes", "length", "(I)I"⟩ : Cond) ∈ wBIG := wbg (i := 562) (by decide +kernel) (by decide +kernel)
theorem wd563 : (Cond.selects "ClosureRows$Routes" ⟨"ClosureRows$Routes", "length", "(I)I"⟩ ⟨"ClosureRows$Routes", "length", "(I)I"⟩ : Cond) ∈ wBIG := wbg (i := 563) (by decide +kernel) (by decide +kernel)
theorem wd564 : (Cond.code ⟨"ClosureRows$Routes", "length", "(I)I"⟩ prog_4_method_5_code 2 (some .int) : Cond) ∈ wBIG := wbg (i := 564) (by decide +kernel) (by decide +kernel)
theorem wd565 : (Cond.methodLink "ClosureRows" 187 ⟨"ClosureRows$Routes", "stepOf", "(II)I"⟩ : Cond) ∈ wBIG := wbg (i := 565) (by decide +kernel) (by decide +kernel)
theorem wd566 : (Cond.classLink "ClosureRowsLaw" 65 "ClosureRowsModel" : Cond) ∈ wBIG := wbg (i := 566) (by decide +kernel) (by decide +kernel)
theorem wd567 : (Cond.instantiable "ClosureRowsModel" 18 : Cond) ∈ wBIG := wbg (i := 567) (by decide +kernel) (by decide +kernel)
theorem wd568 : (Cond.methodLink "ClosureRowsLaw" 67 ⟨"ClosureRowsModel", "<init>", "()V"⟩ : Cond) ∈ wBIG := wbg (i := 568) (by decide +kernel) (by decide +kernel)
theorem wd569 : (Cond.instanceMethod ⟨"ClosureRowsModel", "<init>", "()V"⟩ : Cond) ∈ wBIG := wbg (i := 569) (by decide +kernel) (by decide +kernel)
theorem wd570 : (Cond.code ⟨"ClosureRowsModel", "<init>", "()V"⟩ prog_6_method_1_code 1 none : Cond) ∈ wBIG := wbg (i := 570) (by decide +kernel) (by decide +kernel)
theorem wd571 : (Cond.methodLink "ClosureRowsModel" 1 ⟨"java/lang/Object", "<init>", "()V"⟩ : Cond) ∈ wBIG := wbg (i := 571) (by decide +kernel) (by decide +kernel)
theorem wd572 : (Cond.fieldLink "ClosureRowsModel" 53 "ClosureRowsModel" "thrown" "I" : Cond) ∈ wBIG := wbg (i := 572) (by decide +kernel) (by decide +kernel)
theorem wd573 : (Cond.fieldLink "ClosureRowsModel" 72 "ClosureRowsModel" "clock" "I" : Cond) ∈ wBIG := wbg (i := 573) (by decide +kernel) (by decide +kernel)
theorem wd574 : (Cond.fieldLink "ClosureRowsModel" 62 "ClosureRowsModel" "many" "I" : Cond) ∈ wBIG := wbg (i := 574) (by decide +kernel) (by decide +kernel)
theorem wd575 : (Cond.fieldLink "ClosureRowsModel" 7 "ClosureRowsModel" "kind" "[I" : Cond) ∈ wBIG := wbg (i := 575) (by decide +kernel) (by decide +kernel)
theorem wd576 : (Cond.fieldLink "ClosureRowsModel" 13 "ClosureRowsModel" "piece" "[I" : Cond) ∈ wBIG := wbg (i := 576) (by decide +kernel) (by decide +kernel)
theorem wd577 : (Cond.fieldLink "ClosureRowsModel" 16 "ClosureRowsModel" "sides" "[I" : Cond) ∈ wBIG := wbg (i := 577) (by decide +kernel) (by decide +kernel)
theorem wd578 : (Cond.fieldLink "ClosureRowsModel" 19 "ClosureRowsModel" "from" "[I" : Cond) ∈ wBIG := wbg (i := 578) (by decide +kernel) (by decide +kernel)
theorem wd579 : (Cond.fieldLink "ClosureRowsModel" 22 "ClosureRowsModel" "to" "[I" : Cond) ∈ wBIG := wbg (i := 579) (by decide +kernel) (by decide +kernel)
theorem wd580 : (Cond.fieldLink "ClosureRowsModel" 25 "ClosureRowsModel" "number" "[I" : Cond) ∈ wBIG := wbg (i := 580) (by decide +kernel) (by decide +kernel)
theorem wd581 : (Cond.fieldLink "ClosureRowsModel" 28 "ClosureRowsModel" "answered" "[I" : Cond) ∈ wBIG := wbg (i := 581) (by decide +kernel) (by decide +kernel)
theorem wd582 : (Cond.fieldLink "ClosureRowsModel" 31 "ClosureRowsModel" "lifted" "[I" : Cond) ∈ wBIG := wbg (i := 582) (by decide +kernel) (by decide +kernel)
theorem wd583 : (Cond.fieldLink "ClosureRowsModel" 34 "ClosureRowsModel" "word" "[I" : Cond) ∈ wBIG := wbg (i := 583) (by decide +kernel) (by decide +kernel)
theorem wd584 : (Cond.fieldLink "ClosureRowsModel" 37 "ClosureRowsModel" "open" "[Z" : Cond) ∈ wBIG := wbg (i := 584) (by decide +kernel) (by decide +kernel)
theorem wd585 : (Cond.fieldLink "ClosureRowsModel" 41 "ClosureRowsModel" "steps" "[I" : Cond) ∈ wBIG := wbg (i := 585) (by decide +kernel) (by decide +kernel)
theorem wd586 : (Cond.fieldLink "ClosureRowsModel" 44 "ClosureRowsModel" "step" "[I" : Cond) ∈ wBIG := wbg (i := 586) (by decide +kernel) (by decide +kernel)
theorem wd587 : (Cond.fieldLink "ClosureRowsModel" 47 "ClosureRowsModel" "was" "[Z" : Cond) ∈ wBIG := wbg (i := 587) (by decide +kernel) (by decide +kernel)
theorem wd588 : (Cond.fieldLink "ClosureRowsModel" 81 "ClosureRowsModel" "notices" "I" : Cond) ∈ wBIG := wbg (i := 588) (by decide +kernel) (by decide +kernel)
theorem wd589 : (Cond.fieldLink "ClosureRowsModel" 50 "ClosureRowsModel" "told" "[I" : Cond) ∈ wBIG := wbg (i := 589) (by decide +kernel) (by decide +kernel)
theorem wd627 : (Cond.methodLink "ClosureRowsLaw" 74 ⟨"ClosureRowsModel", "thrown", "()I"⟩ : Cond) ∈ wBIG := wbg (i := 627) (by decide +kernel) (by decide +kernel)
theorem wd628 : (Cond.instanceMethod ⟨"ClosureRowsModel", "thrown", "()I"⟩ : Cond) ∈ wBIG := wbg (i := 628) (by decide +kernel) (by decide +kernel)
theorem wd629 : (Cond.selects "ClosureRowsModel" ⟨"ClosureRowsModel", "thrown", "()I"⟩ ⟨"ClosureRowsModel", "thrown", "()I"⟩ : Cond) ∈ wBIG := wbg (i := 629) (by decide +kernel) (by decide +kernel)
theorem wd630 : (Cond.code ⟨"ClosureRowsModel", "thrown", "()I"⟩ prog_6_method_2_code 1 (some .int) : Cond) ∈ wBIG := wbg (i := 630) (by decide +kernel) (by decide +kernel)
theorem wd631 : (Cond.methodLink "ClosureRowsLaw" 73 ⟨"ClosureRowsModel", "close", "(IIIIII)I"⟩ : Cond) ∈ wBIG := wbg (i := 631) (by decide +kernel) (by decide +kernel)
theorem wd632 : (Cond.instanceMethod ⟨"ClosureRowsModel", "close", "(IIIIII)I"⟩ : Cond) ∈ wBIG := wbg (i := 632) (by decide +kernel) (by decide +kernel)
theorem wd633 : (Cond.selects "ClosureRowsModel" ⟨"ClosureRowsModel", "close", "(IIIIII)I"⟩ ⟨"ClosureRowsModel", "close", "(IIIIII)I"⟩ : Cond) ∈ wBIG := wbg (i := 633) (by decide +kernel) (by decide +kernel)
theorem wd634 : (Cond.code ⟨"ClosureRowsModel", "close", "(IIIIII)I"⟩ prog_6_method_15_code 10 (some .int) : Cond) ∈ wBIG := wbg (i := 634) (by decide +kernel) (by decide +kernel)
theorem wd635 : (Cond.methodLink "ClosureRowsModel" 57 ⟨"ClosureRowsModel", "in", "(III)Z"⟩ : Cond) ∈ wBIG := wbg (i := 635) (by decide +kernel) (by decide +kernel)
theorem wd636 : (Cond.static ⟨"ClosureRowsModel", "in", "(III)Z"⟩ : Cond) ∈ wBIG := wbg (i := 636) (by decide +kernel) (by decide +kernel)
theorem wd637 : (Cond.code ⟨"ClosureRowsModel", "in", "(III)Z"⟩ prog_6_method_4_code 3 (some .boolean) : Cond) ∈ wBIG := wbg (i := 637) (by decide +kernel) (by decide +kernel)
theorem wd638 : (Cond.methodLink "ClosureRowsModel" 84 ⟨"ClosureRowsModel", "isPiece", "(I)Z"⟩ : Cond) ∈ wBIG := wbg (i := 638) (by decide +kernel) (by decide +kernel)
theorem wd639 : (Cond.static ⟨"ClosureRowsModel", "isPiece", "(I)Z"⟩ : Cond) ∈ wBIG := wbg (i := 639) (by decide +kernel) (by decide +kernel)
theorem wd640 : (Cond.code ⟨"ClosureRowsModel", "isPiece", "(I)Z"⟩ prog_6_method_5_code 1 (some .boolean) : Cond) ∈ wBIG := wbg (i := 640) (by decide +kernel) (by decide +kernel)
theorem wd641 : (Cond.methodLink "ClosureRowsModel" 88 ⟨"ClosureRowsModel", "isMinute", "(I)Z"⟩ : Cond) ∈ wBIG := wbg (i := 641) (by decide +kernel) (by decide +kernel)
theorem wd642 : (Cond.static ⟨"ClosureRowsModel", "isMinute", "(I)Z"⟩ : Cond) ∈ wBIG := wbg (i := 642) (by decide +kernel) (by decide +kernel)
theorem wd643 : (Cond.code ⟨"ClosureRowsModel", "isMinute", "(I)Z"⟩ prog_6_method_7_code 1 (some .boolean) : Cond) ∈ wBIG := wbg (i := 643) (by decide +kernel) (by decide +kernel)
theorem wd644 : (Cond.constant "ClosureRowsModel" 61 99999 : Cond) ∈ wBIG := wbg (i := 644) (by decide +kernel) (by decide +kernel)
theorem wd645 : (Cond.methodLink "ClosureRowsModel" 91 ⟨"ClosureRowsModel", "isNumber", "(II)Z"⟩ : Cond) ∈ wBIG := wbg (i := 645) (by decide +kernel) (by decide +kernel)
theorem wd646 : (Cond.static ⟨"ClosureRowsModel", "isNumber", "(II)Z"⟩ : Cond) ∈ wBIG := wbg (i := 646) (by decide +kernel) (by decide +kernel)
theorem wd647 : (Cond.code ⟨"ClosureRowsModel", "isNumber", "(II)Z"⟩ prog_6_method_14_code 2 (some .boolean) : Cond) ∈ wBIG := wbg (i := 647) (by decide +kernel) (by decide +kernel)
theorem wd648 : (Cond.methodLink "ClosureRowsModel" 94 ⟨"ClosureRowsModel", "throwing", "(ZZZ)Z"⟩ : Cond) ∈ wBIG := wbg (i := 648) (by decide +kernel) (by decide +kernel)
theorem wd650 : (Cond.instanceMethod ⟨"ClosureRowsModel", "throwing", "(ZZZ)Z"⟩ : Cond) ∈ wBIG := wbg (i := 650) (by decide +kernel) (by decide +kernel)
theorem wd651 : (Cond.code ⟨"ClosureRowsModel", "throwing", "(ZZZ)Z"⟩ prog_6_method_3_code 4 (some .boolean) : Cond) ∈ wBIG := wbg (i := 651) (by decide +kernel) (by decide +kernel)
theorem wd652 : (Cond.methodLink "ClosureRowsModel" 98 ⟨"ClosureRowsModel", "look", "()V"⟩ : Cond) ∈ wBIG := wbg (i := 652) (by decide +kernel) (by decide +kernel)
theorem wd654 : (Cond.instanceMethod ⟨"ClosureRowsModel", "look", "()V"⟩ : Cond) ∈ wBIG := wbg (i := 654) (by decide +kernel) (by decide +kernel)
theorem wd655 : (Cond.code ⟨"ClosureRowsModel", "look", "()V"⟩ prog_6_method_13_code 5 none : Cond) ∈ wBIG := wbg (i := 655) (by decide +kernel) (by decide +kernel)
theorem wd656 : (Cond.methodLink "ClosureRowsModel" 75 ⟨"ClosureRowsModel", "isClosed", "(III)Z"⟩ : Cond) ∈ wBIG := wbg (i := 656) (by decide +kernel) (by decide +kernel)
theorem wd658 : (Cond.instanceMethod ⟨"ClosureRowsModel", "isClosed", "(III)Z"⟩ : Cond) ∈ wBIG := wbg (i := 658) (by decide +kernel) (by decide +kernel)
theorem wd659 : (Cond.code ⟨"ClosureRowsModel", "isClosed", "(III)Z"⟩ prog_6_method_11_code 6 (some .boolean) : Cond) ∈ wBIG := wbg (i := 659) (by decide +kernel) (by decide +kernel)
theorem wd660 : (Cond.methodLink "ClosureRowsModel" 65 ⟨"ClosureRowsModel", "isOn", "(III)Z"⟩ : Cond) ∈ wBIG := wbg (i := 660) (by decide +kernel) (by decide +kernel)
theorem wd662 : (Cond.instanceMethod ⟨"ClosureRowsModel", "isOn", "(III)Z"⟩ : Cond) ∈ wBIG := wbg (i := 662) (by decide +kernel) (by decide +kernel)
theorem wd663 : (Cond.code ⟨"ClosureRowsModel", "isOn", "(III)Z"⟩ prog_6_method_10_code 4 (some .boolean) : Cond) ∈ wBIG := wbg (i := 663) (by decide +kernel) (by decide +kernel)
theorem wd664 : (Cond.methodLink "ClosureRowsModel" 68 ⟨"ClosureRowsModel", "holds", "(II)Z"⟩ : Cond) ∈ wBIG := wbg (i := 664) (by decide +kernel) (by decide +kernel)
theorem wd666 : (Cond.instanceMethod ⟨"ClosureRowsModel", "holds", "(II)Z"⟩ : Cond) ∈ wBIG := wbg (i := 666) (by decide +kernel) (by decide +kernel)
theorem wd667 : (Cond.code ⟨"ClosureRowsModel", "holds", "(II)Z"⟩ prog_6_method_9_code 4 (some .boolean) : Cond) ∈ wBIG := wbg (i := 667) (by decide +kernel) (by decide +kernel)
theorem wd668 : (Cond.methodLink "ClosureRowsModel" 78 ⟨"ClosureRowsModel", "has", "(II)Z"⟩ : Cond) ∈ wBIG := wbg (i := 668) (by decide +kernel) (by decide +kernel)
theorem wd670 : (Cond.instanceMethod ⟨"ClosureRowsModel", "has", "(II)Z"⟩ : Cond) ∈ wBIG := wbg (i := 670) (by decide +kernel) (by decide +kernel)
theorem wd671 : (Cond.code ⟨"ClosureRowsModel", "has", "(II)Z"⟩ prog_6_method_12_code 5 (some .boolean) : Cond) ∈ wBIG := wbg (i := 671) (by decide +kernel) (by decide +kernel)
theorem wd672 : (Cond.methodLink "ClosureRowsLaw" 81 ⟨"ClosureRowsModel", "answer", "(IZ)V"⟩ : Cond) ∈ wBIG := wbg (i := 672) (by decide +kernel) (by decide +kernel)
theorem wd673 : (Cond.instanceMethod ⟨"ClosureRowsModel", "answer", "(IZ)V"⟩ : Cond) ∈ wBIG := wbg (i := 673) (by decide +kernel) (by decide +kernel)
theorem wd674 : (Cond.selects "ClosureRowsModel" ⟨"ClosureRowsModel", "answer", "(IZ)V"⟩ ⟨"ClosureRowsModel", "answer", "(IZ)V"⟩ : Cond) ∈ wBIG := wbg (i := 674) (by decide +kernel) (by decide +kernel)
theorem wd675 : (Cond.code ⟨"ClosureRowsModel", "answer", "(IZ)V"⟩ prog_6_method_16_code 4 none : Cond) ∈ wBIG := wbg (i := 675) (by decide +kernel) (by decide +kernel)
theorem wd676 : (Cond.methodLink "ClosureRowsModel" 101 ⟨"ClosureRowsModel", "isClosure", "(I)Z"⟩ : Cond) ∈ wBIG := wbg (i := 676) (by decide +kernel) (by decide +kernel)
theorem wd678 : (Cond.instanceMethod ⟨"ClosureRowsModel", "isClosure", "(I)Z"⟩ : Cond) ∈ wBIG := wbg (i := 678) (by decide +kernel) (by decide +kernel)
theorem wd679 : (Cond.code ⟨"ClosureRowsModel", "isClosure", "(I)Z"⟩ prog_6_method_8_code 2 (some .boolean) : Cond) ∈ wBIG := wbg (i := 679) (by decide +kernel) (by decide +kernel)
theorem wd680 : (Cond.methodLink "ClosureRowsLaw" 85 ⟨"ClosureRowsModel", "lift", "(II)Z"⟩ : Cond) ∈ wBIG := wbg (i := 680) (by decide +kernel) (by decide +kernel)
theorem wd681 : (Cond.instanceMethod ⟨"ClosureRowsModel", "lift", "(II)Z"⟩ : Cond) ∈ wBIG := wbg (i := 681) (by decide +kernel) (by decide +kernel)
theorem wd682 : (Cond.selects "ClosureRowsModel" ⟨"ClosureRowsModel", "lift", "(II)Z"⟩ ⟨"ClosureRowsModel", "lift", "(II)Z"⟩ : Cond) ∈ wBIG := wbg (i := 682) (by decide +kernel) (by decide +kernel)
theorem wd683 : (Cond.code ⟨"ClosureRowsModel", "lift", "(II)Z"⟩ prog_6_method_17_code 5 (some .boolean) : Cond) ∈ wBIG := wbg (i := 683) (by decide +kernel) (by decide +kernel)
theorem wd684 : (Cond.methodLink "ClosureRowsLaw" 88 ⟨"ClosureRowsModel", "incident", "(IZ)V"⟩ : Cond) ∈ wBIG := wbg (i := 684) (by decide +kernel) (by decide +kernel)
theorem wd685 : (Cond.instanceMethod ⟨"ClosureRowsModel", "incident", "(IZ)V"⟩ : Cond) ∈ wBIG := wbg (i := 685) (by decide +kernel) (by decide +kernel)
theorem wd686 : (Cond.selects "ClosureRowsModel" ⟨"ClosureRowsModel", "incident", "(IZ)V"⟩ ⟨"ClosureRowsModel", "incident", "(IZ)V"⟩ : Cond) ∈ wBIG := wbg (i := 686) (by decide +kernel) (by decide +kernel)
theorem wd687 : (Cond.code ⟨"ClosureRowsModel", "incident", "(IZ)V"⟩ prog_6_method_18_code 3 none : Cond) ∈ wBIG := wbg (i := 687) (by decide +kernel) (by decide +kernel)
theorem wd688 : (Cond.methodLink "ClosureRowsLaw" 92 ⟨"ClosureRowsModel", "step", "(III)I"⟩ : Cond) ∈ wBIG := wbg (i := 688) (by decide +kernel) (by decide +kernel)
theorem wd689 : (Cond.instanceMethod ⟨"ClosureRowsModel", "step", "(III)I"⟩ : Cond) ∈ wBIG := wbg (i := 689) (by decide +kernel) (by decide +kernel)
theorem wd690 : (Cond.selects "ClosureRowsModel" ⟨"ClosureRowsModel", "step", "(III)I"⟩ ⟨"ClosureRowsModel", "step", "(III)I"⟩ : Cond) ∈ wBIG := wbg (i := 690) (by decide +kernel) (by decide +kernel)
theorem wd691 : (Cond.code ⟨"ClosureRowsModel", "step", "(III)I"⟩ prog_6_method_19_code 6 (some .int) : Cond) ∈ wBIG := wbg (i := 691) (by decide +kernel) (by decide +kernel)
theorem wd692 : (Cond.methodLink "ClosureRowsModel" 104 ⟨"ClosureRowsModel", "isSide", "(I)Z"⟩ : Cond) ∈ wBIG := wbg (i := 692) (by decide +kernel) (by decide +kernel)
theorem wd693 : (Cond.static ⟨"ClosureRowsModel", "isSide", "(I)Z"⟩ : Cond) ∈ wBIG := wbg (i := 693) (by decide +kernel) (by decide +kernel)
theorem wd694 : (Cond.code ⟨"ClosureRowsModel", "isSide", "(I)Z"⟩ prog_6_method_6_code 1 (some .boolean) : Cond) ∈ wBIG := wbg (i := 694) (by decide +kernel) (by decide +kernel)
theorem wd695 : (Cond.methodLink "ClosureRowsLaw" 96 ⟨"ClosureRowsModel", "tick", "(I)I"⟩ : Cond) ∈ wBIG := wbg (i := 695) (by decide +kernel) (by decide +kernel)
theorem wd696 : (Cond.instanceMethod ⟨"ClosureRowsModel", "tick", "(I)I"⟩ : Cond) ∈ wBIG := wbg (i := 696) (by decide +kernel) (by decide +kernel)
theorem wd697 : (Cond.selects "ClosureRowsModel" ⟨"ClosureRowsModel", "tick", "(I)I"⟩ ⟨"ClosureRowsModel", "tick", "(I)I"⟩ : Cond) ∈ wBIG := wbg (i := 697) (by decide +kernel) (by decide +kernel)
theorem wd698 : (Cond.code ⟨"ClosureRowsModel", "tick", "(I)I"⟩ prog_6_method_20_code 4 (some .int) : Cond) ∈ wBIG := wbg (i := 698) (by decide +kernel) (by decide +kernel)
theorem wd699 : (Cond.methodLink "ClosureRowsLaw" 100 ⟨"ClosureRowsModel", "clock", "()I"⟩ : Cond) ∈ wBIG := wbg (i := 699) (by decide +kernel) (by decide +kernel)
theorem wd700 : (Cond.instanceMethod ⟨"ClosureRowsModel", "clock", "()I"⟩ : Cond) ∈ wBIG := wbg (i := 700) (by decide +kernel) (by decide +kernel)
theorem wd701 : (Cond.selects "ClosureRowsModel" ⟨"ClosureRowsModel", "clock", "()I"⟩ ⟨"ClosureRowsModel", "clock", "()I"⟩ : Cond) ∈ wBIG := wbg (i := 701) (by decide +kernel) (by decide +kernel)
theorem wd702 : (Cond.code ⟨"ClosureRowsModel", "clock", "()I"⟩ prog_6_method_21_code 1 (some .int) : Cond) ∈ wBIG := wbg (i := 702) (by decide +kernel) (by decide +kernel)
theorem wd703 : (Cond.methodLink "ClosureRowsLaw" 103 ⟨"ClosureRowsModel", "closed", "(III)Z"⟩ : Cond) ∈ wBIG := wbg (i := 703) (by decide +kernel) (by decide +kernel)
theorem wd704 : (Cond.instanceMethod ⟨"ClosureRowsModel", "closed", "(III)Z"⟩ : Cond) ∈ wBIG := wbg (i := 704) (by decide +kernel) (by decide +kernel)
theorem wd705 : (Cond.selects "ClosureRowsModel" ⟨"ClosureRowsModel", "closed", "(III)Z"⟩ ⟨"ClosureRowsModel", "closed", "(III)Z"⟩ : Cond) ∈ wBIG := wbg (i := 705) (by decide +kernel) (by decide +kernel)
theorem wd706 : (Cond.code ⟨"ClosureRowsModel", "closed", "(III)Z"⟩ prog_6_method_22_code 4 (some .boolean) : Cond) ∈ wBIG := wbg (i := 706) (by decide +kernel) (by decide +kernel)
theorem wd707 : (Cond.methodLink "ClosureRowsLaw" 107 ⟨"ClosureRowsModel", "minutes", "(IIII)I"⟩ : Cond) ∈ wBIG := wbg (i := 707) (by decide +kernel) (by decide +kernel)
theorem wd708 : (Cond.instanceMethod ⟨"ClosureRowsModel", "minutes", "(IIII)I"⟩ : Cond) ∈ wBIG := wbg (i := 708) (by decide +kernel) (by decide +kernel)
theorem wd709 : (Cond.selects "ClosureRowsModel" ⟨"ClosureRowsModel", "minutes", "(IIII)I"⟩ ⟨"ClosureRowsModel", "minutes", "(IIII)I"⟩ : Cond) ∈ wBIG := wbg (i := 709) (by decide +kernel) (by decide +kernel)
theorem wd710 : (Cond.code ⟨"ClosureRowsModel", "minutes", "(IIII)I"⟩ prog_6_method_23_code 7 (some .int) : Cond) ∈ wBIG := wbg (i := 710) (by decide +kernel) (by decide +kernel)
theorem wd711 : (Cond.methodLink "ClosureRowsLaw" 110 ⟨"ClosureRowsModel", "opens", "(III)I"⟩ : Cond) ∈ wBIG := wbg (i := 711) (by decide +kernel) (by decide +kernel)
theorem wd712 : (Cond.instanceMethod ⟨"ClosureRowsModel", "opens", "(III)I"⟩ : Cond) ∈ wBIG := wbg (i := 712) (by decide +kernel) (by decide +kernel)
theorem wd713 : (Cond.selects "ClosureRowsModel" ⟨"ClosureRowsModel", "opens", "(III)I"⟩ ⟨"ClosureRowsModel", "opens", "(III)I"⟩ : Cond) ∈ wBIG := wbg (i := 713) (by decide +kernel) (by decide +kernel)
theorem wd714 : (Cond.code ⟨"ClosureRowsModel", "opens", "(III)I"⟩ prog_6_method_24_code 5 (some .int) : Cond) ∈ wBIG := wbg (i := 714) (by decide +kernel) (by decide +kernel)
theorem wd715 : (Cond.methodLink "ClosureRowsLaw" 113 ⟨"ClosureRowsModel", "reason", "(IIII)I"⟩ : Cond) ∈ wBIG := wbg (i := 715) (by decide +kernel) (by decide +kernel)
theorem wd716 : (Cond.instanceMethod ⟨"ClosureRowsModel", "reason", "(IIII)I"⟩ : Cond) ∈ wBIG := wbg (i := 716) (by decide +kernel) (by decide +kernel)
theorem wd717 : (Cond.selects "ClosureRowsModel" ⟨"ClosureRowsModel", "reason", "(IIII)I"⟩ ⟨"ClosureRowsModel", "reason", "(IIII)I"⟩ : Cond) ∈ wBIG := wbg (i := 717) (by decide +kernel) (by decide +kernel)
theorem wd718 : (Cond.code ⟨"ClosureRowsModel", "reason", "(IIII)I"⟩ prog_6_method_26_code 9 (some .int) : Cond) ∈ wBIG := wbg (i := 718) (by decide +kernel) (by decide +kernel)
theorem wd719 : (Cond.methodLink "ClosureRowsModel" 108 ⟨"ClosureRowsModel", "endOf", "(I)I"⟩ : Cond) ∈ wBIG := wbg (i := 719) (by decide +kernel) (by decide +kernel)
theorem wd721 : (Cond.instanceMethod ⟨"ClosureRowsModel", "endOf", "(I)I"⟩ : Cond) ∈ wBIG := wbg (i := 721) (by decide +kernel) (by decide +kernel)
theorem wd722 : (Cond.code ⟨"ClosureRowsModel", "endOf", "(I)I"⟩ prog_6_method_25_code 2 (some .int) : Cond) ∈ wBIG := wbg (i := 722) (by decide +kernel) (by decide +kernel)
theorem wd723 : (Cond.constant "ClosureRowsModel" 107 1000000 : Cond) ∈ wBIG := wbg (i := 723) (by decide +kernel) (by decide +kernel)
theorem wd724 : (Cond.methodLink "ClosureRowsLaw" 116 ⟨"ClosureRowsModel", "speed", "(III)I"⟩ : Cond) ∈ wBIG := wbg (i := 724) (by decide +kernel) (by decide +kernel)
theorem wd725 : (Cond.instanceMethod ⟨"ClosureRowsModel", "speed", "(III)I"⟩ : Cond) ∈ wBIG := wbg (i := 725) (by decide +kernel) (by decide +kernel)
theorem wd726 : (Cond.selects "ClosureRowsModel" ⟨"ClosureRowsModel", "speed", "(III)I"⟩ ⟨"ClosureRowsModel", "speed", "(III)I"⟩ : Cond) ∈ wBIG := wbg (i := 726) (by decide +kernel) (by decide +kernel)
theorem wd727 : (Cond.code ⟨"ClosureRowsModel", "speed", "(III)I"⟩ prog_6_method_27_code 7 (some .int) : Cond) ∈ wBIG := wbg (i := 727) (by decide +kernel) (by decide +kernel)
theorem wd728 : (Cond.methodLink "ClosureRowsLaw" 119 ⟨"ClosureRowsModel", "notice", "(II)I"⟩ : Cond) ∈ wBIG := wbg (i := 728) (by decide +kernel) (by decide +kernel)
theorem wd729 : (Cond.instanceMethod ⟨"ClosureRowsModel", "notice", "(II)I"⟩ : Cond) ∈ wBIG := wbg (i := 729) (by decide +kernel) (by decide +kernel)
theorem wd730 : (Cond.selects "ClosureRowsModel" ⟨"ClosureRowsModel", "notice", "(II)I"⟩ ⟨"ClosureRowsModel", "notice", "(II)I"⟩ : Cond) ∈ wBIG := wbg (i := 730) (by decide +kernel) (by decide +kernel)
theorem wd731 : (Cond.code ⟨"ClosureRowsModel", "notice", "(II)I"⟩ prog_6_method_28_code 3 (some .int) : Cond) ∈ wBIG := wbg (i := 731) (by decide +kernel) (by decide +kernel)
theorem wd732 : (Cond.methodLink "ClosureRowsLaw" 122 ⟨"ClosureRowsModel", "blocked", "(I)I"⟩ : Cond) ∈ wBIG := wbg (i := 732) (by decide +kernel) (by decide +kernel)
theorem wd733 : (Cond.instanceMethod ⟨"ClosureRowsModel", "blocked", "(I)I"⟩ : Cond) ∈ wBIG := wbg (i := 733) (by decide +kernel) (by decide +kernel)
theorem wd734 : (Cond.selects "ClosureRowsModel" ⟨"ClosureRowsModel", "blocked", "(I)I"⟩ ⟨"ClosureRowsModel", "blocked", "(I)I"⟩ : Cond) ∈ wBIG := wbg (i := 734) (by decide +kernel) (by decide +kernel)
theorem wd735 : (Cond.code ⟨"ClosureRowsModel", "blocked", "(I)I"⟩ prog_6_method_29_code 4 (some .int) : Cond) ∈ wBIG := wbg (i := 735) (by decide +kernel) (by decide +kernel)
theorem wd736 : (Cond.arrayClass .long : Cond) ∈ wBIG := wbg (i := 736) (by decide +kernel) (by decide +kernel)
theorem wd0 : (Cond.selects "java/lang/Throwable" ⟨"java/lang/Throwable", "fillInStackTrace", "(I)Ljava/lang/Throwable;"⟩ ⟨"java/lang/Throwable", "fillInStackTrace", "(I)Ljava/lang/Throwable;"⟩ : Cond) ∈ wBIG := wbg (i := 0) (by decide +kernel) (by decide +kernel)
theorem wd1 : (Cond.selects "ClosureRows" ⟨"ClosureRows", "tellChanges", "()V"⟩ ⟨"ClosureRows", "tellChanges", "()V"⟩ : Cond) ∈ wBIG := wbg (i := 1) (by decide +kernel) (by decide +kernel)
theorem wd2 : (Cond.selects "ClosureRows$Closures" ⟨"ClosureRows$Closures", "holds", "(II)Z"⟩ ⟨"ClosureRows$Closures", "holds", "(II)Z"⟩ : Cond) ∈ wBIG := wbg (i := 2) (by decide +kernel) (by decide +kernel)
theorem wd3 : (Cond.selects "ClosureRows$Closures" ⟨"ClosureRows$Closures", "minuteOfPeriod", "(II)I"⟩ ⟨"ClosureRows$Closures", "minuteOfPeriod", "(II)I"⟩ : Cond) ∈ wBIG := wbg (i := 3) (by decide +kernel) (by decide +kernel)
theorem wd4 : (Cond.selects "ClosureRows$Closures" ⟨"ClosureRows$Closures", "markSides", "([ZI)V"⟩ ⟨"ClosureRows$Closures", "markSides", "([ZI)V"⟩ : Cond) ∈ wBIG := wbg (i := 4) (by decide +kernel) (by decide +kernel)
theorem wd5 : (Cond.selects "ClosureRows" ⟨"ClosureRows", "tellUnits", "(I)V"⟩ ⟨"ClosureRows", "tellUnits", "(I)V"⟩ : Cond) ∈ wBIG := wbg (i := 5) (by decide +kernel) (by decide +kernel)
theorem wd6 : (Cond.selects "ClosureRows" ⟨"ClosureRows", "needClosure", "(I)V"⟩ ⟨"ClosureRows", "needClosure", "(I)V"⟩ : Cond) ∈ wBIG := wbg (i := 6) (by decide +kernel) (by decide +kernel)
theorem wd7 : (Cond.selects "ClosureRows$Closures" ⟨"ClosureRows$Closures", "changeOf", "(II)I"⟩ ⟨"ClosureRows$Closures", "changeOf", "(II)I"⟩ : Cond) ∈ wBIG := wbg (i := 7) (by decide +kernel) (by decide +kernel)
theorem wd8 : (Cond.selects "ClosureRows$Closures" ⟨"ClosureRows$Closures", "holdsOn", "(III)Z"⟩ ⟨"ClosureRows$Closures", "holdsOn", "(III)Z"⟩ : Cond) ∈ wBIG := wbg (i := 8) (by decide +kernel) (by decide +kernel)
theorem wd9 : (Cond.selects "ClosureRows$Closures" ⟨"ClosureRows$Closures", "covers", "(II)Z"⟩ ⟨"ClosureRows$Closures", "covers", "(II)Z"⟩ : Cond) ∈ wBIG := wbg (i := 9) (by decide +kernel) (by decide +kernel)
theorem wd10 : (Cond.selects "ClosureRows$Closures" ⟨"ClosureRows$Closures", "rankOf", "(III)I"⟩ ⟨"ClosureRows$Closures", "rankOf", "(III)I"⟩ : Cond) ∈ wBIG := wbg (i := 10) (by decide +kernel) (by decide +kernel)
theorem wd11 : (Cond.selects "ClosureRows$Closures" ⟨"ClosureRows$Closures", "endsAheadOf", "(II)Z"⟩ ⟨"ClosureRows$Closures", "endsAheadOf", "(II)Z"⟩ : Cond) ∈ wBIG := wbg (i := 11) (by decide +kernel) (by decide +kernel)
theorem wd12 : (Cond.selects "ClosureRowsModel" ⟨"ClosureRowsModel", "throwing", "(ZZZ)Z"⟩ ⟨"ClosureRowsModel", "throwing", "(ZZZ)Z"⟩ : Cond) ∈ wBIG := wbg (i := 12) (by decide +kernel) (by decide +kernel)
theorem wd13 : (Cond.selects "ClosureRowsModel" ⟨"ClosureRowsModel", "look", "()V"⟩ ⟨"ClosureRowsModel", "look", "()V"⟩ : Cond) ∈ wBIG := wbg (i := 13) (by decide +kernel) (by decide +kernel)
theorem wd14 : (Cond.selects "ClosureRowsModel" ⟨"ClosureRowsModel", "isClosed", "(III)Z"⟩ ⟨"ClosureRowsModel", "isClosed", "(III)Z"⟩ : Cond) ∈ wBIG := wbg (i := 14) (by decide +kernel) (by decide +kernel)
theorem wd15 : (Cond.selects "ClosureRowsModel" ⟨"ClosureRowsModel", "isOn", "(III)Z"⟩ ⟨"ClosureRowsModel", "isOn", "(III)Z"⟩ : Cond) ∈ wBIG := wbg (i := 15) (by decide +kernel) (by decide +kernel)
theorem wd16 : (Cond.selects "ClosureRowsModel" ⟨"ClosureRowsModel", "holds", "(II)Z"⟩ ⟨"ClosureRowsModel", "holds", "(II)Z"⟩ : Cond) ∈ wBIG := wbg (i := 16) (by decide +kernel) (by decide +kernel)
theorem wd17 : (Cond.selects "ClosureRowsModel" ⟨"ClosureRowsModel", "has", "(II)Z"⟩ ⟨"ClosureRowsModel", "has", "(II)Z"⟩ : Cond) ∈ wBIG := wbg (i := 17) (by decide +kernel) (by decide +kernel)
theorem wd18 : (Cond.selects "ClosureRowsModel" ⟨"ClosureRowsModel", "isClosure", "(I)Z"⟩ ⟨"ClosureRowsModel", "isClosure", "(I)Z"⟩ : Cond) ∈ wBIG := wbg (i := 18) (by decide +kernel) (by decide +kernel)
theorem wd19 : (Cond.selects "ClosureRowsModel" ⟨"ClosureRowsModel", "endOf", "(I)I"⟩ ⟨"ClosureRowsModel", "endOf", "(I)I"⟩ : Cond) ∈ wBIG := wbg (i := 19) (by decide +kernel) (by decide +kernel)
end
section
theorem dX0_init_0 : decode cX0_init 0 = .ok (.aload_n 0, 1) := by decide +kernel
theorem dX0_init_1 : decode cX0_init 1 = .ok (.invokespecial 3, 3) := by decide +kernel
theorem dX0_init_4 : decode cX0_init 4 = .ok (.aload_n 0, 1) := by decide +kernel
theorem dX0_init_5 : decode cX0_init 5 = .ok (.bipush 100, 2) := by decide +kernel
theorem dX0_init_7 : decode cX0_init 7 = .ok (.newarray .int, 2) := by decide +kernel
theorem dX0_init_9 : decode cX0_init 9 = .ok (.putfield 9, 3) := by decide +kernel
theorem dX0_init_12 : decode cX0_init 12 = .ok (.aload_n 0, 1) := by decide +kernel
theorem dX0_init_13 : decode cX0_init 13 = .ok (.bipush 100, 2) := by decide +kernel
theorem dX0_init_15 : decode cX0_init 15 = .ok (.newarray .int, 2) := by decide +kernel
theorem dX0_init_17 : decode cX0_init 17 = .ok (.putfield 15, 3) := by decide +kernel
theorem dX0_init_20 : decode cX0_init 20 = .ok (.aload_n 0, 1) := by decide +kernel
theorem dX0_init_21 : decode cX0_init 21 = .ok (.bipush 100, 2) := by decide +kernel
theorem dX0_init_23 : decode cX0_init 23 = .ok (.newarray .int, 2) := by decide +kernel
theorem dX0_init_25 : decode cX0_init 25 = .ok (.putfield 18, 3) := by decide +kernel
theorem dX0_init_28 : decode cX0_init 28 = .ok (.aload_n 0, 1) := by decide +kernel
theorem dX0_init_29 : decode cX0_init 29 = .ok (.bipush 100, 2) := by decide +kernel
theorem dX0_init_31 : decode cX0_init 31 = .ok (.newarray .int, 2) := by decide +kernel
theorem dX0_init_33 : decode cX0_init 33 = .ok (.putfield 21, 3) := by decide +kernel
theorem dX0_init_36 : decode cX0_init 36 = .ok (.aload_n 0, 1) := by decide +kernel
theorem dX0_init_37 : decode cX0_init 37 = .ok (.bipush 100, 2) := by decide +kernel
theorem dX0_init_39 : decode cX0_init 39 = .ok (.newarray .int, 2) := by decide +kernel
theorem dX0_init_41 : decode cX0_init 41 = .ok (.putfield 24, 3) := by decide +kernel
theorem dX0_init_44 : decode cX0_init 44 = .ok (.aload_n 0, 1) := by decide +kernel
theorem dX0_init_45 : decode cX0_init 45 = .ok (.bipush 100, 2) := by decide +kernel
theorem dX0_init_47 : decode cX0_init 47 = .ok (.newarray .int, 2) := by decide +kernel
theorem dX0_init_49 : decode cX0_init 49 = .ok (.putfield 27, 3) := by decide +kernel
theorem dX0_init_52 : decode cX0_init 52 = .ok (.aload_n 0, 1) := by decide +kernel
theorem dX0_init_53 : decode cX0_init 53 = .ok (.bipush 100, 2) := by decide +kernel
theorem dX0_init_55 : decode cX0_init 55 = .ok (.newarray .int, 2) := by decide +kernel
theorem dX0_init_57 : decode cX0_init 57 = .ok (.putfield 30, 3) := by decide +kernel
theorem dX0_init_60 : decode cX0_init 60 = .ok (.aload_n 0, 1) := by decide +kernel
theorem dX0_init_61 : decode cX0_init 61 = .ok (.bipush 100, 2) := by decide +kernel
theorem dX0_init_63 : decode cX0_init 63 = .ok (.newarray .int, 2) := by decide +kernel
theorem dX0_init_65 : decode cX0_init 65 = .ok (.putfield 33, 3) := by decide +kernel
theorem dX0_init_68 : decode cX0_init 68 = .ok (.aload_n 0, 1) := by decide +kernel
theorem dX0_init_69 : decode cX0_init 69 = .ok (.bipush 20, 2) := by decide +kernel
theorem dX0_init_71 : decode cX0_init 71 = .ok (.newarray .boolean, 2) := by decide +kernel
theorem dX0_init_73 : decode cX0_init 73 = .ok (.putfield 36, 3) := by decide +kernel
theorem dX0_init_76 : decode cX0_init 76 = .ok (.aload_n 0, 1) := by decide +kernel
theorem dX0_init_77 : decode cX0_init 77 = .ok (.iconst 0, 1) := by decide +kernel
theorem dX0_init_78 : decode cX0_init 78 = .ok (.putfield 40, 3) := by decide +kernel
theorem dX0_init_81 : decode cX0_init 81 = .ok (.return_, 1) := by decide +kernel
theorem dX0_isFull_0 : decode cX0_isFull 0 = .ok (.aload_n 0, 1) := by decide +kernel
theorem dX0_isFull_1 : decode cX0_isFull 1 = .ok (.getfield 40, 3) := by decide +kernel
theorem dX0_isFull_4 : decode cX0_isFull 4 = .ok (.bipush 100, 2) := by decide +kernel
theorem dX0_isFull_6 : decode cX0_isFull 6 = .ok (.if_icmp .lt 7, 3) := by decide +kernel
theorem dX0_isFull_9 : decode cX0_isFull 9 = .ok (.iconst 1, 1) := by decide +kernel
theorem dX0_isFull_10 : decode cX0_isFull 10 = .ok (.goto 4, 3) := by decide +kernel
theorem dX0_isFull_13 : decode cX0_isFull 13 = .ok (.iconst 0, 1) := by decide +kernel
theorem dX0_isFull_14 : decode cX0_isFull 14 = .ok (.ireturn, 1) := by decide +kernel
theorem dX0_has_0 : decode cX0_has 0 = .ok (.iload_n 1, 1) := by decide +kernel
theorem dX0_has_1 : decode cX0_has 1 = .ok (.ifCond .lt 15, 3) := by decide +kernel
theorem dX0_has_4 : decode cX0_has 4 = .ok (.iload_n 1, 1) := by decide +kernel
theorem dX0_has_5 : decode cX0_has 5 = .ok (.aload_n 0, 1) := by decide +kernel
theorem dX0_has_6 : decode cX0_has 6 = .ok (.getfield 40, 3) := by decide +kernel
theorem dX0_has_9 : decode cX0_has 9 = .ok (.if_icmp .ge 7, 3) := by decide +kernel
theorem dX0_has_12 : decode cX0_has 12 = .ok (.iconst 1, 1) := by decide +kernel
theorem dX0_has_13 : decode cX0_has 13 = .ok (.goto 4, 3) := by decide +kernel
theorem dX0_has_16 : decode cX0_has 16 = .ok (.iconst 0, 1) := by decide +kernel
theorem dX0_has_17 : decode cX0_has 17 = .ok (.ireturn, 1) := by decide +kernel
theorem dX0_add_0 : decode cX0_add 0 = .ok (.aload_n 0, 1) := by decide +kernel
theorem dX0_add_1 : decode cX0_add 1 = .ok (.getfield 40, 3) := by decide +kernel
theorem dX0_add_4 : decode cX0_add 4 = .ok (.istore 7, 2) := by decide +kernel
theorem dX0_add_6 : decode cX0_add 6 = .ok (.aload_n 0, 1) := by decide +kernel
theorem dX0_add_7 : decode cX0_add 7 = .ok (.getfield 9, 3) := by decide +kernel
theorem dX0_add_10 : decode cX0_add 10 = .ok (.iload 7, 2) := by decide +kernel
theorem dX0_add_12 : decode cX0_add 12 = .ok (.iload_n 1, 1) := by decide +kernel
theorem dX0_add_13 : decode cX0_add 13 = .ok (.iastore, 1) := by decide +kernel
theorem dX0_add_14 : decode cX0_add 14 = .ok (.aload_n 0, 1) := by decide +kernel
theorem dX0_add_15 : decode cX0_add 15 = .ok (.getfield 15, 3) := by decide +kernel
theorem dX0_add_18 : decode cX0_add 18 = .ok (.iload 7, 2) := by decide +kernel
theorem dX0_add_20 : decode cX0_add 20 = .ok (.iload_n 2, 1) := by decide +kernel
theorem dX0_add_21 : decode cX0_add 21 = .ok (.iastore, 1) := by decide +kernel
theorem dX0_add_22 : decode cX0_add 22 = .ok (.aload_n 0, 1) := by decide +kernel
theorem dX0_add_23 : decode cX0_add 23 = .ok (.getfield 18, 3) := by decide +kernel
theorem dX0_add_26 : decode cX0_add 26 = .ok (.iload 7, 2) := by decide +kernel
theorem dX0_add_28 : decode cX0_add 28 = .ok (.iload_n 3, 1) := by decide +kernel
theorem dX0_add_29 : decode cX0_add 29 = .ok (.iastore, 1) := by decide +kernel
theorem dX0_add_30 : decode cX0_add 30 = .ok (.aload_n 0, 1) := by decide +kernel
theorem dX0_add_31 : decode cX0_add 31 = .ok (.getfield 21, 3) := by decide +kernel
theorem dX0_add_34 : decode cX0_add 34 = .ok (.iload 7, 2) := by decide +kernel
theorem dX0_add_36 : decode cX0_add 36 = .ok (.iload 4, 2) := by decide +kernel
theorem dX0_add_38 : decode cX0_add 38 = .ok (.iastore, 1) := by decide +kernel
theorem dX0_add_39 : decode cX0_add 39 = .ok (.aload_n 0, 1) := by decide +kernel
theorem dX0_add_40 : decode cX0_add 40 = .ok (.getfield 24, 3) := by decide +kernel
theorem dX0_add_43 : decode cX0_add 43 = .ok (.iload 7, 2) := by decide +kernel
theorem dX0_add_45 : decode cX0_add 45 = .ok (.iload 5, 2) := by decide +kernel
theorem dX0_add_47 : decode cX0_add 47 = .ok (.iastore, 1) := by decide +kernel
theorem dX0_add_48 : decode cX0_add 48 = .ok (.aload_n 0, 1) := by decide +kernel
theorem dX0_add_49 : decode cX0_add 49 = .ok (.getfield 27, 3) := by decide +kernel
theorem dX0_add_52 : decode cX0_add 52 = .ok (.iload 7, 2) := by decide +kernel
theorem dX0_add_54 : decode cX0_add 54 = .ok (.iload 6, 2) := by decide +kernel
theorem dX0_add_56 : decode cX0_add 56 = .ok (.iastore, 1) := by decide +kernel
theorem dX0_add_57 : decode cX0_add 57 = .ok (.aload_n 0, 1) := by decide +kernel
theorem dX0_add_58 : decode cX0_add 58 = .ok (.getfield 30, 3) := by decide +kernel
theorem dX0_add_61 : decode cX0_add 61 = .ok (.iload 7, 2) := by decide +kernel
theorem dX0_add_63 : decode cX0_add 63 = .ok (.iconst 0, 1) := by decide +kernel
theorem dX0_add_64 : decode cX0_add 64 = .ok (.iastore, 1) := by decide +kernel
theorem dX0_add_65 : decode cX0_add 65 = .ok (.aload_n 0, 1) := by decide +kernel
theorem dX0_add_66 : decode cX0_add 66 = .ok (.getfield 33, 3) := by decide +kernel
theorem dX0_add_69 : decode cX0_add 69 = .ok (.iload 7, 2) := by decide +kernel
theorem dX0_add_71 : decode cX0_add 71 = .ok (.iconst (-1), 1) := by decide +kernel
theorem dX0_add_72 : decode cX0_add 72 = .ok (.iastore, 1) := by decide +kernel
theorem dX0_add_73 : decode cX0_add 73 = .ok (.aload_n 0, 1) := by decide +kernel
theorem dX0_add_74 : decode cX0_add 74 = .ok (.dup, 1) := by decide +kernel
theorem dX0_add_75 : decode cX0_add 75 = .ok (.getfield 40, 3) := by decide +kernel
theorem dX0_add_78 : decode cX0_add 78 = .ok (.iconst 1, 1) := by decide +kernel
theorem dX0_add_79 : decode cX0_add 79 = .ok (.iadd, 1) := by decide +kernel
theorem dX0_add_80 : decode cX0_add 80 = .ok (.putfield 40, 3) := by decide +kernel
theorem dX0_add_83 : decode cX0_add 83 = .ok (.iload 7, 2) := by decide +kernel
theorem dX0_add_85 : decode cX0_add 85 = .ok (.ireturn, 1) := by decide +kernel
theorem dX0_awaitsAnswer_0 : decode cX0_awaitsAnswer 0 = .ok (.aload_n 0, 1) := by decide +kernel
theorem dX0_awaitsAnswer_1 : decode cX0_awaitsAnswer 1 = .ok (.getfield 9, 3) := by decide +kernel
theorem dX0_awaitsAnswer_4 : decode cX0_awaitsAnswer 4 = .ok (.iload_n 1, 1) := by decide +kernel
theorem dX0_awaitsAnswer_5 : decode cX0_awaitsAnswer 5 = .ok (.iaload, 1) := by decide +kernel
theorem dX0_awaitsAnswer_6 : decode cX0_awaitsAnswer 6 = .ok (.iconst 1, 1) := by decide +kernel
theorem dX0_awaitsAnswer_7 : decode cX0_awaitsAnswer 7 = .ok (.if_icmp .ne 16, 3) := by decide +kernel
theorem dX0_awaitsAnswer_10 : decode cX0_awaitsAnswer 10 = .ok (.aload_n 0, 1) := by decide +kernel
theorem dX0_awaitsAnswer_11 : decode cX0_awaitsAnswer 11 = .ok (.getfield 30, 3) := by decide +kernel
theorem dX0_awaitsAnswer_14 : decode cX0_awaitsAnswer 14 = .ok (.iload_n 1, 1) := by decide +kernel
theorem dX0_awaitsAnswer_15 : decode cX0_awaitsAnswer 15 = .ok (.iaload, 1) := by decide +kernel
theorem dX0_awaitsAnswer_16 : decode cX0_awaitsAnswer 16 = .ok (.ifCond .ne 7, 3) := by decide +kernel
theorem dX0_awaitsAnswer_19 : decode cX0_awaitsAnswer 19 = .ok (.iconst 1, 1) := by decide +kernel
theorem dX0_awaitsAnswer_20 : decode cX0_awaitsAnswer 20 = .ok (.goto 4, 3) := by decide +kernel
theorem dX0_awaitsAnswer_23 : decode cX0_awaitsAnswer 23 = .ok (.iconst 0, 1) := by decide +kernel
theorem dX0_awaitsAnswer_24 : decode cX0_awaitsAnswer 24 = .ok (.ireturn, 1) := by decide +kernel
theorem dX0_setAnswer_0 : decode cX0_setAnswer 0 = .ok (.aload_n 0, 1) := by decide +kernel
theorem dX0_setAnswer_1 : decode cX0_setAnswer 1 = .ok (.getfield 30, 3) := by decide +kernel
theorem dX0_setAnswer_4 : decode cX0_setAnswer 4 = .ok (.iload_n 1, 1) := by decide +kernel
theorem dX0_setAnswer_5 : decode cX0_setAnswer 5 = .ok (.iload_n 2, 1) := by decide +kernel
theorem dX0_setAnswer_6 : decode cX0_setAnswer 6 = .ok (.ifCond .eq 7, 3) := by decide +kernel
theorem dX0_setAnswer_9 : decode cX0_setAnswer 9 = .ok (.iconst 1, 1) := by decide +kernel
theorem dX0_setAnswer_10 : decode cX0_setAnswer 10 = .ok (.goto 4, 3) := by decide +kernel
theorem dX0_setAnswer_13 : decode cX0_setAnswer 13 = .ok (.iconst 2, 1) := by decide +kernel
theorem dX0_setAnswer_14 : decode cX0_setAnswer 14 = .ok (.iastore, 1) := by decide +kernel
theorem dX0_setAnswer_15 : decode cX0_setAnswer 15 = .ok (.return_, 1) := by decide +kernel
theorem dX0_setIncident_0 : decode cX0_setIncident 0 = .ok (.aload_n 0, 1) := by decide +kernel
theorem dX0_setIncident_1 : decode cX0_setIncident 1 = .ok (.getfield 36, 3) := by decide +kernel
theorem dX0_setIncident_4 : decode cX0_setIncident 4 = .ok (.iload_n 1, 1) := by decide +kernel
theorem dX0_setIncident_5 : decode cX0_setIncident 5 = .ok (.iload_n 2, 1) := by decide +kernel
theorem dX0_setIncident_6 : decode cX0_setIncident 6 = .ok (.bastore, 1) := by decide +kernel
theorem dX0_setIncident_7 : decode cX0_setIncident 7 = .ok (.return_, 1) := by decide +kernel
theorem dX0_canBeLifted_0 : decode cX0_canBeLifted 0 = .ok (.aload_n 0, 1) := by decide +kernel
theorem dX0_canBeLifted_1 : decode cX0_canBeLifted 1 = .ok (.getfield 9, 3) := by decide +kernel
theorem dX0_canBeLifted_4 : decode cX0_canBeLifted 4 = .ok (.iload_n 1, 1) := by decide +kernel
theorem dX0_canBeLifted_5 : decode cX0_canBeLifted 5 = .ok (.iaload, 1) := by decide +kernel
theorem dX0_canBeLifted_6 : decode cX0_canBeLifted 6 = .ok (.iconst 4, 1) := by decide +kernel
theorem dX0_canBeLifted_7 : decode cX0_canBeLifted 7 = .ok (.if_icmp .eq 17, 3) := by decide +kernel
theorem dX0_canBeLifted_10 : decode cX0_canBeLifted 10 = .ok (.aload_n 0, 1) := by decide +kernel
theorem dX0_canBeLifted_11 : decode cX0_canBeLifted 11 = .ok (.getfield 24, 3) := by decide +kernel
theorem dX0_canBeLifted_14 : decode cX0_canBeLifted 14 = .ok (.iload_n 1, 1) := by decide +kernel
theorem dX0_canBeLifted_15 : decode cX0_canBeLifted 15 = .ok (.iaload, 1) := by decide +kernel
theorem dX0_canBeLifted_16 : decode cX0_canBeLifted 16 = .ok (.iload_n 2, 1) := by decide +kernel
theorem dX0_canBeLifted_17 : decode cX0_canBeLifted 17 = .ok (.if_icmp .le 7, 3) := by decide +kernel
theorem dX0_canBeLifted_20 : decode cX0_canBeLifted 20 = .ok (.iconst 1, 1) := by decide +kernel
theorem dX0_canBeLifted_21 : decode cX0_canBeLifted 21 = .ok (.goto 4, 3) := by decide +kernel
theorem dX0_canBeLifted_24 : decode cX0_canBeLifted 24 = .ok (.iconst 0, 1) := by decide +kernel
theorem dX0_canBeLifted_25 : decode cX0_canBeLifted 25 = .ok (.ireturn, 1) := by decide +kernel
theorem dX0_giveWord_0 : decode cX0_giveWord 0 = .ok (.aload_n 0, 1) := by decide +kernel
theorem dX0_giveWord_1 : decode cX0_giveWord 1 = .ok (.getfield 9, 3) := by decide +kernel
theorem dX0_giveWord_4 : decode cX0_giveWord 4 = .ok (.iload_n 1, 1) := by decide +kernel
theorem dX0_giveWord_5 : decode cX0_giveWord 5 = .ok (.iaload, 1) := by decide +kernel
theorem dX0_giveWord_6 : decode cX0_giveWord 6 = .ok (.iconst 3, 1) := by decide +kernel
theorem dX0_giveWord_7 : decode cX0_giveWord 7 = .ok (.if_icmp .eq 5, 3) := by decide +kernel
theorem dX0_giveWord_10 : decode cX0_giveWord 10 = .ok (.iconst 1, 1) := by decide +kernel
theorem dX0_giveWord_11 : decode cX0_giveWord 11 = .ok (.ireturn, 1) := by decide +kernel
theorem dX0_giveWord_12 : decode cX0_giveWord 12 = .ok (.aload_n 0, 1) := by decide +kernel
theorem dX0_giveWord_13 : decode cX0_giveWord 13 = .ok (.getfield 33, 3) := by decide +kernel
theorem dX0_giveWord_16 : decode cX0_giveWord 16 = .ok (.iload_n 1, 1) := by decide +kernel
theorem dX0_giveWord_17 : decode cX0_giveWord 17 = .ok (.iaload, 1) := by decide +kernel
theorem dX0_giveWord_18 : decode cX0_giveWord 18 = .ok (.iconst (-1), 1) := by decide +kernel
theorem dX0_giveWord_19 : decode cX0_giveWord 19 = .ok (.if_icmp .ne 10, 3) := by decide +kernel
theorem dX0_giveWord_22 : decode cX0_giveWord 22 = .ok (.aload_n 0, 1) := by decide +kernel
theorem dX0_giveWord_23 : decode cX0_giveWord 23 = .ok (.getfield 33, 3) := by decide +kernel
theorem dX0_giveWord_26 : decode cX0_giveWord 26 = .ok (.iload_n 1, 1) := by decide +kernel
theorem dX0_giveWord_27 : decode cX0_giveWord 27 = .ok (.iload_n 2, 1) := by decide +kernel
theorem dX0_giveWord_28 : decode cX0_giveWord 28 = .ok (.iastore, 1) := by decide +kernel
theorem dX0_giveWord_29 : decode cX0_giveWord 29 = .ok (.aload_n 0, 1) := by decide +kernel
theorem dX0_giveWord_30 : decode cX0_giveWord 30 = .ok (.getfield 33, 3) := by decide +kernel
theorem dX0_giveWord_33 : decode cX0_giveWord 33 = .ok (.iload_n 1, 1) := by decide +kernel
theorem dX0_giveWord_34 : decode cX0_giveWord 34 = .ok (.iaload, 1) := by decide +kernel
theorem dX0_giveWord_35 : decode cX0_giveWord 35 = .ok (.iload_n 2, 1) := by decide +kernel
theorem dX0_giveWord_36 : decode cX0_giveWord 36 = .ok (.if_icmp .eq 7, 3) := by decide +kernel
theorem dX0_giveWord_39 : decode cX0_giveWord 39 = .ok (.iconst 1, 1) := by decide +kernel
theorem dX0_giveWord_40 : decode cX0_giveWord 40 = .ok (.goto 4, 3) := by decide +kernel
theorem dX0_giveWord_43 : decode cX0_giveWord 43 = .ok (.iconst 0, 1) := by decide +kernel
theorem dX0_giveWord_44 : decode cX0_giveWord 44 = .ok (.ireturn, 1) := by decide +kernel
theorem dX0_endAt_0 : decode cX0_endAt 0 = .ok (.aload_n 0, 1) := by decide +kernel
theorem dX0_endAt_1 : decode cX0_endAt 1 = .ok (.getfield 24, 3) := by decide +kernel
theorem dX0_endAt_4 : decode cX0_endAt 4 = .ok (.iload_n 1, 1) := by decide +kernel
theorem dX0_endAt_5 : decode cX0_endAt 5 = .ok (.iload_n 2, 1) := by decide +kernel
theorem dX0_endAt_6 : decode cX0_endAt 6 = .ok (.iastore, 1) := by decide +kernel
theorem dX0_endAt_7 : decode cX0_endAt 7 = .ok (.return_, 1) := by decide +kernel
theorem dX0_isClosedAt_0 : decode cX0_isClosedAt 0 = .ok (.iconst 0, 1) := by decide +kernel
theorem dX0_isClosedAt_1 : decode cX0_isClosedAt 1 = .ok (.istore_n 3, 1) := by decide +kernel
theorem dX0_isClosedAt_2 : decode cX0_isClosedAt 2 = .ok (.iload_n 3, 1) := by decide +kernel
theorem dX0_isClosedAt_3 : decode cX0_isClosedAt 3 = .ok (.aload_n 0, 1) := by decide +kernel
theorem dX0_isClosedAt_4 : decode cX0_isClosedAt 4 = .ok (.getfield 40, 3) := by decide +kernel
theorem dX0_isClosedAt_7 : decode cX0_isClosedAt 7 = .ok (.if_icmp .ge 31, 3) := by decide +kernel
theorem dX0_isClosedAt_10 : decode cX0_isClosedAt 10 = .ok (.aload_n 0, 1) := by decide +kernel
theorem dX0_isClosedAt_11 : decode cX0_isClosedAt 11 = .ok (.getfield 9, 3) := by decide +kernel
theorem dX0_isClosedAt_14 : decode cX0_isClosedAt 14 = .ok (.iload_n 3, 1) := by decide +kernel
theorem dX0_isClosedAt_15 : decode cX0_isClosedAt 15 = .ok (.iaload, 1) := by decide +kernel
theorem dX0_isClosedAt_16 : decode cX0_isClosedAt 16 = .ok (.iconst 5, 1) := by decide +kernel
theorem dX0_isClosedAt_17 : decode cX0_isClosedAt 17 = .ok (.if_icmp .eq 15, 3) := by decide +kernel
theorem dX0_isClosedAt_20 : decode cX0_isClosedAt 20 = .ok (.aload_n 0, 1) := by decide +kernel
theorem dX0_isClosedAt_21 : decode cX0_isClosedAt 21 = .ok (.iload_n 3, 1) := by decide +kernel
theorem dX0_isClosedAt_22 : decode cX0_isClosedAt 22 = .ok (.iload_n 1, 1) := by decide +kernel
theorem dX0_isClosedAt_23 : decode cX0_isClosedAt 23 = .ok (.iload_n 2, 1) := by decide +kernel
theorem dX0_isClosedAt_24 : decode cX0_isClosedAt 24 = .ok (.invokevirtual 44, 3) := by decide +kernel
theorem dX0_isClosedAt_27 : decode cX0_isClosedAt 27 = .ok (.ifCond .eq 5, 3) := by decide +kernel
theorem dX0_isClosedAt_30 : decode cX0_isClosedAt 30 = .ok (.iconst 1, 1) := by decide +kernel
theorem dX0_isClosedAt_31 : decode cX0_isClosedAt 31 = .ok (.ireturn, 1) := by decide +kernel
theorem dX0_isClosedAt_32 : decode cX0_isClosedAt 32 = .ok (.iinc 3 1, 3) := by decide +kernel
theorem dX0_isClosedAt_35 : decode cX0_isClosedAt 35 = .ok (.goto (-33), 3) := by decide +kernel
theorem dX0_isClosedAt_38 : decode cX0_isClosedAt 38 = .ok (.iconst 0, 1) := by decide +kernel
theorem dX0_isClosedAt_39 : decode cX0_isClosedAt 39 = .ok (.ireturn, 1) := by decide +kernel
theorem dX0_markClosed_0 : decode cX0_markClosed 0 = .ok (.iconst 0, 1) := by decide +kernel
theorem dX0_markClosed_1 : decode cX0_markClosed 1 = .ok (.istore_n 3, 1) := by decide +kernel
theorem dX0_markClosed_2 : decode cX0_markClosed 2 = .ok (.iload_n 3, 1) := by decide +kernel
theorem dX0_markClosed_3 : decode cX0_markClosed 3 = .ok (.bipush 120, 2) := by decide +kernel
theorem dX0_markClosed_5 : decode cX0_markClosed 5 = .ok (.if_icmp .ge 13, 3) := by decide +kernel
theorem dX0_markClosed_8 : decode cX0_markClosed 8 = .ok (.aload_n 1, 1) := by decide +kernel
theorem dX0_markClosed_9 : decode cX0_markClosed 9 = .ok (.iload_n 3, 1) := by decide +kernel
theorem dX0_markClosed_10 : decode cX0_markClosed 10 = .ok (.iconst 0, 1) := by decide +kernel
theorem dX0_markClosed_11 : decode cX0_markClosed 11 = .ok (.bastore, 1) := by decide +kernel
theorem dX0_markClosed_12 : decode cX0_markClosed 12 = .ok (.iinc 3 1, 3) := by decide +kernel
theorem dX0_markClosed_15 : decode cX0_markClosed 15 = .ok (.goto (-13), 3) := by decide +kernel
theorem dX0_markClosed_18 : decode cX0_markClosed 18 = .ok (.iconst 0, 1) := by decide +kernel
theorem dX0_markClosed_19 : decode cX0_markClosed 19 = .ok (.istore_n 3, 1) := by decide +kernel
theorem dX0_markClosed_20 : decode cX0_markClosed 20 = .ok (.iload_n 3, 1) := by decide +kernel
theorem dX0_markClosed_21 : decode cX0_markClosed 21 = .ok (.aload_n 0, 1) := by decide +kernel
theorem dX0_markClosed_22 : decode cX0_markClosed 22 = .ok (.getfield 40, 3) := by decide +kernel
theorem dX0_markClosed_25 : decode cX0_markClosed 25 = .ok (.if_icmp .ge 34, 3) := by decide +kernel
theorem dX0_markClosed_28 : decode cX0_markClosed 28 = .ok (.aload_n 0, 1) := by decide +kernel
theorem dX0_markClosed_29 : decode cX0_markClosed 29 = .ok (.getfield 9, 3) := by decide +kernel
theorem dX0_markClosed_32 : decode cX0_markClosed 32 = .ok (.iload_n 3, 1) := by decide +kernel
theorem dX0_markClosed_33 : decode cX0_markClosed 33 = .ok (.iaload, 1) := by decide +kernel
theorem dX0_markClosed_34 : decode cX0_markClosed 34 = .ok (.iconst 5, 1) := by decide +kernel
theorem dX0_markClosed_35 : decode cX0_markClosed 35 = .ok (.if_icmp .eq 18, 3) := by decide +kernel
theorem dX0_markClosed_38 : decode cX0_markClosed 38 = .ok (.aload_n 0, 1) := by decide +kernel
theorem dX0_markClosed_39 : decode cX0_markClosed 39 = .ok (.iload_n 3, 1) := by decide +kernel
theorem dX0_markClosed_40 : decode cX0_markClosed 40 = .ok (.iload_n 2, 1) := by decide +kernel
theorem dX0_markClosed_41 : decode cX0_markClosed 41 = .ok (.invokevirtual 48, 3) := by decide +kernel
theorem dX0_markClosed_44 : decode cX0_markClosed 44 = .ok (.ifCond .eq 9, 3) := by decide +kernel
theorem dX0_markClosed_47 : decode cX0_markClosed 47 = .ok (.aload_n 0, 1) := by decide +kernel
theorem dX0_markClosed_48 : decode cX0_markClosed 48 = .ok (.aload_n 1, 1) := by decide +kernel
theorem dX0_markClosed_49 : decode cX0_markClosed 49 = .ok (.iload_n 3, 1) := by decide +kernel
theorem dX0_markClosed_50 : decode cX0_markClosed 50 = .ok (.invokevirtual 52, 3) := by decide +kernel
theorem dX0_markClosed_53 : decode cX0_markClosed 53 = .ok (.iinc 3 1, 3) := by decide +kernel
theorem dX0_markClosed_56 : decode cX0_markClosed 56 = .ok (.goto (-36), 3) := by decide +kernel
theorem dX0_markClosed_59 : decode cX0_markClosed 59 = .ok (.return_, 1) := by decide +kernel
theorem dX0_markSides_0 : decode cX0_markSides 0 = .ok (.aload_n 0, 1) := by decide +kernel
theorem dX0_markSides_1 : decode cX0_markSides 1 = .ok (.getfield 18, 3) := by decide +kernel
theorem dX0_markSides_4 : decode cX0_markSides 4 = .ok (.iload_n 2, 1) := by decide +kernel
theorem dX0_markSides_5 : decode cX0_markSides 5 = .ok (.iaload, 1) := by decide +kernel
theorem dX0_markSides_6 : decode cX0_markSides 6 = .ok (.iconst 1, 1) := by decide +kernel
theorem dX0_markSides_7 : decode cX0_markSides 7 = .ok (.iand, 1) := by decide +kernel
theorem dX0_markSides_8 : decode cX0_markSides 8 = .ok (.ifCond .eq 16, 3) := by decide +kernel
theorem dX0_markSides_11 : decode cX0_markSides 11 = .ok (.aload_n 1, 1) := by decide +kernel
theorem dX0_markSides_12 : decode cX0_markSides 12 = .ok (.aload_n 0, 1) := by decide +kernel
theorem dX0_markSides_13 : decode cX0_markSides 13 = .ok (.getfield 15, 3) := by decide +kernel
theorem dX0_markSides_16 : decode cX0_markSides 16 = .ok (.iload_n 2, 1) := by decide +kernel
theorem dX0_markSides_17 : decode cX0_markSides 17 = .ok (.iaload, 1) := by decide +kernel
theorem dX0_markSides_18 : decode cX0_markSides 18 = .ok (.iconst 1, 1) := by decide +kernel
theorem dX0_markSides_19 : decode cX0_markSides 19 = .ok (.invokestatic 56, 3) := by decide +kernel
theorem dX0_markSides_22 : decode cX0_markSides 22 = .ok (.iconst 1, 1) := by decide +kernel
theorem dX0_markSides_23 : decode cX0_markSides 23 = .ok (.bastore, 1) := by decide +kernel
theorem dX0_markSides_24 : decode cX0_markSides 24 = .ok (.aload_n 0, 1) := by decide +kernel
theorem dX0_markSides_25 : decode cX0_markSides 25 = .ok (.getfield 18, 3) := by decide +kernel
theorem dX0_markSides_28 : decode cX0_markSides 28 = .ok (.iload_n 2, 1) := by decide +kernel
theorem dX0_markSides_29 : decode cX0_markSides 29 = .ok (.iaload, 1) := by decide +kernel
theorem dX0_markSides_30 : decode cX0_markSides 30 = .ok (.iconst 2, 1) := by decide +kernel
theorem dX0_markSides_31 : decode cX0_markSides 31 = .ok (.iand, 1) := by decide +kernel
theorem dX0_markSides_32 : decode cX0_markSides 32 = .ok (.ifCond .eq 16, 3) := by decide +kernel
theorem dX0_markSides_35 : decode cX0_markSides 35 = .ok (.aload_n 1, 1) := by decide +kernel
theorem dX0_markSides_36 : decode cX0_markSides 36 = .ok (.aload_n 0, 1) := by decide +kernel
theorem dX0_markSides_37 : decode cX0_markSides 37 = .ok (.getfield 15, 3) := by decide +kernel
theorem dX0_markSides_40 : decode cX0_markSides 40 = .ok (.iload_n 2, 1) := by decide +kernel
theorem dX0_markSides_41 : decode cX0_markSides 41 = .ok (.iaload, 1) := by decide +kernel
theorem dX0_markSides_42 : decode cX0_markSides 42 = .ok (.iconst 2, 1) := by decide +kernel
theorem dX0_markSides_43 : decode cX0_markSides 43 = .ok (.invokestatic 56, 3) := by decide +kernel
theorem dX0_markSides_46 : decode cX0_markSides 46 = .ok (.iconst 1, 1) := by decide +kernel
theorem dX0_markSides_47 : decode cX0_markSides 47 = .ok (.bastore, 1) := by decide +kernel
theorem dX0_markSides_48 : decode cX0_markSides 48 = .ok (.return_, 1) := by decide +kernel
theorem dX0_percentAt_0 : decode cX0_percentAt 0 = .ok (.bipush 100, 2) := by decide +kernel
theorem dX0_percentAt_2 : decode cX0_percentAt 2 = .ok (.istore_n 3, 1) := by decide +kernel
theorem dX0_percentAt_3 : decode cX0_percentAt 3 = .ok (.iconst 0, 1) := by decide +kernel
theorem dX0_percentAt_4 : decode cX0_percentAt 4 = .ok (.istore 4, 2) := by decide +kernel
theorem dX0_percentAt_6 : decode cX0_percentAt 6 = .ok (.iload 4, 2) := by decide +kernel
theorem dX0_percentAt_8 : decode cX0_percentAt 8 = .ok (.aload_n 0, 1) := by decide +kernel
theorem dX0_percentAt_9 : decode cX0_percentAt 9 = .ok (.getfield 40, 3) := by decide +kernel
theorem dX0_percentAt_12 : decode cX0_percentAt 12 = .ok (.if_icmp .ge 43, 3) := by decide +kernel
theorem dX0_percentAt_15 : decode cX0_percentAt 15 = .ok (.aload_n 0, 1) := by decide +kernel
theorem dX0_percentAt_16 : decode cX0_percentAt 16 = .ok (.getfield 9, 3) := by decide +kernel
theorem dX0_percentAt_19 : decode cX0_percentAt 19 = .ok (.iload 4, 2) := by decide +kernel
theorem dX0_percentAt_21 : decode cX0_percentAt 21 = .ok (.iaload, 1) := by decide +kernel
theorem dX0_percentAt_22 : decode cX0_percentAt 22 = .ok (.iconst 5, 1) := by decide +kernel
theorem dX0_percentAt_23 : decode cX0_percentAt 23 = .ok (.if_icmp .ne 26, 3) := by decide +kernel
theorem dX0_percentAt_26 : decode cX0_percentAt 26 = .ok (.aload_n 0, 1) := by decide +kernel
theorem dX0_percentAt_27 : decode cX0_percentAt 27 = .ok (.iload 4, 2) := by decide +kernel
theorem dX0_percentAt_29 : decode cX0_percentAt 29 = .ok (.iload_n 1, 1) := by decide +kernel
theorem dX0_percentAt_30 : decode cX0_percentAt 30 = .ok (.iload_n 2, 1) := by decide +kernel
theorem dX0_percentAt_31 : decode cX0_percentAt 31 = .ok (.invokevirtual 44, 3) := by decide +kernel
theorem dX0_percentAt_34 : decode cX0_percentAt 34 = .ok (.ifCond .eq 15, 3) := by decide +kernel
theorem dX0_percentAt_37 : decode cX0_percentAt 37 = .ok (.iload_n 3, 1) := by decide +kernel
theorem dX0_percentAt_38 : decode cX0_percentAt 38 = .ok (.aload_n 0, 1) := by decide +kernel
theorem dX0_percentAt_39 : decode cX0_percentAt 39 = .ok (.getfield 27, 3) := by decide +kernel
theorem dX0_percentAt_42 : decode cX0_percentAt 42 = .ok (.iload 4, 2) := by decide +kernel
theorem dX0_percentAt_44 : decode cX0_percentAt 44 = .ok (.iaload, 1) := by decide +kernel
theorem dX0_percentAt_45 : decode cX0_percentAt 45 = .ok (.invokestatic 60, 3) := by decide +kernel
theorem dX0_percentAt_48 : decode cX0_percentAt 48 = .ok (.istore_n 3, 1) := by decide +kernel
theorem dX0_percentAt_49 : decode cX0_percentAt 49 = .ok (.iinc 4 1, 3) := by decide +kernel
theorem dX0_percentAt_52 : decode cX0_percentAt 52 = .ok (.goto (-46), 3) := by decide +kernel
theorem dX0_percentAt_55 : decode cX0_percentAt 55 = .ok (.iload_n 3, 1) := by decide +kernel
theorem dX0_percentAt_56 : decode cX0_percentAt 56 = .ok (.ireturn, 1) := by decide +kernel
theorem dX0_holdingAt_0 : decode cX0_holdingAt 0 = .ok (.iconst 0, 1) := by decide +kernel
theorem dX0_holdingAt_1 : decode cX0_holdingAt 1 = .ok (.istore 4, 2) := by decide +kernel
theorem dX0_holdingAt_3 : decode cX0_holdingAt 3 = .ok (.iload 4, 2) := by decide +kernel
theorem dX0_holdingAt_5 : decode cX0_holdingAt 5 = .ok (.aload_n 0, 1) := by decide +kernel
theorem dX0_holdingAt_6 : decode cX0_holdingAt 6 = .ok (.getfield 40, 3) := by decide +kernel
theorem dX0_holdingAt_9 : decode cX0_holdingAt 9 = .ok (.if_icmp .ge 35, 3) := by decide +kernel
theorem dX0_holdingAt_12 : decode cX0_holdingAt 12 = .ok (.aload_n 0, 1) := by decide +kernel
theorem dX0_holdingAt_13 : decode cX0_holdingAt 13 = .ok (.iload 4, 2) := by decide +kernel
theorem dX0_holdingAt_15 : decode cX0_holdingAt 15 = .ok (.iload_n 1, 1) := by decide +kernel
theorem dX0_holdingAt_16 : decode cX0_holdingAt 16 = .ok (.iload_n 2, 1) := by decide +kernel
theorem dX0_holdingAt_17 : decode cX0_holdingAt 17 = .ok (.invokevirtual 44, 3) := by decide +kernel
theorem dX0_holdingAt_20 : decode cX0_holdingAt 20 = .ok (.ifCond .eq 18, 3) := by decide +kernel
theorem dX0_holdingAt_23 : decode cX0_holdingAt 23 = .ok (.aload_n 0, 1) := by decide +kernel
theorem dX0_holdingAt_24 : decode cX0_holdingAt 24 = .ok (.iload 4, 2) := by decide +kernel
theorem dX0_holdingAt_26 : decode cX0_holdingAt 26 = .ok (.iload_n 1, 1) := by decide +kernel
theorem dX0_holdingAt_27 : decode cX0_holdingAt 27 = .ok (.iload_n 2, 1) := by decide +kernel
theorem dX0_holdingAt_28 : decode cX0_holdingAt 28 = .ok (.invokevirtual 65, 3) := by decide +kernel
theorem dX0_holdingAt_31 : decode cX0_holdingAt 31 = .ok (.iload_n 3, 1) := by decide +kernel
theorem dX0_holdingAt_32 : decode cX0_holdingAt 32 = .ok (.if_icmp .ne 6, 3) := by decide +kernel
theorem dX0_holdingAt_35 : decode cX0_holdingAt 35 = .ok (.iload 4, 2) := by decide +kernel
theorem dX0_holdingAt_37 : decode cX0_holdingAt 37 = .ok (.ireturn, 1) := by decide +kernel
theorem dX0_holdingAt_38 : decode cX0_holdingAt 38 = .ok (.iinc 4 1, 3) := by decide +kernel
theorem dX0_holdingAt_41 : decode cX0_holdingAt 41 = .ok (.goto (-38), 3) := by decide +kernel
theorem dX0_holdingAt_44 : decode cX0_holdingAt 44 = .ok (.iconst (-1), 1) := by decide +kernel
theorem dX0_holdingAt_45 : decode cX0_holdingAt 45 = .ok (.ireturn, 1) := by decide +kernel
theorem dX0_rankOf_0 : decode cX0_rankOf 0 = .ok (.iconst 0, 1) := by decide +kernel
theorem dX0_rankOf_1 : decode cX0_rankOf 1 = .ok (.istore 4, 2) := by decide +kernel
theorem dX0_rankOf_3 : decode cX0_rankOf 3 = .ok (.iconst 0, 1) := by decide +kernel
theorem dX0_rankOf_4 : decode cX0_rankOf 4 = .ok (.istore 5, 2) := by decide +kernel
theorem dX0_rankOf_6 : decode cX0_rankOf 6 = .ok (.iload 5, 2) := by decide +kernel
theorem dX0_rankOf_8 : decode cX0_rankOf 8 = .ok (.aload_n 0, 1) := by decide +kernel
theorem dX0_rankOf_9 : decode cX0_rankOf 9 = .ok (.getfield 40, 3) := by decide +kernel
theorem dX0_rankOf_12 : decode cX0_rankOf 12 = .ok (.if_icmp .ge 33, 3) := by decide +kernel
theorem dX0_rankOf_15 : decode cX0_rankOf 15 = .ok (.aload_n 0, 1) := by decide +kernel
theorem dX0_rankOf_16 : decode cX0_rankOf 16 = .ok (.iload 5, 2) := by decide +kernel
theorem dX0_rankOf_18 : decode cX0_rankOf 18 = .ok (.iload_n 1, 1) := by decide +kernel
theorem dX0_rankOf_19 : decode cX0_rankOf 19 = .ok (.invokevirtual 69, 3) := by decide +kernel
theorem dX0_rankOf_22 : decode cX0_rankOf 22 = .ok (.ifCond .eq 17, 3) := by decide +kernel
theorem dX0_rankOf_25 : decode cX0_rankOf 25 = .ok (.aload_n 0, 1) := by decide +kernel
theorem dX0_rankOf_26 : decode cX0_rankOf 26 = .ok (.iload 5, 2) := by decide +kernel
theorem dX0_rankOf_28 : decode cX0_rankOf 28 = .ok (.iload_n 2, 1) := by decide +kernel
theorem dX0_rankOf_29 : decode cX0_rankOf 29 = .ok (.iload_n 3, 1) := by decide +kernel
theorem dX0_rankOf_30 : decode cX0_rankOf 30 = .ok (.invokevirtual 44, 3) := by decide +kernel
theorem dX0_rankOf_33 : decode cX0_rankOf 33 = .ok (.ifCond .eq 6, 3) := by decide +kernel
theorem dX0_rankOf_36 : decode cX0_rankOf 36 = .ok (.iinc 4 1, 3) := by decide +kernel
theorem dX0_rankOf_39 : decode cX0_rankOf 39 = .ok (.iinc 5 1, 3) := by decide +kernel
theorem dX0_rankOf_42 : decode cX0_rankOf 42 = .ok (.goto (-36), 3) := by decide +kernel
theorem dX0_rankOf_45 : decode cX0_rankOf 45 = .ok (.iload 4, 2) := by decide +kernel
theorem dX0_rankOf_47 : decode cX0_rankOf 47 = .ok (.ireturn, 1) := by decide +kernel
theorem dX0_endsAheadOf_0 : decode cX0_endsAheadOf 0 = .ok (.aload_n 0, 1) := by decide +kernel
theorem dX0_endsAheadOf_1 : decode cX0_endsAheadOf 1 = .ok (.getfield 24, 3) := by decide +kernel
theorem dX0_endsAheadOf_4 : decode cX0_endsAheadOf 4 = .ok (.iload_n 1, 1) := by decide +kernel
theorem dX0_endsAheadOf_5 : decode cX0_endsAheadOf 5 = .ok (.iaload, 1) := by decide +kernel
theorem dX0_endsAheadOf_6 : decode cX0_endsAheadOf 6 = .ok (.aload_n 0, 1) := by decide +kernel
theorem dX0_endsAheadOf_7 : decode cX0_endsAheadOf 7 = .ok (.getfield 24, 3) := by decide +kernel
theorem dX0_endsAheadOf_10 : decode cX0_endsAheadOf 10 = .ok (.iload_n 2, 1) := by decide +kernel
theorem dX0_endsAheadOf_11 : decode cX0_endsAheadOf 11 = .ok (.iaload, 1) := by decide +kernel
theorem dX0_endsAheadOf_12 : decode cX0_endsAheadOf 12 = .ok (.if_icmp .lt 23, 3) := by decide +kernel
theorem dX0_endsAheadOf_15 : decode cX0_endsAheadOf 15 = .ok (.aload_n 0, 1) := by decide +kernel
theorem dX0_endsAheadOf_16 : decode cX0_endsAheadOf 16 = .ok (.getfield 24, 3) := by decide +kernel
theorem dX0_endsAheadOf_19 : decode cX0_endsAheadOf 19 = .ok (.iload_n 1, 1) := by decide +kernel
theorem dX0_endsAheadOf_20 : decode cX0_endsAheadOf 20 = .ok (.iaload, 1) := by decide +kernel
theorem dX0_endsAheadOf_21 : decode cX0_endsAheadOf 21 = .ok (.aload_n 0, 1) := by decide +kernel
theorem dX0_endsAheadOf_22 : decode cX0_endsAheadOf 22 = .ok (.getfield 24, 3) := by decide +kernel
theorem dX0_endsAheadOf_25 : decode cX0_endsAheadOf 25 = .ok (.iload_n 2, 1) := by decide +kernel
theorem dX0_endsAheadOf_26 : decode cX0_endsAheadOf 26 = .ok (.iaload, 1) := by decide +kernel
theorem dX0_endsAheadOf_27 : decode cX0_endsAheadOf 27 = .ok (.if_icmp .ne 12, 3) := by decide +kernel
theorem dX0_endsAheadOf_30 : decode cX0_endsAheadOf 30 = .ok (.iload_n 1, 1) := by decide +kernel
theorem dX0_endsAheadOf_31 : decode cX0_endsAheadOf 31 = .ok (.iload_n 2, 1) := by decide +kernel
theorem dX0_endsAheadOf_32 : decode cX0_endsAheadOf 32 = .ok (.if_icmp .ge 7, 3) := by decide +kernel
theorem dX0_endsAheadOf_35 : decode cX0_endsAheadOf 35 = .ok (.iconst 1, 1) := by decide +kernel
theorem dX0_endsAheadOf_36 : decode cX0_endsAheadOf 36 = .ok (.goto 4, 3) := by decide +kernel
theorem dX0_endsAheadOf_39 : decode cX0_endsAheadOf 39 = .ok (.iconst 0, 1) := by decide +kernel
theorem dX0_endsAheadOf_40 : decode cX0_endsAheadOf 40 = .ok (.ireturn, 1) := by decide +kernel
theorem dX0_nextChange_0 : decode cX0_nextChange 0 = .ok (.ldc 72, 2) := by decide +kernel
theorem dX0_nextChange_2 : decode cX0_nextChange 2 = .ok (.istore_n 2, 1) := by decide +kernel
theorem dX0_nextChange_3 : decode cX0_nextChange 3 = .ok (.iconst 0, 1) := by decide +kernel
theorem dX0_nextChange_4 : decode cX0_nextChange 4 = .ok (.istore_n 3, 1) := by decide +kernel
theorem dX0_nextChange_5 : decode cX0_nextChange 5 = .ok (.iload_n 3, 1) := by decide +kernel
theorem dX0_nextChange_6 : decode cX0_nextChange 6 = .ok (.aload_n 0, 1) := by decide +kernel
theorem dX0_nextChange_7 : decode cX0_nextChange 7 = .ok (.getfield 40, 3) := by decide +kernel
theorem dX0_nextChange_10 : decode cX0_nextChange 10 = .ok (.if_icmp .ge 20, 3) := by decide +kernel
theorem dX0_nextChange_13 : decode cX0_nextChange 13 = .ok (.iload_n 2, 1) := by decide +kernel
theorem dX0_nextChange_14 : decode cX0_nextChange 14 = .ok (.aload_n 0, 1) := by decide +kernel
theorem dX0_nextChange_15 : decode cX0_nextChange 15 = .ok (.iload_n 3, 1) := by decide +kernel
theorem dX0_nextChange_16 : decode cX0_nextChange 16 = .ok (.iload_n 1, 1) := by decide +kernel
theorem dX0_nextChange_17 : decode cX0_nextChange 17 = .ok (.invokevirtual 73, 3) := by decide +kernel
theorem dX0_nextChange_20 : decode cX0_nextChange 20 = .ok (.invokestatic 60, 3) := by decide +kernel
theorem dX0_nextChange_23 : decode cX0_nextChange 23 = .ok (.istore_n 2, 1) := by decide +kernel
theorem dX0_nextChange_24 : decode cX0_nextChange 24 = .ok (.iinc 3 1, 3) := by decide +kernel
theorem dX0_nextChange_27 : decode cX0_nextChange 27 = .ok (.goto (-22), 3) := by decide +kernel
theorem dX0_nextChange_30 : decode cX0_nextChange 30 = .ok (.iload_n 2, 1) := by decide +kernel
theorem dX0_nextChange_31 : decode cX0_nextChange 31 = .ok (.ireturn, 1) := by decide +kernel
theorem dX0_nextChangeOn_0 : decode cX0_nextChangeOn 0 = .ok (.ldc 72, 2) := by decide +kernel
theorem dX0_nextChangeOn_2 : decode cX0_nextChangeOn 2 = .ok (.istore_n 3, 1) := by decide +kernel
theorem dX0_nextChangeOn_3 : decode cX0_nextChangeOn 3 = .ok (.iconst 0, 1) := by decide +kernel
theorem dX0_nextChangeOn_4 : decode cX0_nextChangeOn 4 = .ok (.istore 4, 2) := by decide +kernel
theorem dX0_nextChangeOn_6 : decode cX0_nextChangeOn 6 = .ok (.iload 4, 2) := by decide +kernel
theorem dX0_nextChangeOn_8 : decode cX0_nextChangeOn 8 = .ok (.aload_n 0, 1) := by decide +kernel
theorem dX0_nextChangeOn_9 : decode cX0_nextChangeOn 9 = .ok (.getfield 40, 3) := by decide +kernel
theorem dX0_nextChangeOn_12 : decode cX0_nextChangeOn 12 = .ok (.if_icmp .ge 31, 3) := by decide +kernel
theorem dX0_nextChangeOn_15 : decode cX0_nextChangeOn 15 = .ok (.aload_n 0, 1) := by decide +kernel
theorem dX0_nextChangeOn_16 : decode cX0_nextChangeOn 16 = .ok (.iload 4, 2) := by decide +kernel
theorem dX0_nextChangeOn_18 : decode cX0_nextChangeOn 18 = .ok (.iload_n 1, 1) := by decide +kernel
theorem dX0_nextChangeOn_19 : decode cX0_nextChangeOn 19 = .ok (.invokevirtual 76, 3) := by decide +kernel
theorem dX0_nextChangeOn_22 : decode cX0_nextChangeOn 22 = .ok (.ifCond .eq 15, 3) := by decide +kernel
theorem dX0_nextChangeOn_25 : decode cX0_nextChangeOn 25 = .ok (.iload_n 3, 1) := by decide +kernel
theorem dX0_nextChangeOn_26 : decode cX0_nextChangeOn 26 = .ok (.aload_n 0, 1) := by decide +kernel
theorem dX0_nextChangeOn_27 : decode cX0_nextChangeOn 27 = .ok (.iload 4, 2) := by decide +kernel
theorem dX0_nextChangeOn_29 : decode cX0_nextChangeOn 29 = .ok (.iload_n 2, 1) := by decide +kernel
theorem dX0_nextChangeOn_30 : decode cX0_nextChangeOn 30 = .ok (.invokevirtual 73, 3) := by decide +kernel
theorem dX0_nextChangeOn_33 : decode cX0_nextChangeOn 33 = .ok (.invokestatic 60, 3) := by decide +kernel
theorem dX0_nextChangeOn_36 : decode cX0_nextChangeOn 36 = .ok (.istore_n 3, 1) := by decide +kernel
theorem dX0_nextChangeOn_37 : decode cX0_nextChangeOn 37 = .ok (.iinc 4 1, 3) := by decide +kernel
theorem dX0_nextChangeOn_40 : decode cX0_nextChangeOn 40 = .ok (.goto (-34), 3) := by decide +kernel
theorem dX0_nextChangeOn_43 : decode cX0_nextChangeOn 43 = .ok (.iload_n 3, 1) := by decide +kernel
theorem dX0_nextChangeOn_44 : decode cX0_nextChangeOn 44 = .ok (.ireturn, 1) := by decide +kernel
theorem dX0_changeOf_0 : decode cX0_changeOf 0 = .ok (.iload_n 2, 1) := by decide +kernel
theorem dX0_changeOf_1 : decode cX0_changeOf 1 = .ok (.aload_n 0, 1) := by decide +kernel
theorem dX0_changeOf_2 : decode cX0_changeOf 2 = .ok (.getfield 24, 3) := by decide +kernel
theorem dX0_changeOf_5 : decode cX0_changeOf 5 = .ok (.iload_n 1, 1) := by decide +kernel
theorem dX0_changeOf_6 : decode cX0_changeOf 6 = .ok (.iaload, 1) := by decide +kernel
theorem dX0_changeOf_7 : decode cX0_changeOf 7 = .ok (.if_icmp .lt 6, 3) := by decide +kernel
theorem dX0_changeOf_10 : decode cX0_changeOf 10 = .ok (.ldc 72, 2) := by decide +kernel
theorem dX0_changeOf_12 : decode cX0_changeOf 12 = .ok (.ireturn, 1) := by decide +kernel
theorem dX0_changeOf_13 : decode cX0_changeOf 13 = .ok (.iload_n 2, 1) := by decide +kernel
theorem dX0_changeOf_14 : decode cX0_changeOf 14 = .ok (.aload_n 0, 1) := by decide +kernel
theorem dX0_changeOf_15 : decode cX0_changeOf 15 = .ok (.getfield 21, 3) := by decide +kernel
theorem dX0_changeOf_18 : decode cX0_changeOf 18 = .ok (.iload_n 1, 1) := by decide +kernel
theorem dX0_changeOf_19 : decode cX0_changeOf 19 = .ok (.iaload, 1) := by decide +kernel
theorem dX0_changeOf_20 : decode cX0_changeOf 20 = .ok (.if_icmp .ge 10, 3) := by decide +kernel
theorem dX0_changeOf_23 : decode cX0_changeOf 23 = .ok (.aload_n 0, 1) := by decide +kernel
theorem dX0_changeOf_24 : decode cX0_changeOf 24 = .ok (.getfield 21, 3) := by decide +kernel
theorem dX0_changeOf_27 : decode cX0_changeOf 27 = .ok (.iload_n 1, 1) := by decide +kernel
theorem dX0_changeOf_28 : decode cX0_changeOf 28 = .ok (.iaload, 1) := by decide +kernel
theorem dX0_changeOf_29 : decode cX0_changeOf 29 = .ok (.ireturn, 1) := by decide +kernel
theorem dX0_changeOf_30 : decode cX0_changeOf 30 = .ok (.aload_n 0, 1) := by decide +kernel
theorem dX0_changeOf_31 : decode cX0_changeOf 31 = .ok (.getfield 9, 3) := by decide +kernel
theorem dX0_changeOf_34 : decode cX0_changeOf 34 = .ok (.iload_n 1, 1) := by decide +kernel
theorem dX0_changeOf_35 : decode cX0_changeOf 35 = .ok (.iaload, 1) := by decide +kernel
theorem dX0_changeOf_36 : decode cX0_changeOf 36 = .ok (.iconst 4, 1) := by decide +kernel
theorem dX0_changeOf_37 : decode cX0_changeOf 37 = .ok (.if_icmp .eq 10, 3) := by decide +kernel
theorem dX0_changeOf_40 : decode cX0_changeOf 40 = .ok (.aload_n 0, 1) := by decide +kernel
theorem dX0_changeOf_41 : decode cX0_changeOf 41 = .ok (.getfield 24, 3) := by decide +kernel
theorem dX0_changeOf_44 : decode cX0_changeOf 44 = .ok (.iload_n 1, 1) := by decide +kernel
theorem dX0_changeOf_45 : decode cX0_changeOf 45 = .ok (.iaload, 1) := by decide +kernel
theorem dX0_changeOf_46 : decode cX0_changeOf 46 = .ok (.ireturn, 1) := by decide +kernel
theorem dX0_changeOf_47 : decode cX0_changeOf 47 = .ok (.aload_n 0, 1) := by decide +kernel
theorem dX0_changeOf_48 : decode cX0_changeOf 48 = .ok (.iload_n 1, 1) := by decide +kernel
theorem dX0_changeOf_49 : decode cX0_changeOf 49 = .ok (.iload_n 2, 1) := by decide +kernel
theorem dX0_changeOf_50 : decode cX0_changeOf 50 = .ok (.invokevirtual 79, 3) := by decide +kernel
theorem dX0_changeOf_53 : decode cX0_changeOf 53 = .ok (.istore_n 3, 1) := by decide +kernel
theorem dX0_changeOf_54 : decode cX0_changeOf 54 = .ok (.aload_n 0, 1) := by decide +kernel
theorem dX0_changeOf_55 : decode cX0_changeOf 55 = .ok (.getfield 27, 3) := by decide +kernel
theorem dX0_changeOf_58 : decode cX0_changeOf 58 = .ok (.iload_n 1, 1) := by decide +kernel
theorem dX0_changeOf_59 : decode cX0_changeOf 59 = .ok (.iaload, 1) := by decide +kernel
theorem dX0_changeOf_60 : decode cX0_changeOf 60 = .ok (.invokestatic 82, 3) := by decide +kernel
theorem dX0_changeOf_63 : decode cX0_changeOf 63 = .ok (.istore 4, 2) := by decide +kernel
theorem dX0_changeOf_65 : decode cX0_changeOf 65 = .ok (.iload_n 3, 1) := by decide +kernel
theorem dX0_changeOf_66 : decode cX0_changeOf 66 = .ok (.iload 4, 2) := by decide +kernel
theorem dX0_changeOf_68 : decode cX0_changeOf 68 = .ok (.if_icmp .ge 8, 3) := by decide +kernel
theorem dX0_changeOf_71 : decode cX0_changeOf 71 = .ok (.iload 4, 2) := by decide +kernel
theorem dX0_changeOf_73 : decode cX0_changeOf 73 = .ok (.goto 12, 3) := by decide +kernel
theorem dX0_changeOf_76 : decode cX0_changeOf 76 = .ok (.aload_n 0, 1) := by decide +kernel
theorem dX0_changeOf_77 : decode cX0_changeOf 77 = .ok (.getfield 27, 3) := by decide +kernel
theorem dX0_changeOf_80 : decode cX0_changeOf 80 = .ok (.iload_n 1, 1) := by decide +kernel
theorem dX0_changeOf_81 : decode cX0_changeOf 81 = .ok (.iaload, 1) := by decide +kernel
theorem dX0_changeOf_82 : decode cX0_changeOf 82 = .ok (.invokestatic 86, 3) := by decide +kernel
theorem dX0_changeOf_85 : decode cX0_changeOf 85 = .ok (.istore 5, 2) := by decide +kernel
theorem dX0_changeOf_87 : decode cX0_changeOf 87 = .ok (.iload_n 2, 1) := by decide +kernel
theorem dX0_changeOf_88 : decode cX0_changeOf 88 = .ok (.iload_n 3, 1) := by decide +kernel
theorem dX0_changeOf_89 : decode cX0_changeOf 89 = .ok (.isub, 1) := by decide +kernel
theorem dX0_changeOf_90 : decode cX0_changeOf 90 = .ok (.iload 5, 2) := by decide +kernel
theorem dX0_changeOf_92 : decode cX0_changeOf 92 = .ok (.iadd, 1) := by decide +kernel
theorem dX0_changeOf_93 : decode cX0_changeOf 93 = .ok (.aload_n 0, 1) := by decide +kernel
theorem dX0_changeOf_94 : decode cX0_changeOf 94 = .ok (.getfield 24, 3) := by decide +kernel
theorem dX0_changeOf_97 : decode cX0_changeOf 97 = .ok (.iload_n 1, 1) := by decide +kernel
theorem dX0_changeOf_98 : decode cX0_changeOf 98 = .ok (.iaload, 1) := by decide +kernel
theorem dX0_changeOf_99 : decode cX0_changeOf 99 = .ok (.invokestatic 60, 3) := by decide +kernel
theorem dX0_changeOf_102 : decode cX0_changeOf 102 = .ok (.ireturn, 1) := by decide +kernel
theorem dX0_holdsOn_0 : decode cX0_holdsOn 0 = .ok (.aload_n 0, 1) := by decide +kernel
theorem dX0_holdsOn_1 : decode cX0_holdsOn 1 = .ok (.iload_n 1, 1) := by decide +kernel
theorem dX0_holdsOn_2 : decode cX0_holdsOn 2 = .ok (.iload_n 2, 1) := by decide +kernel
theorem dX0_holdsOn_3 : decode cX0_holdsOn 3 = .ok (.invokevirtual 76, 3) := by decide +kernel
theorem dX0_holdsOn_6 : decode cX0_holdsOn 6 = .ok (.ifCond .eq 16, 3) := by decide +kernel
theorem dX0_holdsOn_9 : decode cX0_holdsOn 9 = .ok (.aload_n 0, 1) := by decide +kernel
theorem dX0_holdsOn_10 : decode cX0_holdsOn 10 = .ok (.iload_n 1, 1) := by decide +kernel
theorem dX0_holdsOn_11 : decode cX0_holdsOn 11 = .ok (.iload_n 3, 1) := by decide +kernel
theorem dX0_holdsOn_12 : decode cX0_holdsOn 12 = .ok (.invokevirtual 48, 3) := by decide +kernel
theorem dX0_holdsOn_15 : decode cX0_holdsOn 15 = .ok (.ifCond .eq 7, 3) := by decide +kernel
theorem dX0_holdsOn_18 : decode cX0_holdsOn 18 = .ok (.iconst 1, 1) := by decide +kernel
theorem dX0_holdsOn_19 : decode cX0_holdsOn 19 = .ok (.goto 4, 3) := by decide +kernel
theorem dX0_holdsOn_22 : decode cX0_holdsOn 22 = .ok (.iconst 0, 1) := by decide +kernel
theorem dX0_holdsOn_23 : decode cX0_holdsOn 23 = .ok (.ireturn, 1) := by decide +kernel
theorem dX0_covers_0 : decode cX0_covers 0 = .ok (.aload_n 0, 1) := by decide +kernel
theorem dX0_covers_1 : decode cX0_covers 1 = .ok (.getfield 15, 3) := by decide +kernel
theorem dX0_covers_4 : decode cX0_covers 4 = .ok (.iload_n 1, 1) := by decide +kernel
theorem dX0_covers_5 : decode cX0_covers 5 = .ok (.iaload, 1) := by decide +kernel
theorem dX0_covers_6 : decode cX0_covers 6 = .ok (.iload_n 2, 1) := by decide +kernel
theorem dX0_covers_7 : decode cX0_covers 7 = .ok (.invokestatic 89, 3) := by decide +kernel
theorem dX0_covers_10 : decode cX0_covers 10 = .ok (.if_icmp .ne 21, 3) := by decide +kernel
theorem dX0_covers_13 : decode cX0_covers 13 = .ok (.aload_n 0, 1) := by decide +kernel
theorem dX0_covers_14 : decode cX0_covers 14 = .ok (.getfield 18, 3) := by decide +kernel
theorem dX0_covers_17 : decode cX0_covers 17 = .ok (.iload_n 1, 1) := by decide +kernel
theorem dX0_covers_18 : decode cX0_covers 18 = .ok (.iaload, 1) := by decide +kernel
theorem dX0_covers_19 : decode cX0_covers 19 = .ok (.iload_n 2, 1) := by decide +kernel
theorem dX0_covers_20 : decode cX0_covers 20 = .ok (.invokestatic 92, 3) := by decide +kernel
theorem dX0_covers_23 : decode cX0_covers 23 = .ok (.iand, 1) := by decide +kernel
theorem dX0_covers_24 : decode cX0_covers 24 = .ok (.ifCond .eq 7, 3) := by decide +kernel
theorem dX0_covers_27 : decode cX0_covers 27 = .ok (.iconst 1, 1) := by decide +kernel
theorem dX0_covers_28 : decode cX0_covers 28 = .ok (.goto 4, 3) := by decide +kernel
theorem dX0_covers_31 : decode cX0_covers 31 = .ok (.iconst 0, 1) := by decide +kernel
theorem dX0_covers_32 : decode cX0_covers 32 = .ok (.ireturn, 1) := by decide +kernel
theorem dX0_holds_0 : decode cX0_holds 0 = .ok (.iload_n 2, 1) := by decide +kernel
theorem dX0_holds_1 : decode cX0_holds 1 = .ok (.aload_n 0, 1) := by decide +kernel
theorem dX0_holds_2 : decode cX0_holds 2 = .ok (.getfield 21, 3) := by decide +kernel
theorem dX0_holds_5 : decode cX0_holds 5 = .ok (.iload_n 1, 1) := by decide +kernel
theorem dX0_holds_6 : decode cX0_holds 6 = .ok (.iaload, 1) := by decide +kernel
theorem dX0_holds_7 : decode cX0_holds 7 = .ok (.if_icmp .lt 13, 3) := by decide +kernel
theorem dX0_holds_10 : decode cX0_holds 10 = .ok (.iload_n 2, 1) := by decide +kernel
theorem dX0_holds_11 : decode cX0_holds 11 = .ok (.aload_n 0, 1) := by decide +kernel
theorem dX0_holds_12 : decode cX0_holds 12 = .ok (.getfield 24, 3) := by decide +kernel
theorem dX0_holds_15 : decode cX0_holds 15 = .ok (.iload_n 1, 1) := by decide +kernel
theorem dX0_holds_16 : decode cX0_holds 16 = .ok (.iaload, 1) := by decide +kernel
theorem dX0_holds_17 : decode cX0_holds 17 = .ok (.if_icmp .lt 5, 3) := by decide +kernel
theorem dX0_holds_20 : decode cX0_holds 20 = .ok (.iconst 0, 1) := by decide +kernel
theorem dX0_holds_21 : decode cX0_holds 21 = .ok (.ireturn, 1) := by decide +kernel
theorem dX0_holds_22 : decode cX0_holds 22 = .ok (.aload_n 0, 1) := by decide +kernel
theorem dX0_holds_23 : decode cX0_holds 23 = .ok (.getfield 9, 3) := by decide +kernel
theorem dX0_holds_26 : decode cX0_holds 26 = .ok (.iload_n 1, 1) := by decide +kernel
theorem dX0_holds_27 : decode cX0_holds 27 = .ok (.iaload, 1) := by decide +kernel
theorem dX0_holds_28 : decode cX0_holds 28 = .ok (.tableswitch 84 1 4 #[32, 48, 84, 60], 32) := by decide +kernel
theorem dX0_holds_60 : decode cX0_holds 60 = .ok (.aload_n 0, 1) := by decide +kernel
theorem dX0_holds_61 : decode cX0_holds 61 = .ok (.getfield 30, 3) := by decide +kernel
theorem dX0_holds_64 : decode cX0_holds 64 = .ok (.iload_n 1, 1) := by decide +kernel
theorem dX0_holds_65 : decode cX0_holds 65 = .ok (.iaload, 1) := by decide +kernel
theorem dX0_holds_66 : decode cX0_holds 66 = .ok (.iconst 1, 1) := by decide +kernel
theorem dX0_holds_67 : decode cX0_holds 67 = .ok (.if_icmp .ne 7, 3) := by decide +kernel
theorem dX0_holds_70 : decode cX0_holds 70 = .ok (.iconst 1, 1) := by decide +kernel
theorem dX0_holds_71 : decode cX0_holds 71 = .ok (.goto 4, 3) := by decide +kernel
theorem dX0_holds_74 : decode cX0_holds 74 = .ok (.iconst 0, 1) := by decide +kernel
theorem dX0_holds_75 : decode cX0_holds 75 = .ok (.ireturn, 1) := by decide +kernel
theorem dX0_holds_76 : decode cX0_holds 76 = .ok (.aload_n 0, 1) := by decide +kernel
theorem dX0_holds_77 : decode cX0_holds 77 = .ok (.getfield 36, 3) := by decide +kernel
theorem dX0_holds_80 : decode cX0_holds 80 = .ok (.aload_n 0, 1) := by decide +kernel
theorem dX0_holds_81 : decode cX0_holds 81 = .ok (.getfield 27, 3) := by decide +kernel
theorem dX0_holds_84 : decode cX0_holds 84 = .ok (.iload_n 1, 1) := by decide +kernel
theorem dX0_holds_85 : decode cX0_holds 85 = .ok (.iaload, 1) := by decide +kernel
theorem dX0_holds_86 : decode cX0_holds 86 = .ok (.baload, 1) := by decide +kernel
theorem dX0_holds_87 : decode cX0_holds 87 = .ok (.ireturn, 1) := by decide +kernel
theorem dX0_holds_88 : decode cX0_holds 88 = .ok (.aload_n 0, 1) := by decide +kernel
theorem dX0_holds_89 : decode cX0_holds 89 = .ok (.iload_n 1, 1) := by decide +kernel
theorem dX0_holds_90 : decode cX0_holds 90 = .ok (.iload_n 2, 1) := by decide +kernel
theorem dX0_holds_91 : decode cX0_holds 91 = .ok (.invokevirtual 79, 3) := by decide +kernel
theorem dX0_holds_94 : decode cX0_holds 94 = .ok (.aload_n 0, 1) := by decide +kernel
theorem dX0_holds_95 : decode cX0_holds 95 = .ok (.getfield 27, 3) := by decide +kernel
theorem dX0_holds_98 : decode cX0_holds 98 = .ok (.iload_n 1, 1) := by decide +kernel
theorem dX0_holds_99 : decode cX0_holds 99 = .ok (.iaload, 1) := by decide +kernel
theorem dX0_holds_100 : decode cX0_holds 100 = .ok (.invokestatic 82, 3) := by decide +kernel
theorem dX0_holds_103 : decode cX0_holds 103 = .ok (.if_icmp .ge 7, 3) := by decide +kernel
theorem dX0_holds_106 : decode cX0_holds 106 = .ok (.iconst 1, 1) := by decide +kernel
theorem dX0_holds_107 : decode cX0_holds 107 = .ok (.goto 4, 3) := by decide +kernel
theorem dX0_holds_110 : decode cX0_holds 110 = .ok (.iconst 0, 1) := by decide +kernel
theorem dX0_holds_111 : decode cX0_holds 111 = .ok (.ireturn, 1) := by decide +kernel
theorem dX0_holds_112 : decode cX0_holds 112 = .ok (.iconst 1, 1) := by decide +kernel
theorem dX0_holds_113 : decode cX0_holds 113 = .ok (.ireturn, 1) := by decide +kernel
theorem dX0_minuteOfPeriod_0 : decode cX0_minuteOfPeriod 0 = .ok (.iload_n 2, 1) := by decide +kernel
theorem dX0_minuteOfPeriod_1 : decode cX0_minuteOfPeriod 1 = .ok (.aload_n 0, 1) := by decide +kernel
theorem dX0_minuteOfPeriod_2 : decode cX0_minuteOfPeriod 2 = .ok (.getfield 21, 3) := by decide +kernel
theorem dX0_minuteOfPeriod_5 : decode cX0_minuteOfPeriod 5 = .ok (.iload_n 1, 1) := by decide +kernel
theorem dX0_minuteOfPeriod_6 : decode cX0_minuteOfPeriod 6 = .ok (.iaload, 1) := by decide +kernel
theorem dX0_minuteOfPeriod_7 : decode cX0_minuteOfPeriod 7 = .ok (.isub, 1) := by decide +kernel
theorem dX0_minuteOfPeriod_8 : decode cX0_minuteOfPeriod 8 = .ok (.aload_n 0, 1) := by decide +kernel
theorem dX0_minuteOfPeriod_9 : decode cX0_minuteOfPeriod 9 = .ok (.getfield 27, 3) := by decide +kernel
theorem dX0_minuteOfPeriod_12 : decode cX0_minuteOfPeriod 12 = .ok (.iload_n 1, 1) := by decide +kernel
theorem dX0_minuteOfPeriod_13 : decode cX0_minuteOfPeriod 13 = .ok (.iaload, 1) := by decide +kernel
theorem dX0_minuteOfPeriod_14 : decode cX0_minuteOfPeriod 14 = .ok (.invokestatic 86, 3) := by decide +kernel
theorem dX0_minuteOfPeriod_17 : decode cX0_minuteOfPeriod 17 = .ok (.irem, 1) := by decide +kernel
theorem dX0_minuteOfPeriod_18 : decode cX0_minuteOfPeriod 18 = .ok (.ireturn, 1) := by decide +kernel
theorem dX1_init_0 : decode cX1_init 0 = .ok (.aload_n 0, 1) := by decide +kernel
theorem dX1_init_1 : decode cX1_init 1 = .ok (.invokespecial 3, 3) := by decide +kernel
theorem dX1_init_4 : decode cX1_init 4 = .ok (.aload_n 0, 1) := by decide +kernel
theorem dX1_init_5 : decode cX1_init 5 = .ok (.sipush 500, 3) := by decide +kernel
theorem dX1_init_8 : decode cX1_init 8 = .ok (.newarray .int, 2) := by decide +kernel
theorem dX1_init_10 : decode cX1_init 10 = .ok (.putfield 9, 3) := by decide +kernel
theorem dX1_init_13 : decode cX1_init 13 = .ok (.aload_n 0, 1) := by decide +kernel
theorem dX1_init_14 : decode cX1_init 14 = .ok (.iconst 0, 1) := by decide +kernel
theorem dX1_init_15 : decode cX1_init 15 = .ok (.putfield 15, 3) := by decide +kernel
theorem dX1_init_18 : decode cX1_init 18 = .ok (.return_, 1) := by decide +kernel
theorem dX1_total_0 : decode cX1_total 0 = .ok (.aload_n 0, 1) := by decide +kernel
theorem dX1_total_1 : decode cX1_total 1 = .ok (.getfield 15, 3) := by decide +kernel
theorem dX1_total_4 : decode cX1_total 4 = .ok (.ireturn, 1) := by decide +kernel
theorem dX1_isKept_0 : decode cX1_isKept 0 = .ok (.iload_n 1, 1) := by decide +kernel
theorem dX1_isKept_1 : decode cX1_isKept 1 = .ok (.ifCond .lt 26, 3) := by decide +kernel
theorem dX1_isKept_4 : decode cX1_isKept 4 = .ok (.iload_n 1, 1) := by decide +kernel
theorem dX1_isKept_5 : decode cX1_isKept 5 = .ok (.aload_n 0, 1) := by decide +kernel
theorem dX1_isKept_6 : decode cX1_isKept 6 = .ok (.getfield 15, 3) := by decide +kernel
theorem dX1_isKept_9 : decode cX1_isKept 9 = .ok (.if_icmp .ge 18, 3) := by decide +kernel
theorem dX1_isKept_12 : decode cX1_isKept 12 = .ok (.iload_n 1, 1) := by decide +kernel
theorem dX1_isKept_13 : decode cX1_isKept 13 = .ok (.aload_n 0, 1) := by decide +kernel
theorem dX1_isKept_14 : decode cX1_isKept 14 = .ok (.getfield 15, 3) := by decide +kernel
theorem dX1_isKept_17 : decode cX1_isKept 17 = .ok (.bipush 100, 2) := by decide +kernel
theorem dX1_isKept_19 : decode cX1_isKept 19 = .ok (.isub, 1) := by decide +kernel
theorem dX1_isKept_20 : decode cX1_isKept 20 = .ok (.if_icmp .lt 7, 3) := by decide +kernel
theorem dX1_isKept_23 : decode cX1_isKept 23 = .ok (.iconst 1, 1) := by decide +kernel
theorem dX1_isKept_24 : decode cX1_isKept 24 = .ok (.goto 4, 3) := by decide +kernel
theorem dX1_isKept_27 : decode cX1_isKept 27 = .ok (.iconst 0, 1) := by decide +kernel
theorem dX1_isKept_28 : decode cX1_isKept 28 = .ok (.ireturn, 1) := by decide +kernel
theorem dX1_get_0 : decode cX1_get 0 = .ok (.aload_n 0, 1) := by decide +kernel
theorem dX1_get_1 : decode cX1_get 1 = .ok (.getfield 9, 3) := by decide +kernel
theorem dX1_get_4 : decode cX1_get 4 = .ok (.iload_n 1, 1) := by decide +kernel
theorem dX1_get_5 : decode cX1_get 5 = .ok (.invokestatic 19, 3) := by decide +kernel
theorem dX1_get_8 : decode cX1_get 8 = .ok (.iload_n 2, 1) := by decide +kernel
theorem dX1_get_9 : decode cX1_get 9 = .ok (.iadd, 1) := by decide +kernel
theorem dX1_get_10 : decode cX1_get 10 = .ok (.iaload, 1) := by decide +kernel
theorem dX1_get_11 : decode cX1_get 11 = .ok (.ireturn, 1) := by decide +kernel
theorem dX1_add_0 : decode cX1_add 0 = .ok (.aload_n 0, 1) := by decide +kernel
theorem dX1_add_1 : decode cX1_add 1 = .ok (.getfield 15, 3) := by decide +kernel
theorem dX1_add_4 : decode cX1_add 4 = .ok (.invokestatic 19, 3) := by decide +kernel
theorem dX1_add_7 : decode cX1_add 7 = .ok (.istore 5, 2) := by decide +kernel
theorem dX1_add_9 : decode cX1_add 9 = .ok (.aload_n 0, 1) := by decide +kernel
theorem dX1_add_10 : decode cX1_add 10 = .ok (.getfield 9, 3) := by decide +kernel
theorem dX1_add_13 : decode cX1_add 13 = .ok (.iload 5, 2) := by decide +kernel
theorem dX1_add_15 : decode cX1_add 15 = .ok (.iload_n 1, 1) := by decide +kernel
theorem dX1_add_16 : decode cX1_add 16 = .ok (.iastore, 1) := by decide +kernel
theorem dX1_add_17 : decode cX1_add 17 = .ok (.aload_n 0, 1) := by decide +kernel
theorem dX1_add_18 : decode cX1_add 18 = .ok (.getfield 9, 3) := by decide +kernel
theorem dX1_add_21 : decode cX1_add 21 = .ok (.iload 5, 2) := by decide +kernel
theorem dX1_add_23 : decode cX1_add 23 = .ok (.iconst 1, 1) := by decide +kernel
theorem dX1_add_24 : decode cX1_add 24 = .ok (.iadd, 1) := by decide +kernel
theorem dX1_add_25 : decode cX1_add 25 = .ok (.iload_n 2, 1) := by decide +kernel
theorem dX1_add_26 : decode cX1_add 26 = .ok (.invokestatic 23, 3) := by decide +kernel
theorem dX1_add_29 : decode cX1_add 29 = .ok (.iastore, 1) := by decide +kernel
theorem dX1_add_30 : decode cX1_add 30 = .ok (.aload_n 0, 1) := by decide +kernel
theorem dX1_add_31 : decode cX1_add 31 = .ok (.getfield 9, 3) := by decide +kernel
theorem dX1_add_34 : decode cX1_add 34 = .ok (.iload 5, 2) := by decide +kernel
theorem dX1_add_36 : decode cX1_add 36 = .ok (.iconst 2, 1) := by decide +kernel
theorem dX1_add_37 : decode cX1_add 37 = .ok (.iadd, 1) := by decide +kernel
theorem dX1_add_38 : decode cX1_add 38 = .ok (.iload_n 2, 1) := by decide +kernel
theorem dX1_add_39 : decode cX1_add 39 = .ok (.invokestatic 26, 3) := by decide +kernel
theorem dX1_add_42 : decode cX1_add 42 = .ok (.iastore, 1) := by decide +kernel
theorem dX1_add_43 : decode cX1_add 43 = .ok (.aload_n 0, 1) := by decide +kernel
theorem dX1_add_44 : decode cX1_add 44 = .ok (.getfield 9, 3) := by decide +kernel
theorem dX1_add_47 : decode cX1_add 47 = .ok (.iload 5, 2) := by decide +kernel
theorem dX1_add_49 : decode cX1_add 49 = .ok (.iconst 3, 1) := by decide +kernel
theorem dX1_add_50 : decode cX1_add 50 = .ok (.iadd, 1) := by decide +kernel
theorem dX1_add_51 : decode cX1_add 51 = .ok (.iload_n 3, 1) := by decide +kernel
theorem dX1_add_52 : decode cX1_add 52 = .ok (.ifCond .eq 7, 3) := by decide +kernel
theorem dX1_add_55 : decode cX1_add 55 = .ok (.iconst 1, 1) := by decide +kernel
theorem dX1_add_56 : decode cX1_add 56 = .ok (.goto 4, 3) := by decide +kernel
theorem dX1_add_59 : decode cX1_add 59 = .ok (.iconst 0, 1) := by decide +kernel
theorem dX1_add_60 : decode cX1_add 60 = .ok (.iastore, 1) := by decide +kernel
theorem dX1_add_61 : decode cX1_add 61 = .ok (.aload_n 0, 1) := by decide +kernel
theorem dX1_add_62 : decode cX1_add 62 = .ok (.getfield 9, 3) := by decide +kernel
theorem dX1_add_65 : decode cX1_add 65 = .ok (.iload 5, 2) := by decide +kernel
theorem dX1_add_67 : decode cX1_add 67 = .ok (.iconst 4, 1) := by decide +kernel
theorem dX1_add_68 : decode cX1_add 68 = .ok (.iadd, 1) := by decide +kernel
theorem dX1_add_69 : decode cX1_add 69 = .ok (.iload 4, 2) := by decide +kernel
theorem dX1_add_71 : decode cX1_add 71 = .ok (.iastore, 1) := by decide +kernel
theorem dX1_add_72 : decode cX1_add 72 = .ok (.aload_n 0, 1) := by decide +kernel
theorem dX1_add_73 : decode cX1_add 73 = .ok (.dup, 1) := by decide +kernel
theorem dX1_add_74 : decode cX1_add 74 = .ok (.getfield 15, 3) := by decide +kernel
theorem dX1_add_77 : decode cX1_add 77 = .ok (.iconst 1, 1) := by decide +kernel
theorem dX1_add_78 : decode cX1_add 78 = .ok (.iadd, 1) := by decide +kernel
theorem dX1_add_79 : decode cX1_add 79 = .ok (.putfield 15, 3) := by decide +kernel
theorem dX1_add_82 : decode cX1_add 82 = .ok (.return_, 1) := by decide +kernel
theorem dX1_firstOf_0 : decode cX1_firstOf 0 = .ok (.iload_n 0, 1) := by decide +kernel
theorem dX1_firstOf_1 : decode cX1_firstOf 1 = .ok (.bipush 100, 2) := by decide +kernel
theorem dX1_firstOf_3 : decode cX1_firstOf 3 = .ok (.invokestatic 29, 3) := by decide +kernel
theorem dX1_firstOf_6 : decode cX1_firstOf 6 = .ok (.iconst 5, 1) := by decide +kernel
theorem dX1_firstOf_7 : decode cX1_firstOf 7 = .ok (.imul, 1) := by decide +kernel
theorem dX1_firstOf_8 : decode cX1_firstOf 8 = .ok (.ireturn, 1) := by decide +kernel
theorem dX2_init_0 : decode cX2_init 0 = .ok (.aload_n 0, 1) := by decide +kernel
theorem dX2_init_1 : decode cX2_init 1 = .ok (.invokespecial 3, 3) := by decide +kernel
theorem dX2_init_4 : decode cX2_init 4 = .ok (.aload_n 0, 1) := by decide +kernel
theorem dX2_init_5 : decode cX2_init 5 = .ok (.bipush 120, 2) := by decide +kernel
theorem dX2_init_7 : decode cX2_init 7 = .ok (.newarray .int, 2) := by decide +kernel
theorem dX2_init_9 : decode cX2_init 9 = .ok (.putfield 9, 3) := by decide +kernel
theorem dX2_init_12 : decode cX2_init 12 = .ok (.aload_n 0, 1) := by decide +kernel
theorem dX2_init_13 : decode cX2_init 13 = .ok (.bipush 10, 2) := by decide +kernel
theorem dX2_init_15 : decode cX2_init 15 = .ok (.newarray .int, 2) := by decide +kernel
theorem dX2_init_17 : decode cX2_init 17 = .ok (.putfield 15, 3) := by decide +kernel
theorem dX2_init_20 : decode cX2_init 20 = .ok (.return_, 1) := by decide +kernel
end
section
theorem dX2_empty_0 : decode cX2_empty 0 = .ok (.aload_n 0, 1) := by decide +kernel
theorem dX2_empty_1 : decode cX2_empty 1 = .ok (.getfield 15, 3) := by decide +kernel
theorem dX2_empty_4 : decode cX2_empty 4 = .ok (.iload_n 1, 1) := by decide +kernel
theorem dX2_empty_5 : decode cX2_empty 5 = .ok (.iconst 0, 1) := by decide +kernel
theorem dX2_empty_6 : decode cX2_empty 6 = .ok (.iastore, 1) := by decide +kernel
theorem dX2_empty_7 : decode cX2_empty 7 = .ok (.return_, 1) := by decide +kernel
theorem dX2_isFull_0 : decode cX2_isFull 0 = .ok (.aload_n 0, 1) := by decide +kernel
theorem dX2_isFull_1 : decode cX2_isFull 1 = .ok (.getfield 15, 3) := by decide +kernel
theorem dX2_isFull_4 : decode cX2_isFull 4 = .ok (.iload_n 1, 1) := by decide +kernel
theorem dX2_isFull_5 : decode cX2_isFull 5 = .ok (.iaload, 1) := by decide +kernel
theorem dX2_isFull_6 : decode cX2_isFull 6 = .ok (.bipush 12, 2) := by decide +kernel
theorem dX2_isFull_8 : decode cX2_isFull 8 = .ok (.if_icmp .lt 7, 3) := by decide +kernel
theorem dX2_isFull_11 : decode cX2_isFull 11 = .ok (.iconst 1, 1) := by decide +kernel
theorem dX2_isFull_12 : decode cX2_isFull 12 = .ok (.goto 4, 3) := by decide +kernel
theorem dX2_isFull_15 : decode cX2_isFull 15 = .ok (.iconst 0, 1) := by decide +kernel
theorem dX2_isFull_16 : decode cX2_isFull 16 = .ok (.ireturn, 1) := by decide +kernel
theorem dX2_add_0 : decode cX2_add 0 = .ok (.aload_n 0, 1) := by decide +kernel
theorem dX2_add_1 : decode cX2_add 1 = .ok (.getfield 9, 3) := by decide +kernel
theorem dX2_add_4 : decode cX2_add 4 = .ok (.iload_n 1, 1) := by decide +kernel
theorem dX2_add_5 : decode cX2_add 5 = .ok (.bipush 12, 2) := by decide +kernel
theorem dX2_add_7 : decode cX2_add 7 = .ok (.imul, 1) := by decide +kernel
theorem dX2_add_8 : decode cX2_add 8 = .ok (.aload_n 0, 1) := by decide +kernel
theorem dX2_add_9 : decode cX2_add 9 = .ok (.getfield 15, 3) := by decide +kernel
theorem dX2_add_12 : decode cX2_add 12 = .ok (.iload_n 1, 1) := by decide +kernel
theorem dX2_add_13 : decode cX2_add 13 = .ok (.iaload, 1) := by decide +kernel
theorem dX2_add_14 : decode cX2_add 14 = .ok (.iadd, 1) := by decide +kernel
theorem dX2_add_15 : decode cX2_add 15 = .ok (.iload_n 2, 1) := by decide +kernel
theorem dX2_add_16 : decode cX2_add 16 = .ok (.iastore, 1) := by decide +kernel
theorem dX2_add_17 : decode cX2_add 17 = .ok (.aload_n 0, 1) := by decide +kernel
theorem dX2_add_18 : decode cX2_add 18 = .ok (.getfield 15, 3) := by decide +kernel
theorem dX2_add_21 : decode cX2_add 21 = .ok (.iload_n 1, 1) := by decide +kernel
theorem dX2_add_22 : decode cX2_add 22 = .ok (.dup2, 1) := by decide +kernel
theorem dX2_add_23 : decode cX2_add 23 = .ok (.iaload, 1) := by decide +kernel
theorem dX2_add_24 : decode cX2_add 24 = .ok (.iconst 1, 1) := by decide +kernel
theorem dX2_add_25 : decode cX2_add 25 = .ok (.iadd, 1) := by decide +kernel
theorem dX2_add_26 : decode cX2_add 26 = .ok (.iastore, 1) := by decide +kernel
theorem dX2_add_27 : decode cX2_add 27 = .ok (.aload_n 0, 1) := by decide +kernel
theorem dX2_add_28 : decode cX2_add 28 = .ok (.getfield 15, 3) := by decide +kernel
theorem dX2_add_31 : decode cX2_add 31 = .ok (.iload_n 1, 1) := by decide +kernel
theorem dX2_add_32 : decode cX2_add 32 = .ok (.iaload, 1) := by decide +kernel
theorem dX2_add_33 : decode cX2_add 33 = .ok (.ireturn, 1) := by decide +kernel
theorem dX2_length_0 : decode cX2_length 0 = .ok (.aload_n 0, 1) := by decide +kernel
theorem dX2_length_1 : decode cX2_length 1 = .ok (.getfield 15, 3) := by decide +kernel
theorem dX2_length_4 : decode cX2_length 4 = .ok (.iload_n 1, 1) := by decide +kernel
theorem dX2_length_5 : decode cX2_length 5 = .ok (.iaload, 1) := by decide +kernel
theorem dX2_length_6 : decode cX2_length 6 = .ok (.ireturn, 1) := by decide +kernel
theorem dX2_stepOf_0 : decode cX2_stepOf 0 = .ok (.aload_n 0, 1) := by decide +kernel
theorem dX2_stepOf_1 : decode cX2_stepOf 1 = .ok (.getfield 9, 3) := by decide +kernel
theorem dX2_stepOf_4 : decode cX2_stepOf 4 = .ok (.iload_n 1, 1) := by decide +kernel
theorem dX2_stepOf_5 : decode cX2_stepOf 5 = .ok (.bipush 12, 2) := by decide +kernel
theorem dX2_stepOf_7 : decode cX2_stepOf 7 = .ok (.imul, 1) := by decide +kernel
theorem dX2_stepOf_8 : decode cX2_stepOf 8 = .ok (.iload_n 2, 1) := by decide +kernel
theorem dX2_stepOf_9 : decode cX2_stepOf 9 = .ok (.iadd, 1) := by decide +kernel
theorem dX2_stepOf_10 : decode cX2_stepOf 10 = .ok (.iaload, 1) := by decide +kernel
theorem dX2_stepOf_11 : decode cX2_stepOf 11 = .ok (.ireturn, 1) := by decide +kernel
theorem dX2_leadsOver_0 : decode cX2_leadsOver 0 = .ok (.iconst 0, 1) := by decide +kernel
theorem dX2_leadsOver_1 : decode cX2_leadsOver 1 = .ok (.istore_n 3, 1) := by decide +kernel
theorem dX2_leadsOver_2 : decode cX2_leadsOver 2 = .ok (.iload_n 3, 1) := by decide +kernel
theorem dX2_leadsOver_3 : decode cX2_leadsOver 3 = .ok (.aload_n 0, 1) := by decide +kernel
theorem dX2_leadsOver_4 : decode cX2_leadsOver 4 = .ok (.getfield 15, 3) := by decide +kernel
theorem dX2_leadsOver_7 : decode cX2_leadsOver 7 = .ok (.iload_n 1, 1) := by decide +kernel
theorem dX2_leadsOver_8 : decode cX2_leadsOver 8 = .ok (.iaload, 1) := by decide +kernel
theorem dX2_leadsOver_9 : decode cX2_leadsOver 9 = .ok (.if_icmp .ge 21, 3) := by decide +kernel
theorem dX2_leadsOver_12 : decode cX2_leadsOver 12 = .ok (.aload_n 0, 1) := by decide +kernel
theorem dX2_leadsOver_13 : decode cX2_leadsOver 13 = .ok (.iload_n 1, 1) := by decide +kernel
theorem dX2_leadsOver_14 : decode cX2_leadsOver 14 = .ok (.iload_n 3, 1) := by decide +kernel
theorem dX2_leadsOver_15 : decode cX2_leadsOver 15 = .ok (.invokevirtual 18, 3) := by decide +kernel
theorem dX2_leadsOver_18 : decode cX2_leadsOver 18 = .ok (.iload_n 2, 1) := by decide +kernel
theorem dX2_leadsOver_19 : decode cX2_leadsOver 19 = .ok (.if_icmp .ne 5, 3) := by decide +kernel
theorem dX2_leadsOver_22 : decode cX2_leadsOver 22 = .ok (.iconst 1, 1) := by decide +kernel
theorem dX2_leadsOver_23 : decode cX2_leadsOver 23 = .ok (.ireturn, 1) := by decide +kernel
theorem dX2_leadsOver_24 : decode cX2_leadsOver 24 = .ok (.iinc 3 1, 3) := by decide +kernel
theorem dX2_leadsOver_27 : decode cX2_leadsOver 27 = .ok (.goto (-25), 3) := by decide +kernel
theorem dX2_leadsOver_30 : decode cX2_leadsOver 30 = .ok (.iconst 0, 1) := by decide +kernel
theorem dX2_leadsOver_31 : decode cX2_leadsOver 31 = .ok (.ireturn, 1) := by decide +kernel
theorem dX3_init_0 : decode cX3_init 0 = .ok (.aload_n 0, 1) := by decide +kernel
theorem dX3_init_1 : decode cX3_init 1 = .ok (.invokespecial 3, 3) := by decide +kernel
theorem dX3_init_4 : decode cX3_init 4 = .ok (.aload_n 0, 1) := by decide +kernel
theorem dX3_init_5 : decode cX3_init 5 = .ok (.new 9, 3) := by decide +kernel
theorem dX3_init_8 : decode cX3_init 8 = .ok (.dup, 1) := by decide +kernel
theorem dX3_init_9 : decode cX3_init 9 = .ok (.invokespecial 11, 3) := by decide +kernel
theorem dX3_init_12 : decode cX3_init 12 = .ok (.putfield 12, 3) := by decide +kernel
theorem dX3_init_15 : decode cX3_init 15 = .ok (.aload_n 0, 1) := by decide +kernel
theorem dX3_init_16 : decode cX3_init 16 = .ok (.new 16, 3) := by decide +kernel
theorem dX3_init_19 : decode cX3_init 19 = .ok (.dup, 1) := by decide +kernel
theorem dX3_init_20 : decode cX3_init 20 = .ok (.invokespecial 18, 3) := by decide +kernel
theorem dX3_init_23 : decode cX3_init 23 = .ok (.putfield 19, 3) := by decide +kernel
theorem dX3_init_26 : decode cX3_init 26 = .ok (.aload_n 0, 1) := by decide +kernel
theorem dX3_init_27 : decode cX3_init 27 = .ok (.new 23, 3) := by decide +kernel
theorem dX3_init_30 : decode cX3_init 30 = .ok (.dup, 1) := by decide +kernel
theorem dX3_init_31 : decode cX3_init 31 = .ok (.invokespecial 25, 3) := by decide +kernel
theorem dX3_init_34 : decode cX3_init 34 = .ok (.putfield 26, 3) := by decide +kernel
theorem dX3_init_37 : decode cX3_init 37 = .ok (.aload_n 0, 1) := by decide +kernel
theorem dX3_init_38 : decode cX3_init 38 = .ok (.bipush 120, 2) := by decide +kernel
theorem dX3_init_40 : decode cX3_init 40 = .ok (.newarray .boolean, 2) := by decide +kernel
theorem dX3_init_42 : decode cX3_init 42 = .ok (.putfield 30, 3) := by decide +kernel
theorem dX3_init_45 : decode cX3_init 45 = .ok (.aload_n 0, 1) := by decide +kernel
theorem dX3_init_46 : decode cX3_init 46 = .ok (.bipush 120, 2) := by decide +kernel
theorem dX3_init_48 : decode cX3_init 48 = .ok (.newarray .boolean, 2) := by decide +kernel
theorem dX3_init_50 : decode cX3_init 50 = .ok (.putfield 34, 3) := by decide +kernel
theorem dX3_init_53 : decode cX3_init 53 = .ok (.aload_n 0, 1) := by decide +kernel
theorem dX3_init_54 : decode cX3_init 54 = .ok (.iconst 0, 1) := by decide +kernel
theorem dX3_init_55 : decode cX3_init 55 = .ok (.putfield 37, 3) := by decide +kernel
theorem dX3_init_58 : decode cX3_init 58 = .ok (.return_, 1) := by decide +kernel
theorem dX3_close_0 : decode cX3_close 0 = .ok (.iload_n 1, 1) := by decide +kernel
theorem dX3_close_1 : decode cX3_close 1 = .ok (.iload 6, 2) := by decide +kernel
theorem dX3_close_3 : decode cX3_close 3 = .ok (.invokestatic 41, 3) := by decide +kernel
theorem dX3_close_6 : decode cX3_close 6 = .ok (.iload_n 2, 1) := by decide +kernel
theorem dX3_close_7 : decode cX3_close 7 = .ok (.invokestatic 45, 3) := by decide +kernel
theorem dX3_close_10 : decode cX3_close 10 = .ok (.iload_n 3, 1) := by decide +kernel
theorem dX3_close_11 : decode cX3_close 11 = .ok (.iconst 1, 1) := by decide +kernel
theorem dX3_close_12 : decode cX3_close 12 = .ok (.if_icmp .lt 8, 3) := by decide +kernel
theorem dX3_close_15 : decode cX3_close 15 = .ok (.iload_n 3, 1) := by decide +kernel
theorem dX3_close_16 : decode cX3_close 16 = .ok (.iconst 3, 1) := by decide +kernel
theorem dX3_close_17 : decode cX3_close 17 = .ok (.if_icmp .le 13, 3) := by decide +kernel
theorem dX3_close_20 : decode cX3_close 20 = .ok (.new 49, 3) := by decide +kernel
theorem dX3_close_23 : decode cX3_close 23 = .ok (.dup, 1) := by decide +kernel
theorem dX3_close_24 : decode cX3_close 24 = .ok (.ldc 51, 2) := by decide +kernel
theorem dX3_close_26 : decode cX3_close 26 = .ok (.invokespecial 53, 3) := by decide +kernel
theorem dX3_close_29 : decode cX3_close 29 = .ok (.athrow, 1) := by decide +kernel
theorem dX3_close_30 : decode cX3_close 30 = .ok (.iload 4, 2) := by decide +kernel
theorem dX3_close_32 : decode cX3_close 32 = .ok (.invokestatic 56, 3) := by decide +kernel
theorem dX3_close_35 : decode cX3_close 35 = .ok (.iload_n 1, 1) := by decide +kernel
theorem dX3_close_36 : decode cX3_close 36 = .ok (.iload 4, 2) := by decide +kernel
theorem dX3_close_38 : decode cX3_close 38 = .ok (.iload 5, 2) := by decide +kernel
theorem dX3_close_40 : decode cX3_close 40 = .ok (.invokestatic 59, 3) := by decide +kernel
theorem dX3_close_43 : decode cX3_close 43 = .ok (.iload_n 1, 1) := by decide +kernel
theorem dX3_close_44 : decode cX3_close 44 = .ok (.iload 6, 2) := by decide +kernel
theorem dX3_close_46 : decode cX3_close 46 = .ok (.invokestatic 63, 3) := by decide +kernel
theorem dX3_close_49 : decode cX3_close 49 = .ok (.aload_n 0, 1) := by decide +kernel
theorem dX3_close_50 : decode cX3_close 50 = .ok (.getfield 12, 3) := by decide +kernel
theorem dX3_close_53 : decode cX3_close 53 = .ok (.invokevirtual 66, 3) := by decide +kernel
theorem dX3_close_56 : decode cX3_close 56 = .ok (.ifCond .eq 13, 3) := by decide +kernel
theorem dX3_close_59 : decode cX3_close 59 = .ok (.new 70, 3) := by decide +kernel
theorem dX3_close_62 : decode cX3_close 62 = .ok (.dup, 1) := by decide +kernel
theorem dX3_close_63 : decode cX3_close 63 = .ok (.ldc 72, 2) := by decide +kernel
theorem dX3_close_65 : decode cX3_close 65 = .ok (.invokespecial 74, 3) := by decide +kernel
theorem dX3_close_68 : decode cX3_close 68 = .ok (.athrow, 1) := by decide +kernel
theorem dX3_close_69 : decode cX3_close 69 = .ok (.aload_n 0, 1) := by decide +kernel
theorem dX3_close_70 : decode cX3_close 70 = .ok (.getfield 12, 3) := by decide +kernel
theorem dX3_close_73 : decode cX3_close 73 = .ok (.iload_n 1, 1) := by decide +kernel
theorem dX3_close_74 : decode cX3_close 74 = .ok (.iload_n 2, 1) := by decide +kernel
theorem dX3_close_75 : decode cX3_close 75 = .ok (.iload_n 3, 1) := by decide +kernel
theorem dX3_close_76 : decode cX3_close 76 = .ok (.iload 4, 2) := by decide +kernel
theorem dX3_close_78 : decode cX3_close 78 = .ok (.iload_n 1, 1) := by decide +kernel
theorem dX3_close_79 : decode cX3_close 79 = .ok (.invokestatic 75, 3) := by decide +kernel
theorem dX3_close_82 : decode cX3_close 82 = .ok (.ifCond .eq 8, 3) := by decide +kernel
theorem dX3_close_85 : decode cX3_close 85 = .ok (.iload 5, 2) := by decide +kernel
theorem dX3_close_87 : decode cX3_close 87 = .ok (.goto 5, 3) := by decide +kernel
theorem dX3_close_90 : decode cX3_close 90 = .ok (.ldc 79, 2) := by decide +kernel
theorem dX3_close_92 : decode cX3_close 92 = .ok (.iload 6, 2) := by decide +kernel
theorem dX3_close_94 : decode cX3_close 94 = .ok (.invokevirtual 80, 3) := by decide +kernel
theorem dX3_close_97 : decode cX3_close 97 = .ok (.istore 7, 2) := by decide +kernel
theorem dX3_close_99 : decode cX3_close 99 = .ok (.aload_n 0, 1) := by decide +kernel
theorem dX3_close_100 : decode cX3_close 100 = .ok (.invokevirtual 84, 3) := by decide +kernel
theorem dX3_close_103 : decode cX3_close 103 = .ok (.iload 7, 2) := by decide +kernel
theorem dX3_close_105 : decode cX3_close 105 = .ok (.ireturn, 1) := by decide +kernel
theorem dX3_answer_0 : decode cX3_answer 0 = .ok (.aload_n 0, 1) := by decide +kernel
theorem dX3_answer_1 : decode cX3_answer 1 = .ok (.iload_n 1, 1) := by decide +kernel
theorem dX3_answer_2 : decode cX3_answer 2 = .ok (.invokevirtual 87, 3) := by decide +kernel
theorem dX3_answer_5 : decode cX3_answer 5 = .ok (.aload_n 0, 1) := by decide +kernel
theorem dX3_answer_6 : decode cX3_answer 6 = .ok (.getfield 12, 3) := by decide +kernel
theorem dX3_answer_9 : decode cX3_answer 9 = .ok (.iload_n 1, 1) := by decide +kernel
theorem dX3_answer_10 : decode cX3_answer 10 = .ok (.invokevirtual 90, 3) := by decide +kernel
theorem dX3_answer_13 : decode cX3_answer 13 = .ok (.ifCond .ne 13, 3) := by decide +kernel
theorem dX3_answer_16 : decode cX3_answer 16 = .ok (.new 93, 3) := by decide +kernel
theorem dX3_answer_19 : decode cX3_answer 19 = .ok (.dup, 1) := by decide +kernel
theorem dX3_answer_20 : decode cX3_answer 20 = .ok (.ldc 95, 2) := by decide +kernel
theorem dX3_answer_22 : decode cX3_answer 22 = .ok (.invokespecial 97, 3) := by decide +kernel
theorem dX3_answer_25 : decode cX3_answer 25 = .ok (.athrow, 1) := by decide +kernel
theorem dX3_answer_26 : decode cX3_answer 26 = .ok (.aload_n 0, 1) := by decide +kernel
theorem dX3_answer_27 : decode cX3_answer 27 = .ok (.getfield 12, 3) := by decide +kernel
theorem dX3_answer_30 : decode cX3_answer 30 = .ok (.iload_n 1, 1) := by decide +kernel
theorem dX3_answer_31 : decode cX3_answer 31 = .ok (.iload_n 2, 1) := by decide +kernel
theorem dX3_answer_32 : decode cX3_answer 32 = .ok (.invokevirtual 98, 3) := by decide +kernel
theorem dX3_answer_35 : decode cX3_answer 35 = .ok (.aload_n 0, 1) := by decide +kernel
theorem dX3_answer_36 : decode cX3_answer 36 = .ok (.invokevirtual 84, 3) := by decide +kernel
theorem dX3_answer_39 : decode cX3_answer 39 = .ok (.return_, 1) := by decide +kernel
theorem dX3_lift_0 : decode cX3_lift 0 = .ok (.aload_n 0, 1) := by decide +kernel
theorem dX3_lift_1 : decode cX3_lift 1 = .ok (.iload_n 1, 1) := by decide +kernel
theorem dX3_lift_2 : decode cX3_lift 2 = .ok (.invokevirtual 87, 3) := by decide +kernel
theorem dX3_lift_5 : decode cX3_lift 5 = .ok (.iload_n 2, 1) := by decide +kernel
theorem dX3_lift_6 : decode cX3_lift 6 = .ok (.ifCond .lt 10, 3) := by decide +kernel
theorem dX3_lift_9 : decode cX3_lift 9 = .ok (.iload_n 2, 1) := by decide +kernel
theorem dX3_lift_10 : decode cX3_lift 10 = .ok (.sipush 999, 3) := by decide +kernel
theorem dX3_lift_13 : decode cX3_lift 13 = .ok (.if_icmp .le 13, 3) := by decide +kernel
theorem dX3_lift_16 : decode cX3_lift 16 = .ok (.new 49, 3) := by decide +kernel
theorem dX3_lift_19 : decode cX3_lift 19 = .ok (.dup, 1) := by decide +kernel
theorem dX3_lift_20 : decode cX3_lift 20 = .ok (.ldc 102, 2) := by decide +kernel
theorem dX3_lift_22 : decode cX3_lift 22 = .ok (.invokespecial 53, 3) := by decide +kernel
theorem dX3_lift_25 : decode cX3_lift 25 = .ok (.athrow, 1) := by decide +kernel
theorem dX3_lift_26 : decode cX3_lift 26 = .ok (.aload_n 0, 1) := by decide +kernel
theorem dX3_lift_27 : decode cX3_lift 27 = .ok (.getfield 12, 3) := by decide +kernel
theorem dX3_lift_30 : decode cX3_lift 30 = .ok (.iload_n 1, 1) := by decide +kernel
theorem dX3_lift_31 : decode cX3_lift 31 = .ok (.aload_n 0, 1) := by decide +kernel
theorem dX3_lift_32 : decode cX3_lift 32 = .ok (.getfield 37, 3) := by decide +kernel
theorem dX3_lift_35 : decode cX3_lift 35 = .ok (.invokevirtual 104, 3) := by decide +kernel
theorem dX3_lift_38 : decode cX3_lift 38 = .ok (.ifCond .ne 13, 3) := by decide +kernel
theorem dX3_lift_41 : decode cX3_lift 41 = .ok (.new 93, 3) := by decide +kernel
theorem dX3_lift_44 : decode cX3_lift 44 = .ok (.dup, 1) := by decide +kernel
theorem dX3_lift_45 : decode cX3_lift 45 = .ok (.ldc 108, 2) := by decide +kernel
theorem dX3_lift_47 : decode cX3_lift 47 = .ok (.invokespecial 97, 3) := by decide +kernel
theorem dX3_lift_50 : decode cX3_lift 50 = .ok (.athrow, 1) := by decide +kernel
theorem dX3_lift_51 : decode cX3_lift 51 = .ok (.aload_n 0, 1) := by decide +kernel
theorem dX3_lift_52 : decode cX3_lift 52 = .ok (.getfield 12, 3) := by decide +kernel
theorem dX3_lift_55 : decode cX3_lift 55 = .ok (.iload_n 1, 1) := by decide +kernel
theorem dX3_lift_56 : decode cX3_lift 56 = .ok (.iload_n 2, 1) := by decide +kernel
theorem dX3_lift_57 : decode cX3_lift 57 = .ok (.invokevirtual 110, 3) := by decide +kernel
theorem dX3_lift_60 : decode cX3_lift 60 = .ok (.ifCond .ne 5, 3) := by decide +kernel
theorem dX3_lift_63 : decode cX3_lift 63 = .ok (.iconst 0, 1) := by decide +kernel
theorem dX3_lift_64 : decode cX3_lift 64 = .ok (.ireturn, 1) := by decide +kernel
theorem dX3_lift_65 : decode cX3_lift 65 = .ok (.aload_n 0, 1) := by decide +kernel
theorem dX3_lift_66 : decode cX3_lift 66 = .ok (.getfield 12, 3) := by decide +kernel
theorem dX3_lift_69 : decode cX3_lift 69 = .ok (.iload_n 1, 1) := by decide +kernel
theorem dX3_lift_70 : decode cX3_lift 70 = .ok (.aload_n 0, 1) := by decide +kernel
theorem dX3_lift_71 : decode cX3_lift 71 = .ok (.getfield 37, 3) := by decide +kernel
theorem dX3_lift_74 : decode cX3_lift 74 = .ok (.invokevirtual 113, 3) := by decide +kernel
theorem dX3_lift_77 : decode cX3_lift 77 = .ok (.aload_n 0, 1) := by decide +kernel
theorem dX3_lift_78 : decode cX3_lift 78 = .ok (.invokevirtual 84, 3) := by decide +kernel
theorem dX3_lift_81 : decode cX3_lift 81 = .ok (.iconst 1, 1) := by decide +kernel
theorem dX3_lift_82 : decode cX3_lift 82 = .ok (.ireturn, 1) := by decide +kernel
theorem dX3_incident_0 : decode cX3_incident 0 = .ok (.iload_n 1, 1) := by decide +kernel
theorem dX3_incident_1 : decode cX3_incident 1 = .ok (.invokestatic 116, 3) := by decide +kernel
theorem dX3_incident_4 : decode cX3_incident 4 = .ok (.ifCond .ne 13, 3) := by decide +kernel
theorem dX3_incident_7 : decode cX3_incident 7 = .ok (.new 119, 3) := by decide +kernel
theorem dX3_incident_10 : decode cX3_incident 10 = .ok (.dup, 1) := by decide +kernel
theorem dX3_incident_11 : decode cX3_incident 11 = .ok (.ldc 121, 2) := by decide +kernel
theorem dX3_incident_13 : decode cX3_incident 13 = .ok (.invokespecial 123, 3) := by decide +kernel
theorem dX3_incident_16 : decode cX3_incident 16 = .ok (.athrow, 1) := by decide +kernel
theorem dX3_incident_17 : decode cX3_incident 17 = .ok (.aload_n 0, 1) := by decide +kernel
theorem dX3_incident_18 : decode cX3_incident 18 = .ok (.getfield 12, 3) := by decide +kernel
theorem dX3_incident_21 : decode cX3_incident 21 = .ok (.iload_n 1, 1) := by decide +kernel
theorem dX3_incident_22 : decode cX3_incident 22 = .ok (.iload_n 2, 1) := by decide +kernel
theorem dX3_incident_23 : decode cX3_incident 23 = .ok (.invokevirtual 124, 3) := by decide +kernel
theorem dX3_incident_26 : decode cX3_incident 26 = .ok (.aload_n 0, 1) := by decide +kernel
theorem dX3_incident_27 : decode cX3_incident 27 = .ok (.invokevirtual 84, 3) := by decide +kernel
theorem dX3_incident_30 : decode cX3_incident 30 = .ok (.return_, 1) := by decide +kernel
theorem dX3_step_0 : decode cX3_step 0 = .ok (.iload_n 1, 1) := by decide +kernel
theorem dX3_step_1 : decode cX3_step 1 = .ok (.invokestatic 127, 3) := by decide +kernel
theorem dX3_step_4 : decode cX3_step 4 = .ok (.iload_n 2, 1) := by decide +kernel
theorem dX3_step_5 : decode cX3_step 5 = .ok (.iconst (-1), 1) := by decide +kernel
theorem dX3_step_6 : decode cX3_step 6 = .ok (.if_icmp .ne 13, 3) := by decide +kernel
theorem dX3_step_9 : decode cX3_step 9 = .ok (.aload_n 0, 1) := by decide +kernel
theorem dX3_step_10 : decode cX3_step 10 = .ok (.getfield 19, 3) := by decide +kernel
theorem dX3_step_13 : decode cX3_step 13 = .ok (.iload_n 1, 1) := by decide +kernel
theorem dX3_step_14 : decode cX3_step 14 = .ok (.invokevirtual 130, 3) := by decide +kernel
theorem dX3_step_17 : decode cX3_step 17 = .ok (.iconst 0, 1) := by decide +kernel
theorem dX3_step_18 : decode cX3_step 18 = .ok (.ireturn, 1) := by decide +kernel
theorem dX3_step_19 : decode cX3_step 19 = .ok (.iload_n 2, 1) := by decide +kernel
theorem dX3_step_20 : decode cX3_step 20 = .ok (.iload_n 3, 1) := by decide +kernel
theorem dX3_step_21 : decode cX3_step 21 = .ok (.invokestatic 133, 3) := by decide +kernel
theorem dX3_step_24 : decode cX3_step 24 = .ok (.istore 4, 2) := by decide +kernel
theorem dX3_step_26 : decode cX3_step 26 = .ok (.aload_n 0, 1) := by decide +kernel
theorem dX3_step_27 : decode cX3_step 27 = .ok (.getfield 19, 3) := by decide +kernel
theorem dX3_step_30 : decode cX3_step 30 = .ok (.iload_n 1, 1) := by decide +kernel
theorem dX3_step_31 : decode cX3_step 31 = .ok (.invokevirtual 137, 3) := by decide +kernel
theorem dX3_step_34 : decode cX3_step 34 = .ok (.ifCond .eq 13, 3) := by decide +kernel
theorem dX3_step_37 : decode cX3_step 37 = .ok (.new 70, 3) := by decide +kernel
theorem dX3_step_40 : decode cX3_step 40 = .ok (.dup, 1) := by decide +kernel
theorem dX3_step_41 : decode cX3_step 41 = .ok (.ldc 139, 2) := by decide +kernel
theorem dX3_step_43 : decode cX3_step 43 = .ok (.invokespecial 74, 3) := by decide +kernel
theorem dX3_step_46 : decode cX3_step 46 = .ok (.athrow, 1) := by decide +kernel
theorem dX3_step_47 : decode cX3_step 47 = .ok (.aload_n 0, 1) := by decide +kernel
theorem dX3_step_48 : decode cX3_step 48 = .ok (.getfield 19, 3) := by decide +kernel
theorem dX3_step_51 : decode cX3_step 51 = .ok (.iload_n 1, 1) := by decide +kernel
theorem dX3_step_52 : decode cX3_step 52 = .ok (.iload 4, 2) := by decide +kernel
theorem dX3_step_54 : decode cX3_step 54 = .ok (.invokevirtual 141, 3) := by decide +kernel
theorem dX3_step_57 : decode cX3_step 57 = .ok (.ireturn, 1) := by decide +kernel
theorem dX3_tick_0 : decode cX3_tick 0 = .ok (.iload_n 1, 1) := by decide +kernel
theorem dX3_tick_1 : decode cX3_tick 1 = .ok (.iconst 1, 1) := by decide +kernel
theorem dX3_tick_2 : decode cX3_tick 2 = .ok (.if_icmp .lt 21, 3) := by decide +kernel
theorem dX3_tick_5 : decode cX3_tick 5 = .ok (.iload_n 1, 1) := by decide +kernel
theorem dX3_tick_6 : decode cX3_tick 6 = .ok (.sipush 2000, 3) := by decide +kernel
theorem dX3_tick_9 : decode cX3_tick 9 = .ok (.if_icmp .gt 14, 3) := by decide +kernel
theorem dX3_tick_12 : decode cX3_tick 12 = .ok (.iload_n 1, 1) := by decide +kernel
theorem dX3_tick_13 : decode cX3_tick 13 = .ok (.ldc 143, 2) := by decide +kernel
theorem dX3_tick_15 : decode cX3_tick 15 = .ok (.aload_n 0, 1) := by decide +kernel
theorem dX3_tick_16 : decode cX3_tick 16 = .ok (.getfield 37, 3) := by decide +kernel
theorem dX3_tick_19 : decode cX3_tick 19 = .ok (.isub, 1) := by decide +kernel
theorem dX3_tick_20 : decode cX3_tick 20 = .ok (.if_icmp .le 13, 3) := by decide +kernel
theorem dX3_tick_23 : decode cX3_tick 23 = .ok (.new 49, 3) := by decide +kernel
theorem dX3_tick_26 : decode cX3_tick 26 = .ok (.dup, 1) := by decide +kernel
theorem dX3_tick_27 : decode cX3_tick 27 = .ok (.ldc 144, 2) := by decide +kernel
theorem dX3_tick_29 : decode cX3_tick 29 = .ok (.invokespecial 53, 3) := by decide +kernel
theorem dX3_tick_32 : decode cX3_tick 32 = .ok (.athrow, 1) := by decide +kernel
theorem dX3_tick_33 : decode cX3_tick 33 = .ok (.aload_n 0, 1) := by decide +kernel
theorem dX3_tick_34 : decode cX3_tick 34 = .ok (.getfield 26, 3) := by decide +kernel
theorem dX3_tick_37 : decode cX3_tick 37 = .ok (.invokevirtual 146, 3) := by decide +kernel
theorem dX3_tick_40 : decode cX3_tick 40 = .ok (.istore_n 2, 1) := by decide +kernel
theorem dX3_tick_41 : decode cX3_tick 41 = .ok (.aload_n 0, 1) := by decide +kernel
theorem dX3_tick_42 : decode cX3_tick 42 = .ok (.getfield 12, 3) := by decide +kernel
theorem dX3_tick_45 : decode cX3_tick 45 = .ok (.aload_n 0, 1) := by decide +kernel
theorem dX3_tick_46 : decode cX3_tick 46 = .ok (.getfield 37, 3) := by decide +kernel
theorem dX3_tick_49 : decode cX3_tick 49 = .ok (.invokevirtual 150, 3) := by decide +kernel
theorem dX3_tick_52 : decode cX3_tick 52 = .ok (.istore_n 3, 1) := by decide +kernel
theorem dX3_tick_53 : decode cX3_tick 53 = .ok (.iconst 0, 1) := by decide +kernel
theorem dX3_tick_54 : decode cX3_tick 54 = .ok (.istore 4, 2) := by decide +kernel
theorem dX3_tick_56 : decode cX3_tick 56 = .ok (.iload 4, 2) := by decide +kernel
theorem dX3_tick_58 : decode cX3_tick 58 = .ok (.iload_n 1, 1) := by decide +kernel
theorem dX3_tick_59 : decode cX3_tick 59 = .ok (.if_icmp .ge 43, 3) := by decide +kernel
theorem dX3_tick_62 : decode cX3_tick 62 = .ok (.aload_n 0, 1) := by decide +kernel
theorem dX3_tick_63 : decode cX3_tick 63 = .ok (.dup, 1) := by decide +kernel
theorem dX3_tick_64 : decode cX3_tick 64 = .ok (.getfield 37, 3) := by decide +kernel
theorem dX3_tick_67 : decode cX3_tick 67 = .ok (.iconst 1, 1) := by decide +kernel
theorem dX3_tick_68 : decode cX3_tick 68 = .ok (.iadd, 1) := by decide +kernel
theorem dX3_tick_69 : decode cX3_tick 69 = .ok (.putfield 37, 3) := by decide +kernel
theorem dX3_tick_72 : decode cX3_tick 72 = .ok (.aload_n 0, 1) := by decide +kernel
theorem dX3_tick_73 : decode cX3_tick 73 = .ok (.getfield 37, 3) := by decide +kernel
theorem dX3_tick_76 : decode cX3_tick 76 = .ok (.iload_n 3, 1) := by decide +kernel
theorem dX3_tick_77 : decode cX3_tick 77 = .ok (.if_icmp .lt 19, 3) := by decide +kernel
theorem dX3_tick_80 : decode cX3_tick 80 = .ok (.aload_n 0, 1) := by decide +kernel
theorem dX3_tick_81 : decode cX3_tick 81 = .ok (.invokevirtual 84, 3) := by decide +kernel
theorem dX3_tick_84 : decode cX3_tick 84 = .ok (.aload_n 0, 1) := by decide +kernel
theorem dX3_tick_85 : decode cX3_tick 85 = .ok (.getfield 12, 3) := by decide +kernel
theorem dX3_tick_88 : decode cX3_tick 88 = .ok (.aload_n 0, 1) := by decide +kernel
theorem dX3_tick_89 : decode cX3_tick 89 = .ok (.getfield 37, 3) := by decide +kernel
theorem dX3_tick_92 : decode cX3_tick 92 = .ok (.invokevirtual 150, 3) := by decide +kernel
theorem dX3_tick_95 : decode cX3_tick 95 = .ok (.istore_n 3, 1) := by decide +kernel
theorem dX3_tick_96 : decode cX3_tick 96 = .ok (.iinc 4 1, 3) := by decide +kernel
theorem dX3_tick_99 : decode cX3_tick 99 = .ok (.goto (-43), 3) := by decide +kernel
theorem dX3_tick_102 : decode cX3_tick 102 = .ok (.aload_n 0, 1) := by decide +kernel
theorem dX3_tick_103 : decode cX3_tick 103 = .ok (.getfield 26, 3) := by decide +kernel
theorem dX3_tick_106 : decode cX3_tick 106 = .ok (.invokevirtual 146, 3) := by decide +kernel
theorem dX3_tick_109 : decode cX3_tick 109 = .ok (.iload_n 2, 1) := by decide +kernel
theorem dX3_tick_110 : decode cX3_tick 110 = .ok (.isub, 1) := by decide +kernel
theorem dX3_tick_111 : decode cX3_tick 111 = .ok (.ireturn, 1) := by decide +kernel
theorem dX3_clock_0 : decode cX3_clock 0 = .ok (.aload_n 0, 1) := by decide +kernel
theorem dX3_clock_1 : decode cX3_clock 1 = .ok (.getfield 37, 3) := by decide +kernel
theorem dX3_clock_4 : decode cX3_clock 4 = .ok (.ireturn, 1) := by decide +kernel
theorem dX3_closed_0 : decode cX3_closed 0 = .ok (.iload_n 1, 1) := by decide +kernel
theorem dX3_closed_1 : decode cX3_closed 1 = .ok (.iload_n 2, 1) := by decide +kernel
theorem dX3_closed_2 : decode cX3_closed 2 = .ok (.invokestatic 133, 3) := by decide +kernel
theorem dX3_closed_5 : decode cX3_closed 5 = .ok (.istore 4, 2) := by decide +kernel
theorem dX3_closed_7 : decode cX3_closed 7 = .ok (.iload_n 3, 1) := by decide +kernel
theorem dX3_closed_8 : decode cX3_closed 8 = .ok (.invokestatic 56, 3) := by decide +kernel
theorem dX3_closed_11 : decode cX3_closed 11 = .ok (.aload_n 0, 1) := by decide +kernel
theorem dX3_closed_12 : decode cX3_closed 12 = .ok (.getfield 12, 3) := by decide +kernel
theorem dX3_closed_15 : decode cX3_closed 15 = .ok (.iload 4, 2) := by decide +kernel
theorem dX3_closed_17 : decode cX3_closed 17 = .ok (.iload_n 3, 1) := by decide +kernel
theorem dX3_closed_18 : decode cX3_closed 18 = .ok (.invokevirtual 154, 3) := by decide +kernel
theorem dX3_closed_21 : decode cX3_closed 21 = .ok (.ireturn, 1) := by decide +kernel
theorem dX3_minutes_0 : decode cX3_minutes 0 = .ok (.iload_n 1, 1) := by decide +kernel
theorem dX3_minutes_1 : decode cX3_minutes 1 = .ok (.iload_n 2, 1) := by decide +kernel
theorem dX3_minutes_2 : decode cX3_minutes 2 = .ok (.invokestatic 133, 3) := by decide +kernel
theorem dX3_minutes_5 : decode cX3_minutes 5 = .ok (.istore 5, 2) := by decide +kernel
theorem dX3_minutes_7 : decode cX3_minutes 7 = .ok (.iload_n 3, 1) := by decide +kernel
theorem dX3_minutes_8 : decode cX3_minutes 8 = .ok (.invokestatic 56, 3) := by decide +kernel
theorem dX3_minutes_11 : decode cX3_minutes 11 = .ok (.iload 4, 2) := by decide +kernel
theorem dX3_minutes_13 : decode cX3_minutes 13 = .ok (.invokestatic 56, 3) := by decide +kernel
theorem dX3_minutes_16 : decode cX3_minutes 16 = .ok (.iload 4, 2) := by decide +kernel
theorem dX3_minutes_18 : decode cX3_minutes 18 = .ok (.iload_n 3, 1) := by decide +kernel
theorem dX3_minutes_19 : decode cX3_minutes 19 = .ok (.if_icmp .lt 13, 3) := by decide +kernel
theorem dX3_minutes_22 : decode cX3_minutes 22 = .ok (.iload 4, 2) := by decide +kernel
theorem dX3_minutes_24 : decode cX3_minutes 24 = .ok (.iload_n 3, 1) := by decide +kernel
theorem dX3_minutes_25 : decode cX3_minutes 25 = .ok (.isub, 1) := by decide +kernel
theorem dX3_minutes_26 : decode cX3_minutes 26 = .ok (.sipush 2000, 3) := by decide +kernel
theorem dX3_minutes_29 : decode cX3_minutes 29 = .ok (.if_icmp .le 13, 3) := by decide +kernel
theorem dX3_minutes_32 : decode cX3_minutes 32 = .ok (.new 49, 3) := by decide +kernel
theorem dX3_minutes_35 : decode cX3_minutes 35 = .ok (.dup, 1) := by decide +kernel
theorem dX3_minutes_36 : decode cX3_minutes 36 = .ok (.ldc 157, 2) := by decide +kernel
theorem dX3_minutes_38 : decode cX3_minutes 38 = .ok (.invokespecial 53, 3) := by decide +kernel
theorem dX3_minutes_41 : decode cX3_minutes 41 = .ok (.athrow, 1) := by decide +kernel
theorem dX3_minutes_42 : decode cX3_minutes 42 = .ok (.iconst 0, 1) := by decide +kernel
theorem dX3_minutes_43 : decode cX3_minutes 43 = .ok (.istore 6, 2) := by decide +kernel
theorem dX3_minutes_45 : decode cX3_minutes 45 = .ok (.iload_n 3, 1) := by decide +kernel
theorem dX3_minutes_46 : decode cX3_minutes 46 = .ok (.istore 7, 2) := by decide +kernel
theorem dX3_minutes_48 : decode cX3_minutes 48 = .ok (.iconst 0, 1) := by decide +kernel
theorem dX3_minutes_49 : decode cX3_minutes 49 = .ok (.istore 8, 2) := by decide +kernel
theorem dX3_minutes_51 : decode cX3_minutes 51 = .ok (.iload_n 3, 1) := by decide +kernel
theorem dX3_minutes_52 : decode cX3_minutes 52 = .ok (.istore 9, 2) := by decide +kernel
theorem dX3_minutes_54 : decode cX3_minutes 54 = .ok (.iload 9, 2) := by decide +kernel
theorem dX3_minutes_56 : decode cX3_minutes 56 = .ok (.iload 4, 2) := by decide +kernel
theorem dX3_minutes_58 : decode cX3_minutes 58 = .ok (.if_icmp .ge 50, 3) := by decide +kernel
theorem dX3_minutes_61 : decode cX3_minutes 61 = .ok (.iload 9, 2) := by decide +kernel
theorem dX3_minutes_63 : decode cX3_minutes 63 = .ok (.iload 7, 2) := by decide +kernel
theorem dX3_minutes_65 : decode cX3_minutes 65 = .ok (.if_icmp .lt 29, 3) := by decide +kernel
theorem dX3_minutes_68 : decode cX3_minutes 68 = .ok (.aload_n 0, 1) := by decide +kernel
theorem dX3_minutes_69 : decode cX3_minutes 69 = .ok (.getfield 12, 3) := by decide +kernel
theorem dX3_minutes_72 : decode cX3_minutes 72 = .ok (.iload 5, 2) := by decide +kernel
theorem dX3_minutes_74 : decode cX3_minutes 74 = .ok (.iload 9, 2) := by decide +kernel
theorem dX3_minutes_76 : decode cX3_minutes 76 = .ok (.invokevirtual 154, 3) := by decide +kernel
theorem dX3_minutes_79 : decode cX3_minutes 79 = .ok (.istore 8, 2) := by decide +kernel
theorem dX3_minutes_81 : decode cX3_minutes 81 = .ok (.aload_n 0, 1) := by decide +kernel
theorem dX3_minutes_82 : decode cX3_minutes 82 = .ok (.getfield 12, 3) := by decide +kernel
theorem dX3_minutes_85 : decode cX3_minutes 85 = .ok (.iload 5, 2) := by decide +kernel
theorem dX3_minutes_87 : decode cX3_minutes 87 = .ok (.iload 9, 2) := by decide +kernel
theorem dX3_minutes_89 : decode cX3_minutes 89 = .ok (.invokevirtual 159, 3) := by decide +kernel
theorem dX3_minutes_92 : decode cX3_minutes 92 = .ok (.istore 7, 2) := by decide +kernel
theorem dX3_minutes_94 : decode cX3_minutes 94 = .ok (.iload 8, 2) := by decide +kernel
theorem dX3_minutes_96 : decode cX3_minutes 96 = .ok (.ifCond .eq 6, 3) := by decide +kernel
theorem dX3_minutes_99 : decode cX3_minutes 99 = .ok (.iinc 6 1, 3) := by decide +kernel
theorem dX3_minutes_102 : decode cX3_minutes 102 = .ok (.iinc 9 1, 3) := by decide +kernel
theorem dX3_minutes_105 : decode cX3_minutes 105 = .ok (.goto (-51), 3) := by decide +kernel
theorem dX3_minutes_108 : decode cX3_minutes 108 = .ok (.iload 6, 2) := by decide +kernel
theorem dX3_minutes_110 : decode cX3_minutes 110 = .ok (.ireturn, 1) := by decide +kernel
theorem dX3_opens_0 : decode cX3_opens 0 = .ok (.iload_n 1, 1) := by decide +kernel
theorem dX3_opens_1 : decode cX3_opens 1 = .ok (.iload_n 2, 1) := by decide +kernel
theorem dX3_opens_2 : decode cX3_opens 2 = .ok (.invokestatic 133, 3) := by decide +kernel
theorem dX3_opens_5 : decode cX3_opens 5 = .ok (.istore 4, 2) := by decide +kernel
theorem dX3_opens_7 : decode cX3_opens 7 = .ok (.iload_n 3, 1) := by decide +kernel
theorem dX3_opens_8 : decode cX3_opens 8 = .ok (.invokestatic 56, 3) := by decide +kernel
theorem dX3_opens_11 : decode cX3_opens 11 = .ok (.iload_n 3, 1) := by decide +kernel
theorem dX3_opens_12 : decode cX3_opens 12 = .ok (.sipush 2000, 3) := by decide +kernel
theorem dX3_opens_15 : decode cX3_opens 15 = .ok (.iadd, 1) := by decide +kernel
theorem dX3_opens_16 : decode cX3_opens 16 = .ok (.iconst 1, 1) := by decide +kernel
theorem dX3_opens_17 : decode cX3_opens 17 = .ok (.isub, 1) := by decide +kernel
theorem dX3_opens_18 : decode cX3_opens 18 = .ok (.ldc 143, 2) := by decide +kernel
theorem dX3_opens_20 : decode cX3_opens 20 = .ok (.invokestatic 162, 3) := by decide +kernel
theorem dX3_opens_23 : decode cX3_opens 23 = .ok (.istore 5, 2) := by decide +kernel
theorem dX3_opens_25 : decode cX3_opens 25 = .ok (.iload_n 3, 1) := by decide +kernel
theorem dX3_opens_26 : decode cX3_opens 26 = .ok (.istore 6, 2) := by decide +kernel
theorem dX3_opens_28 : decode cX3_opens 28 = .ok (.iload_n 3, 1) := by decide +kernel
theorem dX3_opens_29 : decode cX3_opens 29 = .ok (.istore 7, 2) := by decide +kernel
theorem dX3_opens_31 : decode cX3_opens 31 = .ok (.iload 7, 2) := by decide +kernel
theorem dX3_opens_33 : decode cX3_opens 33 = .ok (.iload 5, 2) := by decide +kernel
theorem dX3_opens_35 : decode cX3_opens 35 = .ok (.if_icmp .gt 46, 3) := by decide +kernel
theorem dX3_opens_38 : decode cX3_opens 38 = .ok (.iload 7, 2) := by decide +kernel
theorem dX3_opens_40 : decode cX3_opens 40 = .ok (.iload 6, 2) := by decide +kernel
theorem dX3_opens_42 : decode cX3_opens 42 = .ok (.if_icmp .lt 33, 3) := by decide +kernel
theorem dX3_opens_45 : decode cX3_opens 45 = .ok (.aload_n 0, 1) := by decide +kernel
theorem dX3_opens_46 : decode cX3_opens 46 = .ok (.getfield 12, 3) := by decide +kernel
theorem dX3_opens_49 : decode cX3_opens 49 = .ok (.iload 4, 2) := by decide +kernel
theorem dX3_opens_51 : decode cX3_opens 51 = .ok (.iload 7, 2) := by decide +kernel
theorem dX3_opens_53 : decode cX3_opens 53 = .ok (.invokevirtual 154, 3) := by decide +kernel
theorem dX3_opens_56 : decode cX3_opens 56 = .ok (.ifCond .ne 6, 3) := by decide +kernel
theorem dX3_opens_59 : decode cX3_opens 59 = .ok (.iload 7, 2) := by decide +kernel
theorem dX3_opens_61 : decode cX3_opens 61 = .ok (.ireturn, 1) := by decide +kernel
theorem dX3_opens_62 : decode cX3_opens 62 = .ok (.aload_n 0, 1) := by decide +kernel
theorem dX3_opens_63 : decode cX3_opens 63 = .ok (.getfield 12, 3) := by decide +kernel
theorem dX3_opens_66 : decode cX3_opens 66 = .ok (.iload 4, 2) := by decide +kernel
theorem dX3_opens_68 : decode cX3_opens 68 = .ok (.iload 7, 2) := by decide +kernel
theorem dX3_opens_70 : decode cX3_opens 70 = .ok (.invokevirtual 159, 3) := by decide +kernel
theorem dX3_opens_73 : decode cX3_opens 73 = .ok (.istore 6, 2) := by decide +kernel
theorem dX3_opens_75 : decode cX3_opens 75 = .ok (.iinc 7 1, 3) := by decide +kernel
theorem dX3_opens_78 : decode cX3_opens 78 = .ok (.goto (-47), 3) := by decide +kernel
theorem dX3_opens_81 : decode cX3_opens 81 = .ok (.iconst (-1), 1) := by decide +kernel
theorem dX3_opens_82 : decode cX3_opens 82 = .ok (.ireturn, 1) := by decide +kernel
theorem dX3_reason_0 : decode cX3_reason 0 = .ok (.iload_n 1, 1) := by decide +kernel
theorem dX3_reason_1 : decode cX3_reason 1 = .ok (.iload_n 2, 1) := by decide +kernel
theorem dX3_reason_2 : decode cX3_reason 2 = .ok (.invokestatic 133, 3) := by decide +kernel
theorem dX3_reason_5 : decode cX3_reason 5 = .ok (.istore 5, 2) := by decide +kernel
theorem dX3_reason_7 : decode cX3_reason 7 = .ok (.iload_n 3, 1) := by decide +kernel
theorem dX3_reason_8 : decode cX3_reason 8 = .ok (.invokestatic 56, 3) := by decide +kernel
theorem dX3_reason_11 : decode cX3_reason 11 = .ok (.iload 4, 2) := by decide +kernel
theorem dX3_reason_13 : decode cX3_reason 13 = .ok (.ifCond .ge 13, 3) := by decide +kernel
theorem dX3_reason_16 : decode cX3_reason 16 = .ok (.new 49, 3) := by decide +kernel
theorem dX3_reason_19 : decode cX3_reason 19 = .ok (.dup, 1) := by decide +kernel
theorem dX3_reason_20 : decode cX3_reason 20 = .ok (.ldc 167, 2) := by decide +kernel
theorem dX3_reason_22 : decode cX3_reason 22 = .ok (.invokespecial 53, 3) := by decide +kernel
theorem dX3_reason_25 : decode cX3_reason 25 = .ok (.athrow, 1) := by decide +kernel
theorem dX3_reason_26 : decode cX3_reason 26 = .ok (.aload_n 0, 1) := by decide +kernel
theorem dX3_reason_27 : decode cX3_reason 27 = .ok (.getfield 12, 3) := by decide +kernel
theorem dX3_reason_30 : decode cX3_reason 30 = .ok (.iload 5, 2) := by decide +kernel
theorem dX3_reason_32 : decode cX3_reason 32 = .ok (.iload_n 3, 1) := by decide +kernel
theorem dX3_reason_33 : decode cX3_reason 33 = .ok (.iload 4, 2) := by decide +kernel
theorem dX3_reason_35 : decode cX3_reason 35 = .ok (.invokevirtual 169, 3) := by decide +kernel
theorem dX3_reason_38 : decode cX3_reason 38 = .ok (.ireturn, 1) := by decide +kernel
theorem dX3_speed_0 : decode cX3_speed 0 = .ok (.iload_n 1, 1) := by decide +kernel
theorem dX3_speed_1 : decode cX3_speed 1 = .ok (.iload_n 2, 1) := by decide +kernel
theorem dX3_speed_2 : decode cX3_speed 2 = .ok (.invokestatic 133, 3) := by decide +kernel
theorem dX3_speed_5 : decode cX3_speed 5 = .ok (.istore 4, 2) := by decide +kernel
theorem dX3_speed_7 : decode cX3_speed 7 = .ok (.iload_n 3, 1) := by decide +kernel
theorem dX3_speed_8 : decode cX3_speed 8 = .ok (.invokestatic 56, 3) := by decide +kernel
theorem dX3_speed_11 : decode cX3_speed 11 = .ok (.aload_n 0, 1) := by decide +kernel
theorem dX3_speed_12 : decode cX3_speed 12 = .ok (.getfield 12, 3) := by decide +kernel
theorem dX3_speed_15 : decode cX3_speed 15 = .ok (.iload 4, 2) := by decide +kernel
theorem dX3_speed_17 : decode cX3_speed 17 = .ok (.iload_n 3, 1) := by decide +kernel
theorem dX3_speed_18 : decode cX3_speed 18 = .ok (.invokevirtual 173, 3) := by decide +kernel
theorem dX3_speed_21 : decode cX3_speed 21 = .ok (.ireturn, 1) := by decide +kernel
theorem dX3_notice_0 : decode cX3_notice 0 = .ok (.aload_n 0, 1) := by decide +kernel
theorem dX3_notice_1 : decode cX3_notice 1 = .ok (.getfield 26, 3) := by decide +kernel
theorem dX3_notice_4 : decode cX3_notice 4 = .ok (.iload_n 1, 1) := by decide +kernel
theorem dX3_notice_5 : decode cX3_notice 5 = .ok (.invokevirtual 176, 3) := by decide +kernel
theorem dX3_notice_8 : decode cX3_notice 8 = .ok (.ifCond .eq 12, 3) := by decide +kernel
theorem dX3_notice_11 : decode cX3_notice 11 = .ok (.iload_n 2, 1) := by decide +kernel
theorem dX3_notice_12 : decode cX3_notice 12 = .ok (.ifCond .lt 8, 3) := by decide +kernel
theorem dX3_notice_15 : decode cX3_notice 15 = .ok (.iload_n 2, 1) := by decide +kernel
theorem dX3_notice_16 : decode cX3_notice 16 = .ok (.iconst 5, 1) := by decide +kernel
theorem dX3_notice_17 : decode cX3_notice 17 = .ok (.if_icmp .lt 13, 3) := by decide +kernel
theorem dX3_notice_20 : decode cX3_notice 20 = .ok (.new 119, 3) := by decide +kernel
theorem dX3_notice_23 : decode cX3_notice 23 = .ok (.dup, 1) := by decide +kernel
theorem dX3_notice_24 : decode cX3_notice 24 = .ok (.ldc 179, 2) := by decide +kernel
theorem dX3_notice_26 : decode cX3_notice 26 = .ok (.invokespecial 123, 3) := by decide +kernel
theorem dX3_notice_29 : decode cX3_notice 29 = .ok (.athrow, 1) := by decide +kernel
theorem dX3_notice_30 : decode cX3_notice 30 = .ok (.aload_n 0, 1) := by decide +kernel
theorem dX3_notice_31 : decode cX3_notice 31 = .ok (.getfield 26, 3) := by decide +kernel
theorem dX3_notice_34 : decode cX3_notice 34 = .ok (.iload_n 1, 1) := by decide +kernel
theorem dX3_notice_35 : decode cX3_notice 35 = .ok (.iload_n 2, 1) := by decide +kernel
theorem dX3_notice_36 : decode cX3_notice 36 = .ok (.invokevirtual 181, 3) := by decide +kernel
theorem dX3_notice_39 : decode cX3_notice 39 = .ok (.ireturn, 1) := by decide +kernel
theorem dX3_blocked_0 : decode cX3_blocked 0 = .ok (.iload_n 1, 1) := by decide +kernel
theorem dX3_blocked_1 : decode cX3_blocked 1 = .ok (.invokestatic 127, 3) := by decide +kernel
theorem dX3_blocked_4 : decode cX3_blocked 4 = .ok (.iconst 0, 1) := by decide +kernel
theorem dX3_blocked_5 : decode cX3_blocked 5 = .ok (.istore_n 2, 1) := by decide +kernel
theorem dX3_blocked_6 : decode cX3_blocked 6 = .ok (.iconst 0, 1) := by decide +kernel
theorem dX3_blocked_7 : decode cX3_blocked 7 = .ok (.istore_n 3, 1) := by decide +kernel
theorem dX3_blocked_8 : decode cX3_blocked 8 = .ok (.iload_n 3, 1) := by decide +kernel
theorem dX3_blocked_9 : decode cX3_blocked 9 = .ok (.aload_n 0, 1) := by decide +kernel
theorem dX3_blocked_10 : decode cX3_blocked 10 = .ok (.getfield 19, 3) := by decide +kernel
theorem dX3_blocked_13 : decode cX3_blocked 13 = .ok (.iload_n 1, 1) := by decide +kernel
theorem dX3_blocked_14 : decode cX3_blocked 14 = .ok (.invokevirtual 184, 3) := by decide +kernel
theorem dX3_blocked_17 : decode cX3_blocked 17 = .ok (.if_icmp .ge 35, 3) := by decide +kernel
theorem dX3_blocked_20 : decode cX3_blocked 20 = .ok (.aload_n 0, 1) := by decide +kernel
theorem dX3_blocked_21 : decode cX3_blocked 21 = .ok (.getfield 12, 3) := by decide +kernel
theorem dX3_blocked_24 : decode cX3_blocked 24 = .ok (.aload_n 0, 1) := by decide +kernel
theorem dX3_blocked_25 : decode cX3_blocked 25 = .ok (.getfield 19, 3) := by decide +kernel
theorem dX3_blocked_28 : decode cX3_blocked 28 = .ok (.iload_n 1, 1) := by decide +kernel
theorem dX3_blocked_29 : decode cX3_blocked 29 = .ok (.iload_n 3, 1) := by decide +kernel
theorem dX3_blocked_30 : decode cX3_blocked 30 = .ok (.invokevirtual 187, 3) := by decide +kernel
theorem dX3_blocked_33 : decode cX3_blocked 33 = .ok (.aload_n 0, 1) := by decide +kernel
theorem dX3_blocked_34 : decode cX3_blocked 34 = .ok (.getfield 37, 3) := by decide +kernel
theorem dX3_blocked_37 : decode cX3_blocked 37 = .ok (.invokevirtual 154, 3) := by decide +kernel
theorem dX3_blocked_40 : decode cX3_blocked 40 = .ok (.ifCond .eq 6, 3) := by decide +kernel
theorem dX3_blocked_43 : decode cX3_blocked 43 = .ok (.iinc 2 1, 3) := by decide +kernel
theorem dX3_blocked_46 : decode cX3_blocked 46 = .ok (.iinc 3 1, 3) := by decide +kernel
theorem dX3_blocked_49 : decode cX3_blocked 49 = .ok (.goto (-41), 3) := by decide +kernel
theorem dX3_blocked_52 : decode cX3_blocked 52 = .ok (.iload_n 2, 1) := by decide +kernel
theorem dX3_blocked_53 : decode cX3_blocked 53 = .ok (.ireturn, 1) := by decide +kernel
theorem dX3_tellChanges_0 : decode cX3_tellChanges 0 = .ok (.aload_n 0, 1) := by decide +kernel
theorem dX3_tellChanges_1 : decode cX3_tellChanges 1 = .ok (.getfield 12, 3) := by decide +kernel
theorem dX3_tellChanges_4 : decode cX3_tellChanges 4 = .ok (.aload_n 0, 1) := by decide +kernel
theorem dX3_tellChanges_5 : decode cX3_tellChanges 5 = .ok (.getfield 34, 3) := by decide +kernel
theorem dX3_tellChanges_8 : decode cX3_tellChanges 8 = .ok (.aload_n 0, 1) := by decide +kernel
theorem dX3_tellChanges_9 : decode cX3_tellChanges 9 = .ok (.getfield 37, 3) := by decide +kernel
theorem dX3_tellChanges_12 : decode cX3_tellChanges 12 = .ok (.invokevirtual 190, 3) := by decide +kernel
theorem dX3_tellChanges_15 : decode cX3_tellChanges 15 = .ok (.iconst 0, 1) := by decide +kernel
theorem dX3_tellChanges_16 : decode cX3_tellChanges 16 = .ok (.istore_n 1, 1) := by decide +kernel
theorem dX3_tellChanges_17 : decode cX3_tellChanges 17 = .ok (.iload_n 1, 1) := by decide +kernel
theorem dX3_tellChanges_18 : decode cX3_tellChanges 18 = .ok (.bipush 120, 2) := by decide +kernel
theorem dX3_tellChanges_20 : decode cX3_tellChanges 20 = .ok (.if_icmp .ge 41, 3) := by decide +kernel
theorem dX3_tellChanges_23 : decode cX3_tellChanges 23 = .ok (.aload_n 0, 1) := by decide +kernel
theorem dX3_tellChanges_24 : decode cX3_tellChanges 24 = .ok (.getfield 30, 3) := by decide +kernel
theorem dX3_tellChanges_27 : decode cX3_tellChanges 27 = .ok (.iload_n 1, 1) := by decide +kernel
theorem dX3_tellChanges_28 : decode cX3_tellChanges 28 = .ok (.baload, 1) := by decide +kernel
theorem dX3_tellChanges_29 : decode cX3_tellChanges 29 = .ok (.aload_n 0, 1) := by decide +kernel
theorem dX3_tellChanges_30 : decode cX3_tellChanges 30 = .ok (.getfield 34, 3) := by decide +kernel
theorem dX3_tellChanges_33 : decode cX3_tellChanges 33 = .ok (.iload_n 1, 1) := by decide +kernel
theorem dX3_tellChanges_34 : decode cX3_tellChanges 34 = .ok (.baload, 1) := by decide +kernel
theorem dX3_tellChanges_35 : decode cX3_tellChanges 35 = .ok (.if_icmp .eq 20, 3) := by decide +kernel
theorem dX3_tellChanges_38 : decode cX3_tellChanges 38 = .ok (.aload_n 0, 1) := by decide +kernel
theorem dX3_tellChanges_39 : decode cX3_tellChanges 39 = .ok (.getfield 30, 3) := by decide +kernel
theorem dX3_tellChanges_42 : decode cX3_tellChanges 42 = .ok (.iload_n 1, 1) := by decide +kernel
theorem dX3_tellChanges_43 : decode cX3_tellChanges 43 = .ok (.aload_n 0, 1) := by decide +kernel
theorem dX3_tellChanges_44 : decode cX3_tellChanges 44 = .ok (.getfield 34, 3) := by decide +kernel
theorem dX3_tellChanges_47 : decode cX3_tellChanges 47 = .ok (.iload_n 1, 1) := by decide +kernel
theorem dX3_tellChanges_48 : decode cX3_tellChanges 48 = .ok (.baload, 1) := by decide +kernel
theorem dX3_tellChanges_49 : decode cX3_tellChanges 49 = .ok (.bastore, 1) := by decide +kernel
theorem dX3_tellChanges_50 : decode cX3_tellChanges 50 = .ok (.aload_n 0, 1) := by decide +kernel
theorem dX3_tellChanges_51 : decode cX3_tellChanges 51 = .ok (.iload_n 1, 1) := by decide +kernel
theorem dX3_tellChanges_52 : decode cX3_tellChanges 52 = .ok (.invokevirtual 194, 3) := by decide +kernel
theorem dX3_tellChanges_55 : decode cX3_tellChanges 55 = .ok (.iinc 1 1, 3) := by decide +kernel
theorem dX3_tellChanges_58 : decode cX3_tellChanges 58 = .ok (.goto (-41), 3) := by decide +kernel
theorem dX3_tellChanges_61 : decode cX3_tellChanges 61 = .ok (.return_, 1) := by decide +kernel
theorem dX3_tellUnits_0 : decode cX3_tellUnits 0 = .ok (.iconst 0, 1) := by decide +kernel
theorem dX3_tellUnits_1 : decode cX3_tellUnits 1 = .ok (.istore_n 2, 1) := by decide +kernel
theorem dX3_tellUnits_2 : decode cX3_tellUnits 2 = .ok (.iload_n 2, 1) := by decide +kernel
theorem dX3_tellUnits_3 : decode cX3_tellUnits 3 = .ok (.bipush 10, 2) := by decide +kernel
theorem dX3_tellUnits_5 : decode cX3_tellUnits 5 = .ok (.if_icmp .ge 40, 3) := by decide +kernel
theorem dX3_tellUnits_8 : decode cX3_tellUnits 8 = .ok (.aload_n 0, 1) := by decide +kernel
theorem dX3_tellUnits_9 : decode cX3_tellUnits 9 = .ok (.getfield 19, 3) := by decide +kernel
theorem dX3_tellUnits_12 : decode cX3_tellUnits 12 = .ok (.iload_n 2, 1) := by decide +kernel
theorem dX3_tellUnits_13 : decode cX3_tellUnits 13 = .ok (.iload_n 1, 1) := by decide +kernel
theorem dX3_tellUnits_14 : decode cX3_tellUnits 14 = .ok (.invokevirtual 197, 3) := by decide +kernel
theorem dX3_tellUnits_17 : decode cX3_tellUnits 17 = .ok (.ifCond .eq 22, 3) := by decide +kernel
theorem dX3_tellUnits_20 : decode cX3_tellUnits 20 = .ok (.aload_n 0, 1) := by decide +kernel
theorem dX3_tellUnits_21 : decode cX3_tellUnits 21 = .ok (.getfield 26, 3) := by decide +kernel
theorem dX3_tellUnits_24 : decode cX3_tellUnits 24 = .ok (.iload_n 2, 1) := by decide +kernel
theorem dX3_tellUnits_25 : decode cX3_tellUnits 25 = .ok (.iload_n 1, 1) := by decide +kernel
theorem dX3_tellUnits_26 : decode cX3_tellUnits 26 = .ok (.aload_n 0, 1) := by decide +kernel
theorem dX3_tellUnits_27 : decode cX3_tellUnits 27 = .ok (.getfield 34, 3) := by decide +kernel
theorem dX3_tellUnits_30 : decode cX3_tellUnits 30 = .ok (.iload_n 1, 1) := by decide +kernel
theorem dX3_tellUnits_31 : decode cX3_tellUnits 31 = .ok (.baload, 1) := by decide +kernel
theorem dX3_tellUnits_32 : decode cX3_tellUnits 32 = .ok (.aload_n 0, 1) := by decide +kernel
theorem dX3_tellUnits_33 : decode cX3_tellUnits 33 = .ok (.getfield 37, 3) := by decide +kernel
theorem dX3_tellUnits_36 : decode cX3_tellUnits 36 = .ok (.invokevirtual 200, 3) := by decide +kernel
theorem dX3_tellUnits_39 : decode cX3_tellUnits 39 = .ok (.iinc 2 1, 3) := by decide +kernel
theorem dX3_tellUnits_42 : decode cX3_tellUnits 42 = .ok (.goto (-40), 3) := by decide +kernel
theorem dX3_tellUnits_45 : decode cX3_tellUnits 45 = .ok (.return_, 1) := by decide +kernel
theorem dX3_needClosure_0 : decode cX3_needClosure 0 = .ok (.aload_n 0, 1) := by decide +kernel
theorem dX3_needClosure_1 : decode cX3_needClosure 1 = .ok (.getfield 12, 3) := by decide +kernel
theorem dX3_needClosure_4 : decode cX3_needClosure 4 = .ok (.iload_n 1, 1) := by decide +kernel
theorem dX3_needClosure_5 : decode cX3_needClosure 5 = .ok (.invokevirtual 203, 3) := by decide +kernel
theorem dX3_needClosure_8 : decode cX3_needClosure 8 = .ok (.ifCond .ne 13, 3) := by decide +kernel
theorem dX3_needClosure_11 : decode cX3_needClosure 11 = .ok (.new 119, 3) := by decide +kernel
theorem dX3_needClosure_14 : decode cX3_needClosure 14 = .ok (.dup, 1) := by decide +kernel
theorem dX3_needClosure_15 : decode cX3_needClosure 15 = .ok (.ldc 206, 2) := by decide +kernel
theorem dX3_needClosure_17 : decode cX3_needClosure 17 = .ok (.invokespecial 123, 3) := by decide +kernel
theorem dX3_needClosure_20 : decode cX3_needClosure 20 = .ok (.athrow, 1) := by decide +kernel
theorem dX3_needClosure_21 : decode cX3_needClosure 21 = .ok (.return_, 1) := by decide +kernel
theorem dX3_needKind_0 : decode cX3_needKind 0 = .ok (.iload_n 0, 1) := by decide +kernel
theorem dX3_needKind_1 : decode cX3_needKind 1 = .ok (.ifCond .lt 8, 3) := by decide +kernel
theorem dX3_needKind_4 : decode cX3_needKind 4 = .ok (.iload_n 0, 1) := by decide +kernel
theorem dX3_needKind_5 : decode cX3_needKind 5 = .ok (.iconst 5, 1) := by decide +kernel
theorem dX3_needKind_6 : decode cX3_needKind 6 = .ok (.if_icmp .le 13, 3) := by decide +kernel
theorem dX3_needKind_9 : decode cX3_needKind 9 = .ok (.new 119, 3) := by decide +kernel
theorem dX3_needKind_12 : decode cX3_needKind 12 = .ok (.dup, 1) := by decide +kernel
theorem dX3_needKind_13 : decode cX3_needKind 13 = .ok (.ldc 208, 2) := by decide +kernel
theorem dX3_needKind_15 : decode cX3_needKind 15 = .ok (.invokespecial 123, 3) := by decide +kernel
theorem dX3_needKind_18 : decode cX3_needKind 18 = .ok (.athrow, 1) := by decide +kernel
theorem dX3_needKind_19 : decode cX3_needKind 19 = .ok (.iload_n 0, 1) := by decide +kernel
theorem dX3_needKind_20 : decode cX3_needKind 20 = .ok (.iconst 2, 1) := by decide +kernel
theorem dX3_needKind_21 : decode cX3_needKind 21 = .ok (.if_icmp .ne 20, 3) := by decide +kernel
theorem dX3_needKind_24 : decode cX3_needKind 24 = .ok (.iload_n 1, 1) := by decide +kernel
theorem dX3_needKind_25 : decode cX3_needKind 25 = .ok (.invokestatic 116, 3) := by decide +kernel
theorem dX3_needKind_28 : decode cX3_needKind 28 = .ok (.ifCond .ne 13, 3) := by decide +kernel
theorem dX3_needKind_31 : decode cX3_needKind 31 = .ok (.new 119, 3) := by decide +kernel
theorem dX3_needKind_34 : decode cX3_needKind 34 = .ok (.dup, 1) := by decide +kernel
theorem dX3_needKind_35 : decode cX3_needKind 35 = .ok (.ldc 121, 2) := by decide +kernel
theorem dX3_needKind_37 : decode cX3_needKind 37 = .ok (.invokespecial 123, 3) := by decide +kernel
theorem dX3_needKind_40 : decode cX3_needKind 40 = .ok (.athrow, 1) := by decide +kernel
theorem dX3_needKind_41 : decode cX3_needKind 41 = .ok (.return_, 1) := by decide +kernel
theorem dX3_needPiece_0 : decode cX3_needPiece 0 = .ok (.iload_n 0, 1) := by decide +kernel
theorem dX3_needPiece_1 : decode cX3_needPiece 1 = .ok (.ifCond .lt 9, 3) := by decide +kernel
theorem dX3_needPiece_4 : decode cX3_needPiece 4 = .ok (.iload_n 0, 1) := by decide +kernel
theorem dX3_needPiece_5 : decode cX3_needPiece 5 = .ok (.bipush 60, 2) := by decide +kernel
theorem dX3_needPiece_7 : decode cX3_needPiece 7 = .ok (.if_icmp .lt 13, 3) := by decide +kernel
theorem dX3_needPiece_10 : decode cX3_needPiece 10 = .ok (.new 119, 3) := by decide +kernel
theorem dX3_needPiece_13 : decode cX3_needPiece 13 = .ok (.dup, 1) := by decide +kernel
theorem dX3_needPiece_14 : decode cX3_needPiece 14 = .ok (.ldc 210, 2) := by decide +kernel
theorem dX3_needPiece_16 : decode cX3_needPiece 16 = .ok (.invokespecial 123, 3) := by decide +kernel
theorem dX3_needPiece_19 : decode cX3_needPiece 19 = .ok (.athrow, 1) := by decide +kernel
theorem dX3_needPiece_20 : decode cX3_needPiece 20 = .ok (.return_, 1) := by decide +kernel
theorem dX3_needPlace_0 : decode cX3_needPlace 0 = .ok (.iload_n 0, 1) := by decide +kernel
theorem dX3_needPlace_1 : decode cX3_needPlace 1 = .ok (.invokestatic 45, 3) := by decide +kernel
theorem dX3_needPlace_4 : decode cX3_needPlace 4 = .ok (.iload_n 1, 1) := by decide +kernel
theorem dX3_needPlace_5 : decode cX3_needPlace 5 = .ok (.iconst 1, 1) := by decide +kernel
theorem dX3_needPlace_6 : decode cX3_needPlace 6 = .ok (.if_icmp .eq 18, 3) := by decide +kernel
theorem dX3_needPlace_9 : decode cX3_needPlace 9 = .ok (.iload_n 1, 1) := by decide +kernel
theorem dX3_needPlace_10 : decode cX3_needPlace 10 = .ok (.iconst 2, 1) := by decide +kernel
theorem dX3_needPlace_11 : decode cX3_needPlace 11 = .ok (.if_icmp .eq 13, 3) := by decide +kernel
theorem dX3_needPlace_14 : decode cX3_needPlace 14 = .ok (.new 49, 3) := by decide +kernel
theorem dX3_needPlace_17 : decode cX3_needPlace 17 = .ok (.dup, 1) := by decide +kernel
theorem dX3_needPlace_18 : decode cX3_needPlace 18 = .ok (.ldc 212, 2) := by decide +kernel
theorem dX3_needPlace_20 : decode cX3_needPlace 20 = .ok (.invokespecial 53, 3) := by decide +kernel
theorem dX3_needPlace_23 : decode cX3_needPlace 23 = .ok (.athrow, 1) := by decide +kernel
theorem dX3_needPlace_24 : decode cX3_needPlace 24 = .ok (.iload_n 0, 1) := by decide +kernel
theorem dX3_needPlace_25 : decode cX3_needPlace 25 = .ok (.iload_n 1, 1) := by decide +kernel
theorem dX3_needPlace_26 : decode cX3_needPlace 26 = .ok (.invokestatic 214, 3) := by decide +kernel
theorem dX3_needPlace_29 : decode cX3_needPlace 29 = .ok (.ireturn, 1) := by decide +kernel
theorem dX3_needUnit_0 : decode cX3_needUnit 0 = .ok (.iload_n 0, 1) := by decide +kernel
theorem dX3_needUnit_1 : decode cX3_needUnit 1 = .ok (.ifCond .lt 9, 3) := by decide +kernel
theorem dX3_needUnit_4 : decode cX3_needUnit 4 = .ok (.iload_n 0, 1) := by decide +kernel
theorem dX3_needUnit_5 : decode cX3_needUnit 5 = .ok (.bipush 10, 2) := by decide +kernel
theorem dX3_needUnit_7 : decode cX3_needUnit 7 = .ok (.if_icmp .lt 13, 3) := by decide +kernel
theorem dX3_needUnit_10 : decode cX3_needUnit 10 = .ok (.new 119, 3) := by decide +kernel
theorem dX3_needUnit_13 : decode cX3_needUnit 13 = .ok (.dup, 1) := by decide +kernel
theorem dX3_needUnit_14 : decode cX3_needUnit 14 = .ok (.ldc 217, 2) := by decide +kernel
theorem dX3_needUnit_16 : decode cX3_needUnit 16 = .ok (.invokespecial 123, 3) := by decide +kernel
theorem dX3_needUnit_19 : decode cX3_needUnit 19 = .ok (.athrow, 1) := by decide +kernel
theorem dX3_needUnit_20 : decode cX3_needUnit 20 = .ok (.return_, 1) := by decide +kernel
theorem dX3_needMinute_0 : decode cX3_needMinute 0 = .ok (.iload_n 0, 1) := by decide +kernel
theorem dX3_needMinute_1 : decode cX3_needMinute 1 = .ok (.ifCond .lt 9, 3) := by decide +kernel
theorem dX3_needMinute_4 : decode cX3_needMinute 4 = .ok (.iload_n 0, 1) := by decide +kernel
theorem dX3_needMinute_5 : decode cX3_needMinute 5 = .ok (.ldc 143, 2) := by decide +kernel
theorem dX3_needMinute_7 : decode cX3_needMinute 7 = .ok (.if_icmp .le 13, 3) := by decide +kernel
theorem dX3_needMinute_10 : decode cX3_needMinute 10 = .ok (.new 49, 3) := by decide +kernel
theorem dX3_needMinute_13 : decode cX3_needMinute 13 = .ok (.dup, 1) := by decide +kernel
theorem dX3_needMinute_14 : decode cX3_needMinute 14 = .ok (.ldc 219, 2) := by decide +kernel
theorem dX3_needMinute_16 : decode cX3_needMinute 16 = .ok (.invokespecial 53, 3) := by decide +kernel
theorem dX3_needMinute_19 : decode cX3_needMinute 19 = .ok (.athrow, 1) := by decide +kernel
theorem dX3_needMinute_20 : decode cX3_needMinute 20 = .ok (.return_, 1) := by decide +kernel
theorem dX3_needEnd_0 : decode cX3_needEnd 0 = .ok (.iload_n 0, 1) := by decide +kernel
theorem dX3_needEnd_1 : decode cX3_needEnd 1 = .ok (.invokestatic 75, 3) := by decide +kernel
theorem dX3_needEnd_4 : decode cX3_needEnd 4 = .ok (.ifCond .eq 24, 3) := by decide +kernel
theorem dX3_needEnd_7 : decode cX3_needEnd 7 = .ok (.iload_n 2, 1) := by decide +kernel
theorem dX3_needEnd_8 : decode cX3_needEnd 8 = .ok (.iload_n 1, 1) := by decide +kernel
theorem dX3_needEnd_9 : decode cX3_needEnd 9 = .ok (.if_icmp .le 9, 3) := by decide +kernel
theorem dX3_needEnd_12 : decode cX3_needEnd 12 = .ok (.iload_n 2, 1) := by decide +kernel
theorem dX3_needEnd_13 : decode cX3_needEnd 13 = .ok (.ldc 143, 2) := by decide +kernel
theorem dX3_needEnd_15 : decode cX3_needEnd 15 = .ok (.if_icmp .le 13, 3) := by decide +kernel
theorem dX3_needEnd_18 : decode cX3_needEnd 18 = .ok (.new 49, 3) := by decide +kernel
theorem dX3_needEnd_21 : decode cX3_needEnd 21 = .ok (.dup, 1) := by decide +kernel
theorem dX3_needEnd_22 : decode cX3_needEnd 22 = .ok (.ldc 221, 2) := by decide +kernel
theorem dX3_needEnd_24 : decode cX3_needEnd 24 = .ok (.invokespecial 53, 3) := by decide +kernel
theorem dX3_needEnd_27 : decode cX3_needEnd 27 = .ok (.athrow, 1) := by decide +kernel
theorem dX3_needEnd_28 : decode cX3_needEnd 28 = .ok (.return_, 1) := by decide +kernel
end
section
theorem dX3_needX_0 : decode cX3_needX 0 = .ok (.iload_n 0, 1) := by decide +kernel
theorem dX3_needX_1 : decode cX3_needX 1 = .ok (.iconst 4, 1) := by decide +kernel
theorem dX3_needX_2 : decode cX3_needX 2 = .ok (.if_icmp .ne 20, 3) := by decide +kernel
theorem dX3_needX_5 : decode cX3_needX 5 = .ok (.iload_n 1, 1) := by decide +kernel
theorem dX3_needX_6 : decode cX3_needX 6 = .ok (.invokestatic 223, 3) := by decide +kernel
theorem dX3_needX_9 : decode cX3_needX 9 = .ok (.ifCond .ne 13, 3) := by decide +kernel
theorem dX3_needX_12 : decode cX3_needX 12 = .ok (.new 49, 3) := by decide +kernel
theorem dX3_needX_15 : decode cX3_needX 15 = .ok (.dup, 1) := by decide +kernel
theorem dX3_needX_16 : decode cX3_needX 16 = .ok (.ldc 226, 2) := by decide +kernel
theorem dX3_needX_18 : decode cX3_needX 18 = .ok (.invokespecial 53, 3) := by decide +kernel
theorem dX3_needX_21 : decode cX3_needX 21 = .ok (.athrow, 1) := by decide +kernel
theorem dX3_needX_22 : decode cX3_needX 22 = .ok (.iload_n 0, 1) := by decide +kernel
theorem dX3_needX_23 : decode cX3_needX 23 = .ok (.iconst 5, 1) := by decide +kernel
theorem dX3_needX_24 : decode cX3_needX 24 = .ok (.if_icmp .ne 24, 3) := by decide +kernel
theorem dX3_needX_27 : decode cX3_needX 27 = .ok (.iload_n 1, 1) := by decide +kernel
theorem dX3_needX_28 : decode cX3_needX 28 = .ok (.iconst 1, 1) := by decide +kernel
theorem dX3_needX_29 : decode cX3_needX 29 = .ok (.if_icmp .lt 9, 3) := by decide +kernel
theorem dX3_needX_32 : decode cX3_needX 32 = .ok (.iload_n 1, 1) := by decide +kernel
theorem dX3_needX_33 : decode cX3_needX 33 = .ok (.bipush 100, 2) := by decide +kernel
theorem dX3_needX_35 : decode cX3_needX 35 = .ok (.if_icmp .lt 13, 3) := by decide +kernel
theorem dX3_needX_38 : decode cX3_needX 38 = .ok (.new 49, 3) := by decide +kernel
theorem dX3_needX_41 : decode cX3_needX 41 = .ok (.dup, 1) := by decide +kernel
theorem dX3_needX_42 : decode cX3_needX 42 = .ok (.ldc 228, 2) := by decide +kernel
theorem dX3_needX_44 : decode cX3_needX 44 = .ok (.invokespecial 53, 3) := by decide +kernel
theorem dX3_needX_47 : decode cX3_needX 47 = .ok (.athrow, 1) := by decide +kernel
theorem dX3_needX_48 : decode cX3_needX 48 = .ok (.return_, 1) := by decide +kernel
theorem dX3_isIncident_0 : decode cX3_isIncident 0 = .ok (.iload_n 0, 1) := by decide +kernel
theorem dX3_isIncident_1 : decode cX3_isIncident 1 = .ok (.ifCond .lt 13, 3) := by decide +kernel
theorem dX3_isIncident_4 : decode cX3_isIncident 4 = .ok (.iload_n 0, 1) := by decide +kernel
theorem dX3_isIncident_5 : decode cX3_isIncident 5 = .ok (.bipush 20, 2) := by decide +kernel
theorem dX3_isIncident_7 : decode cX3_isIncident 7 = .ok (.if_icmp .ge 7, 3) := by decide +kernel
theorem dX3_isIncident_10 : decode cX3_isIncident 10 = .ok (.iconst 1, 1) := by decide +kernel
theorem dX3_isIncident_11 : decode cX3_isIncident 11 = .ok (.goto 4, 3) := by decide +kernel
theorem dX3_isIncident_14 : decode cX3_isIncident 14 = .ok (.iconst 0, 1) := by decide +kernel
theorem dX3_isIncident_15 : decode cX3_isIncident 15 = .ok (.ireturn, 1) := by decide +kernel
theorem dX3_hasEnd_0 : decode cX3_hasEnd 0 = .ok (.iload_n 0, 1) := by decide +kernel
theorem dX3_hasEnd_1 : decode cX3_hasEnd 1 = .ok (.iconst 2, 1) := by decide +kernel
theorem dX3_hasEnd_2 : decode cX3_hasEnd 2 = .ok (.if_icmp .eq 12, 3) := by decide +kernel
theorem dX3_hasEnd_5 : decode cX3_hasEnd 5 = .ok (.iload_n 0, 1) := by decide +kernel
theorem dX3_hasEnd_6 : decode cX3_hasEnd 6 = .ok (.iconst 3, 1) := by decide +kernel
theorem dX3_hasEnd_7 : decode cX3_hasEnd 7 = .ok (.if_icmp .eq 7, 3) := by decide +kernel
theorem dX3_hasEnd_10 : decode cX3_hasEnd 10 = .ok (.iconst 1, 1) := by decide +kernel
theorem dX3_hasEnd_11 : decode cX3_hasEnd 11 = .ok (.goto 4, 3) := by decide +kernel
theorem dX3_hasEnd_14 : decode cX3_hasEnd 14 = .ok (.iconst 0, 1) := by decide +kernel
theorem dX3_hasEnd_15 : decode cX3_hasEnd 15 = .ok (.ireturn, 1) := by decide +kernel
theorem dX3_isTimetable_0 : decode cX3_isTimetable 0 = .ok (.iload_n 0, 1) := by decide +kernel
theorem dX3_isTimetable_1 : decode cX3_isTimetable 1 = .ok (.invokestatic 230, 3) := by decide +kernel
theorem dX3_isTimetable_4 : decode cX3_isTimetable 4 = .ok (.istore_n 1, 1) := by decide +kernel
theorem dX3_isTimetable_5 : decode cX3_isTimetable 5 = .ok (.iload_n 1, 1) := by decide +kernel
theorem dX3_isTimetable_6 : decode cX3_isTimetable 6 = .ok (.iconst 1, 1) := by decide +kernel
theorem dX3_isTimetable_7 : decode cX3_isTimetable 7 = .ok (.if_icmp .lt 21, 3) := by decide +kernel
theorem dX3_isTimetable_10 : decode cX3_isTimetable 10 = .ok (.iload_n 1, 1) := by decide +kernel
theorem dX3_isTimetable_11 : decode cX3_isTimetable 11 = .ok (.bipush 99, 2) := by decide +kernel
theorem dX3_isTimetable_13 : decode cX3_isTimetable 13 = .ok (.if_icmp .gt 15, 3) := by decide +kernel
theorem dX3_isTimetable_16 : decode cX3_isTimetable 16 = .ok (.iload_n 0, 1) := by decide +kernel
theorem dX3_isTimetable_17 : decode cX3_isTimetable 17 = .ok (.invokestatic 233, 3) := by decide +kernel
theorem dX3_isTimetable_20 : decode cX3_isTimetable 20 = .ok (.iload_n 1, 1) := by decide +kernel
theorem dX3_isTimetable_21 : decode cX3_isTimetable 21 = .ok (.if_icmp .gt 7, 3) := by decide +kernel
theorem dX3_isTimetable_24 : decode cX3_isTimetable 24 = .ok (.iconst 1, 1) := by decide +kernel
theorem dX3_isTimetable_25 : decode cX3_isTimetable 25 = .ok (.goto 4, 3) := by decide +kernel
theorem dX3_isTimetable_28 : decode cX3_isTimetable 28 = .ok (.iconst 0, 1) := by decide +kernel
theorem dX3_isTimetable_29 : decode cX3_isTimetable 29 = .ok (.ireturn, 1) := by decide +kernel
theorem dX3_periodOf_0 : decode cX3_periodOf 0 = .ok (.iload_n 0, 1) := by decide +kernel
theorem dX3_periodOf_1 : decode cX3_periodOf 1 = .ok (.bipush 100, 2) := by decide +kernel
theorem dX3_periodOf_3 : decode cX3_periodOf 3 = .ok (.idiv, 1) := by decide +kernel
theorem dX3_periodOf_4 : decode cX3_periodOf 4 = .ok (.ireturn, 1) := by decide +kernel
theorem dX3_lengthOf_0 : decode cX3_lengthOf 0 = .ok (.iload_n 0, 1) := by decide +kernel
theorem dX3_lengthOf_1 : decode cX3_lengthOf 1 = .ok (.bipush 100, 2) := by decide +kernel
theorem dX3_lengthOf_3 : decode cX3_lengthOf 3 = .ok (.irem, 1) := by decide +kernel
theorem dX3_lengthOf_4 : decode cX3_lengthOf 4 = .ok (.ireturn, 1) := by decide +kernel
theorem dX3_placeOf_0 : decode cX3_placeOf 0 = .ok (.iconst 2, 1) := by decide +kernel
theorem dX3_placeOf_1 : decode cX3_placeOf 1 = .ok (.iload_n 0, 1) := by decide +kernel
theorem dX3_placeOf_2 : decode cX3_placeOf 2 = .ok (.imul, 1) := by decide +kernel
theorem dX3_placeOf_3 : decode cX3_placeOf 3 = .ok (.iload_n 1, 1) := by decide +kernel
theorem dX3_placeOf_4 : decode cX3_placeOf 4 = .ok (.iadd, 1) := by decide +kernel
theorem dX3_placeOf_5 : decode cX3_placeOf 5 = .ok (.iconst 1, 1) := by decide +kernel
theorem dX3_placeOf_6 : decode cX3_placeOf 6 = .ok (.isub, 1) := by decide +kernel
theorem dX3_placeOf_7 : decode cX3_placeOf 7 = .ok (.ireturn, 1) := by decide +kernel
theorem dX3_pieceOf_0 : decode cX3_pieceOf 0 = .ok (.iload_n 0, 1) := by decide +kernel
theorem dX3_pieceOf_1 : decode cX3_pieceOf 1 = .ok (.iconst 2, 1) := by decide +kernel
theorem dX3_pieceOf_2 : decode cX3_pieceOf 2 = .ok (.idiv, 1) := by decide +kernel
theorem dX3_pieceOf_3 : decode cX3_pieceOf 3 = .ok (.ireturn, 1) := by decide +kernel
theorem dX3_sideOf_0 : decode cX3_sideOf 0 = .ok (.iload_n 0, 1) := by decide +kernel
theorem dX3_sideOf_1 : decode cX3_sideOf 1 = .ok (.iconst 2, 1) := by decide +kernel
theorem dX3_sideOf_2 : decode cX3_sideOf 2 = .ok (.irem, 1) := by decide +kernel
theorem dX3_sideOf_3 : decode cX3_sideOf 3 = .ok (.iconst 1, 1) := by decide +kernel
theorem dX3_sideOf_4 : decode cX3_sideOf 4 = .ok (.iadd, 1) := by decide +kernel
theorem dX3_sideOf_5 : decode cX3_sideOf 5 = .ok (.ireturn, 1) := by decide +kernel
theorem dX4_init_0 : decode cX4_init 0 = .ok (.aload_n 0, 1) := by decide +kernel
theorem dX4_init_1 : decode cX4_init 1 = .ok (.invokespecial 1, 3) := by decide +kernel
theorem dX4_init_4 : decode cX4_init 4 = .ok (.aload_n 0, 1) := by decide +kernel
theorem dX4_init_5 : decode cX4_init 5 = .ok (.bipush 100, 2) := by decide +kernel
theorem dX4_init_7 : decode cX4_init 7 = .ok (.newarray .int, 2) := by decide +kernel
theorem dX4_init_9 : decode cX4_init 9 = .ok (.putfield 7, 3) := by decide +kernel
theorem dX4_init_12 : decode cX4_init 12 = .ok (.aload_n 0, 1) := by decide +kernel
theorem dX4_init_13 : decode cX4_init 13 = .ok (.bipush 100, 2) := by decide +kernel
theorem dX4_init_15 : decode cX4_init 15 = .ok (.newarray .int, 2) := by decide +kernel
theorem dX4_init_17 : decode cX4_init 17 = .ok (.putfield 13, 3) := by decide +kernel
theorem dX4_init_20 : decode cX4_init 20 = .ok (.aload_n 0, 1) := by decide +kernel
theorem dX4_init_21 : decode cX4_init 21 = .ok (.bipush 100, 2) := by decide +kernel
theorem dX4_init_23 : decode cX4_init 23 = .ok (.newarray .int, 2) := by decide +kernel
theorem dX4_init_25 : decode cX4_init 25 = .ok (.putfield 16, 3) := by decide +kernel
theorem dX4_init_28 : decode cX4_init 28 = .ok (.aload_n 0, 1) := by decide +kernel
theorem dX4_init_29 : decode cX4_init 29 = .ok (.bipush 100, 2) := by decide +kernel
theorem dX4_init_31 : decode cX4_init 31 = .ok (.newarray .int, 2) := by decide +kernel
theorem dX4_init_33 : decode cX4_init 33 = .ok (.putfield 19, 3) := by decide +kernel
theorem dX4_init_36 : decode cX4_init 36 = .ok (.aload_n 0, 1) := by decide +kernel
theorem dX4_init_37 : decode cX4_init 37 = .ok (.bipush 100, 2) := by decide +kernel
theorem dX4_init_39 : decode cX4_init 39 = .ok (.newarray .int, 2) := by decide +kernel
theorem dX4_init_41 : decode cX4_init 41 = .ok (.putfield 22, 3) := by decide +kernel
theorem dX4_init_44 : decode cX4_init 44 = .ok (.aload_n 0, 1) := by decide +kernel
theorem dX4_init_45 : decode cX4_init 45 = .ok (.bipush 100, 2) := by decide +kernel
theorem dX4_init_47 : decode cX4_init 47 = .ok (.newarray .int, 2) := by decide +kernel
theorem dX4_init_49 : decode cX4_init 49 = .ok (.putfield 25, 3) := by decide +kernel
theorem dX4_init_52 : decode cX4_init 52 = .ok (.aload_n 0, 1) := by decide +kernel
theorem dX4_init_53 : decode cX4_init 53 = .ok (.bipush 100, 2) := by decide +kernel
theorem dX4_init_55 : decode cX4_init 55 = .ok (.newarray .int, 2) := by decide +kernel
theorem dX4_init_57 : decode cX4_init 57 = .ok (.putfield 28, 3) := by decide +kernel
theorem dX4_init_60 : decode cX4_init 60 = .ok (.aload_n 0, 1) := by decide +kernel
theorem dX4_init_61 : decode cX4_init 61 = .ok (.bipush 100, 2) := by decide +kernel
theorem dX4_init_63 : decode cX4_init 63 = .ok (.newarray .int, 2) := by decide +kernel
theorem dX4_init_65 : decode cX4_init 65 = .ok (.putfield 31, 3) := by decide +kernel
theorem dX4_init_68 : decode cX4_init 68 = .ok (.aload_n 0, 1) := by decide +kernel
theorem dX4_init_69 : decode cX4_init 69 = .ok (.bipush 100, 2) := by decide +kernel
theorem dX4_init_71 : decode cX4_init 71 = .ok (.newarray .int, 2) := by decide +kernel
theorem dX4_init_73 : decode cX4_init 73 = .ok (.putfield 34, 3) := by decide +kernel
theorem dX4_init_76 : decode cX4_init 76 = .ok (.aload_n 0, 1) := by decide +kernel
theorem dX4_init_77 : decode cX4_init 77 = .ok (.bipush 20, 2) := by decide +kernel
theorem dX4_init_79 : decode cX4_init 79 = .ok (.newarray .boolean, 2) := by decide +kernel
theorem dX4_init_81 : decode cX4_init 81 = .ok (.putfield 37, 3) := by decide +kernel
theorem dX4_init_84 : decode cX4_init 84 = .ok (.aload_n 0, 1) := by decide +kernel
theorem dX4_init_85 : decode cX4_init 85 = .ok (.bipush 10, 2) := by decide +kernel
theorem dX4_init_87 : decode cX4_init 87 = .ok (.newarray .int, 2) := by decide +kernel
theorem dX4_init_89 : decode cX4_init 89 = .ok (.putfield 41, 3) := by decide +kernel
theorem dX4_init_92 : decode cX4_init 92 = .ok (.aload_n 0, 1) := by decide +kernel
theorem dX4_init_93 : decode cX4_init 93 = .ok (.bipush 120, 2) := by decide +kernel
theorem dX4_init_95 : decode cX4_init 95 = .ok (.newarray .int, 2) := by decide +kernel
theorem dX4_init_97 : decode cX4_init 97 = .ok (.putfield 44, 3) := by decide +kernel
theorem dX4_init_100 : decode cX4_init 100 = .ok (.aload_n 0, 1) := by decide +kernel
theorem dX4_init_101 : decode cX4_init 101 = .ok (.bipush 120, 2) := by decide +kernel
theorem dX4_init_103 : decode cX4_init 103 = .ok (.newarray .boolean, 2) := by decide +kernel
theorem dX4_init_105 : decode cX4_init 105 = .ok (.putfield 47, 3) := by decide +kernel
theorem dX4_init_108 : decode cX4_init 108 = .ok (.aload_n 0, 1) := by decide +kernel
theorem dX4_init_109 : decode cX4_init 109 = .ok (.sipush 500, 3) := by decide +kernel
theorem dX4_init_112 : decode cX4_init 112 = .ok (.newarray .int, 2) := by decide +kernel
theorem dX4_init_114 : decode cX4_init 114 = .ok (.putfield 50, 3) := by decide +kernel
theorem dX4_init_117 : decode cX4_init 117 = .ok (.return_, 1) := by decide +kernel
theorem dX4_thrown_0 : decode cX4_thrown 0 = .ok (.aload_n 0, 1) := by decide +kernel
theorem dX4_thrown_1 : decode cX4_thrown 1 = .ok (.getfield 53, 3) := by decide +kernel
theorem dX4_thrown_4 : decode cX4_thrown 4 = .ok (.ireturn, 1) := by decide +kernel
theorem dX4_throwing_0 : decode cX4_throwing 0 = .ok (.aload_n 0, 1) := by decide +kernel
theorem dX4_throwing_1 : decode cX4_throwing 1 = .ok (.iload_n 1, 1) := by decide +kernel
theorem dX4_throwing_2 : decode cX4_throwing 2 = .ok (.ifCond .eq 7, 3) := by decide +kernel
theorem dX4_throwing_5 : decode cX4_throwing 5 = .ok (.iconst 1, 1) := by decide +kernel
theorem dX4_throwing_6 : decode cX4_throwing 6 = .ok (.goto 20, 3) := by decide +kernel
theorem dX4_throwing_9 : decode cX4_throwing 9 = .ok (.iload_n 2, 1) := by decide +kernel
theorem dX4_throwing_10 : decode cX4_throwing 10 = .ok (.ifCond .eq 7, 3) := by decide +kernel
theorem dX4_throwing_13 : decode cX4_throwing 13 = .ok (.iconst 2, 1) := by decide +kernel
theorem dX4_throwing_14 : decode cX4_throwing 14 = .ok (.goto 12, 3) := by decide +kernel
theorem dX4_throwing_17 : decode cX4_throwing 17 = .ok (.iload_n 3, 1) := by decide +kernel
theorem dX4_throwing_18 : decode cX4_throwing 18 = .ok (.ifCond .eq 7, 3) := by decide +kernel
theorem dX4_throwing_21 : decode cX4_throwing 21 = .ok (.iconst 3, 1) := by decide +kernel
theorem dX4_throwing_22 : decode cX4_throwing 22 = .ok (.goto 4, 3) := by decide +kernel
theorem dX4_throwing_25 : decode cX4_throwing 25 = .ok (.iconst 0, 1) := by decide +kernel
theorem dX4_throwing_26 : decode cX4_throwing 26 = .ok (.putfield 53, 3) := by decide +kernel
theorem dX4_throwing_29 : decode cX4_throwing 29 = .ok (.aload_n 0, 1) := by decide +kernel
theorem dX4_throwing_30 : decode cX4_throwing 30 = .ok (.getfield 53, 3) := by decide +kernel
theorem dX4_throwing_33 : decode cX4_throwing 33 = .ok (.ifCond .le 7, 3) := by decide +kernel
theorem dX4_throwing_36 : decode cX4_throwing 36 = .ok (.iconst 1, 1) := by decide +kernel
theorem dX4_throwing_37 : decode cX4_throwing 37 = .ok (.goto 4, 3) := by decide +kernel
theorem dX4_throwing_40 : decode cX4_throwing 40 = .ok (.iconst 0, 1) := by decide +kernel
theorem dX4_throwing_41 : decode cX4_throwing 41 = .ok (.ireturn, 1) := by decide +kernel
theorem dX4_in_0 : decode cX4_in 0 = .ok (.iload_n 0, 1) := by decide +kernel
theorem dX4_in_1 : decode cX4_in 1 = .ok (.iload_n 1, 1) := by decide +kernel
theorem dX4_in_2 : decode cX4_in 2 = .ok (.if_icmp .lt 12, 3) := by decide +kernel
theorem dX4_in_5 : decode cX4_in 5 = .ok (.iload_n 0, 1) := by decide +kernel
theorem dX4_in_6 : decode cX4_in 6 = .ok (.iload_n 2, 1) := by decide +kernel
theorem dX4_in_7 : decode cX4_in 7 = .ok (.if_icmp .gt 7, 3) := by decide +kernel
theorem dX4_in_10 : decode cX4_in 10 = .ok (.iconst 1, 1) := by decide +kernel
theorem dX4_in_11 : decode cX4_in 11 = .ok (.goto 4, 3) := by decide +kernel
theorem dX4_in_14 : decode cX4_in 14 = .ok (.iconst 0, 1) := by decide +kernel
theorem dX4_in_15 : decode cX4_in 15 = .ok (.ireturn, 1) := by decide +kernel
theorem dX4_isPiece_0 : decode cX4_isPiece 0 = .ok (.iload_n 0, 1) := by decide +kernel
theorem dX4_isPiece_1 : decode cX4_isPiece 1 = .ok (.iconst 0, 1) := by decide +kernel
theorem dX4_isPiece_2 : decode cX4_isPiece 2 = .ok (.bipush 59, 2) := by decide +kernel
theorem dX4_isPiece_4 : decode cX4_isPiece 4 = .ok (.invokestatic 57, 3) := by decide +kernel
theorem dX4_isPiece_7 : decode cX4_isPiece 7 = .ok (.ireturn, 1) := by decide +kernel
theorem dX4_isSide_0 : decode cX4_isSide 0 = .ok (.iload_n 0, 1) := by decide +kernel
theorem dX4_isSide_1 : decode cX4_isSide 1 = .ok (.iconst 1, 1) := by decide +kernel
theorem dX4_isSide_2 : decode cX4_isSide 2 = .ok (.iconst 2, 1) := by decide +kernel
theorem dX4_isSide_3 : decode cX4_isSide 3 = .ok (.invokestatic 57, 3) := by decide +kernel
theorem dX4_isSide_6 : decode cX4_isSide 6 = .ok (.ireturn, 1) := by decide +kernel
theorem dX4_isMinute_0 : decode cX4_isMinute 0 = .ok (.iload_n 0, 1) := by decide +kernel
theorem dX4_isMinute_1 : decode cX4_isMinute 1 = .ok (.iconst 0, 1) := by decide +kernel
theorem dX4_isMinute_2 : decode cX4_isMinute 2 = .ok (.ldc 61, 2) := by decide +kernel
theorem dX4_isMinute_4 : decode cX4_isMinute 4 = .ok (.invokestatic 57, 3) := by decide +kernel
theorem dX4_isMinute_7 : decode cX4_isMinute 7 = .ok (.ireturn, 1) := by decide +kernel
theorem dX4_isClosure_0 : decode cX4_isClosure 0 = .ok (.iload_n 1, 1) := by decide +kernel
theorem dX4_isClosure_1 : decode cX4_isClosure 1 = .ok (.iconst 0, 1) := by decide +kernel
theorem dX4_isClosure_2 : decode cX4_isClosure 2 = .ok (.aload_n 0, 1) := by decide +kernel
theorem dX4_isClosure_3 : decode cX4_isClosure 3 = .ok (.getfield 62, 3) := by decide +kernel
theorem dX4_isClosure_6 : decode cX4_isClosure 6 = .ok (.iconst 1, 1) := by decide +kernel
theorem dX4_isClosure_7 : decode cX4_isClosure 7 = .ok (.isub, 1) := by decide +kernel
theorem dX4_isClosure_8 : decode cX4_isClosure 8 = .ok (.invokestatic 57, 3) := by decide +kernel
theorem dX4_isClosure_11 : decode cX4_isClosure 11 = .ok (.ireturn, 1) := by decide +kernel
theorem dX4_holds_0 : decode cX4_holds 0 = .ok (.aload_n 0, 1) := by decide +kernel
theorem dX4_holds_1 : decode cX4_holds 1 = .ok (.getfield 7, 3) := by decide +kernel
theorem dX4_holds_4 : decode cX4_holds 4 = .ok (.iload_n 1, 1) := by decide +kernel
theorem dX4_holds_5 : decode cX4_holds 5 = .ok (.iaload, 1) := by decide +kernel
theorem dX4_holds_6 : decode cX4_holds 6 = .ok (.istore_n 3, 1) := by decide +kernel
theorem dX4_holds_7 : decode cX4_holds 7 = .ok (.iload_n 2, 1) := by decide +kernel
theorem dX4_holds_8 : decode cX4_holds 8 = .ok (.aload_n 0, 1) := by decide +kernel
theorem dX4_holds_9 : decode cX4_holds 9 = .ok (.getfield 19, 3) := by decide +kernel
theorem dX4_holds_12 : decode cX4_holds 12 = .ok (.iload_n 1, 1) := by decide +kernel
theorem dX4_holds_13 : decode cX4_holds 13 = .ok (.iaload, 1) := by decide +kernel
theorem dX4_holds_14 : decode cX4_holds 14 = .ok (.if_icmp .lt 23, 3) := by decide +kernel
theorem dX4_holds_17 : decode cX4_holds 17 = .ok (.aload_n 0, 1) := by decide +kernel
theorem dX4_holds_18 : decode cX4_holds 18 = .ok (.getfield 31, 3) := by decide +kernel
theorem dX4_holds_21 : decode cX4_holds 21 = .ok (.iload_n 1, 1) := by decide +kernel
theorem dX4_holds_22 : decode cX4_holds 22 = .ok (.iaload, 1) := by decide +kernel
theorem dX4_holds_23 : decode cX4_holds 23 = .ok (.iconst (-1), 1) := by decide +kernel
theorem dX4_holds_24 : decode cX4_holds 24 = .ok (.if_icmp .eq 15, 3) := by decide +kernel
theorem dX4_holds_27 : decode cX4_holds 27 = .ok (.iload_n 2, 1) := by decide +kernel
theorem dX4_holds_28 : decode cX4_holds 28 = .ok (.aload_n 0, 1) := by decide +kernel
theorem dX4_holds_29 : decode cX4_holds 29 = .ok (.getfield 31, 3) := by decide +kernel
theorem dX4_holds_32 : decode cX4_holds 32 = .ok (.iload_n 1, 1) := by decide +kernel
theorem dX4_holds_33 : decode cX4_holds 33 = .ok (.iaload, 1) := by decide +kernel
theorem dX4_holds_34 : decode cX4_holds 34 = .ok (.if_icmp .lt 5, 3) := by decide +kernel
theorem dX4_holds_37 : decode cX4_holds 37 = .ok (.iconst 0, 1) := by decide +kernel
theorem dX4_holds_38 : decode cX4_holds 38 = .ok (.ireturn, 1) := by decide +kernel
theorem dX4_holds_39 : decode cX4_holds 39 = .ok (.iload_n 3, 1) := by decide +kernel
theorem dX4_holds_40 : decode cX4_holds 40 = .ok (.iconst 2, 1) := by decide +kernel
theorem dX4_holds_41 : decode cX4_holds 41 = .ok (.if_icmp .ne 15, 3) := by decide +kernel
theorem dX4_holds_44 : decode cX4_holds 44 = .ok (.aload_n 0, 1) := by decide +kernel
theorem dX4_holds_45 : decode cX4_holds 45 = .ok (.getfield 37, 3) := by decide +kernel
theorem dX4_holds_48 : decode cX4_holds 48 = .ok (.aload_n 0, 1) := by decide +kernel
theorem dX4_holds_49 : decode cX4_holds 49 = .ok (.getfield 25, 3) := by decide +kernel
theorem dX4_holds_52 : decode cX4_holds 52 = .ok (.iload_n 1, 1) := by decide +kernel
theorem dX4_holds_53 : decode cX4_holds 53 = .ok (.iaload, 1) := by decide +kernel
theorem dX4_holds_54 : decode cX4_holds 54 = .ok (.baload, 1) := by decide +kernel
theorem dX4_holds_55 : decode cX4_holds 55 = .ok (.ireturn, 1) := by decide +kernel
theorem dX4_holds_56 : decode cX4_holds 56 = .ok (.iload_n 3, 1) := by decide +kernel
theorem dX4_holds_57 : decode cX4_holds 57 = .ok (.iconst 3, 1) := by decide +kernel
theorem dX4_holds_58 : decode cX4_holds 58 = .ok (.if_icmp .ne 5, 3) := by decide +kernel
theorem dX4_holds_61 : decode cX4_holds 61 = .ok (.iconst 1, 1) := by decide +kernel
theorem dX4_holds_62 : decode cX4_holds 62 = .ok (.ireturn, 1) := by decide +kernel
theorem dX4_holds_63 : decode cX4_holds 63 = .ok (.iload_n 2, 1) := by decide +kernel
theorem dX4_holds_64 : decode cX4_holds 64 = .ok (.aload_n 0, 1) := by decide +kernel
theorem dX4_holds_65 : decode cX4_holds 65 = .ok (.getfield 22, 3) := by decide +kernel
theorem dX4_holds_68 : decode cX4_holds 68 = .ok (.iload_n 1, 1) := by decide +kernel
theorem dX4_holds_69 : decode cX4_holds 69 = .ok (.iaload, 1) := by decide +kernel
theorem dX4_holds_70 : decode cX4_holds 70 = .ok (.if_icmp .ge 18, 3) := by decide +kernel
theorem dX4_holds_73 : decode cX4_holds 73 = .ok (.iload_n 3, 1) := by decide +kernel
theorem dX4_holds_74 : decode cX4_holds 74 = .ok (.iconst 1, 1) := by decide +kernel
theorem dX4_holds_75 : decode cX4_holds 75 = .ok (.if_icmp .ne 15, 3) := by decide +kernel
theorem dX4_holds_78 : decode cX4_holds 78 = .ok (.aload_n 0, 1) := by decide +kernel
theorem dX4_holds_79 : decode cX4_holds 79 = .ok (.getfield 28, 3) := by decide +kernel
theorem dX4_holds_82 : decode cX4_holds 82 = .ok (.iload_n 1, 1) := by decide +kernel
theorem dX4_holds_83 : decode cX4_holds 83 = .ok (.iaload, 1) := by decide +kernel
theorem dX4_holds_84 : decode cX4_holds 84 = .ok (.iconst 1, 1) := by decide +kernel
theorem dX4_holds_85 : decode cX4_holds 85 = .ok (.if_icmp .eq 5, 3) := by decide +kernel
theorem dX4_holds_88 : decode cX4_holds 88 = .ok (.iconst 0, 1) := by decide +kernel
theorem dX4_holds_89 : decode cX4_holds 89 = .ok (.ireturn, 1) := by decide +kernel
theorem dX4_holds_90 : decode cX4_holds 90 = .ok (.iload_n 3, 1) := by decide +kernel
theorem dX4_holds_91 : decode cX4_holds 91 = .ok (.iconst 4, 1) := by decide +kernel
theorem dX4_holds_92 : decode cX4_holds 92 = .ok (.if_icmp .ne 33, 3) := by decide +kernel
theorem dX4_holds_95 : decode cX4_holds 95 = .ok (.iload_n 2, 1) := by decide +kernel
theorem dX4_holds_96 : decode cX4_holds 96 = .ok (.aload_n 0, 1) := by decide +kernel
theorem dX4_holds_97 : decode cX4_holds 97 = .ok (.getfield 19, 3) := by decide +kernel
theorem dX4_holds_100 : decode cX4_holds 100 = .ok (.iload_n 1, 1) := by decide +kernel
theorem dX4_holds_101 : decode cX4_holds 101 = .ok (.iaload, 1) := by decide +kernel
theorem dX4_holds_102 : decode cX4_holds 102 = .ok (.isub, 1) := by decide +kernel
theorem dX4_holds_103 : decode cX4_holds 103 = .ok (.aload_n 0, 1) := by decide +kernel
theorem dX4_holds_104 : decode cX4_holds 104 = .ok (.getfield 25, 3) := by decide +kernel
theorem dX4_holds_107 : decode cX4_holds 107 = .ok (.iload_n 1, 1) := by decide +kernel
theorem dX4_holds_108 : decode cX4_holds 108 = .ok (.iaload, 1) := by decide +kernel
theorem dX4_holds_109 : decode cX4_holds 109 = .ok (.bipush 100, 2) := by decide +kernel
theorem dX4_holds_111 : decode cX4_holds 111 = .ok (.idiv, 1) := by decide +kernel
theorem dX4_holds_112 : decode cX4_holds 112 = .ok (.irem, 1) := by decide +kernel
theorem dX4_holds_113 : decode cX4_holds 113 = .ok (.aload_n 0, 1) := by decide +kernel
theorem dX4_holds_114 : decode cX4_holds 114 = .ok (.getfield 25, 3) := by decide +kernel
theorem dX4_holds_117 : decode cX4_holds 117 = .ok (.iload_n 1, 1) := by decide +kernel
theorem dX4_holds_118 : decode cX4_holds 118 = .ok (.iaload, 1) := by decide +kernel
theorem dX4_holds_119 : decode cX4_holds 119 = .ok (.bipush 100, 2) := by decide +kernel
theorem dX4_holds_121 : decode cX4_holds 121 = .ok (.irem, 1) := by decide +kernel
theorem dX4_holds_122 : decode cX4_holds 122 = .ok (.if_icmp .ge 7, 3) := by decide +kernel
theorem dX4_holds_125 : decode cX4_holds 125 = .ok (.iconst 1, 1) := by decide +kernel
theorem dX4_holds_126 : decode cX4_holds 126 = .ok (.goto 4, 3) := by decide +kernel
theorem dX4_holds_129 : decode cX4_holds 129 = .ok (.iconst 0, 1) := by decide +kernel
theorem dX4_holds_130 : decode cX4_holds 130 = .ok (.ireturn, 1) := by decide +kernel
theorem dX4_isOn_0 : decode cX4_isOn 0 = .ok (.aload_n 0, 1) := by decide +kernel
theorem dX4_isOn_1 : decode cX4_isOn 1 = .ok (.getfield 13, 3) := by decide +kernel
theorem dX4_isOn_4 : decode cX4_isOn 4 = .ok (.iload_n 1, 1) := by decide +kernel
theorem dX4_isOn_5 : decode cX4_isOn 5 = .ok (.iaload, 1) := by decide +kernel
theorem dX4_isOn_6 : decode cX4_isOn 6 = .ok (.iload_n 2, 1) := by decide +kernel
theorem dX4_isOn_7 : decode cX4_isOn 7 = .ok (.if_icmp .ne 27, 3) := by decide +kernel
theorem dX4_isOn_10 : decode cX4_isOn 10 = .ok (.aload_n 0, 1) := by decide +kernel
theorem dX4_isOn_11 : decode cX4_isOn 11 = .ok (.getfield 16, 3) := by decide +kernel
theorem dX4_isOn_14 : decode cX4_isOn 14 = .ok (.iload_n 1, 1) := by decide +kernel
theorem dX4_isOn_15 : decode cX4_isOn 15 = .ok (.iaload, 1) := by decide +kernel
theorem dX4_isOn_16 : decode cX4_isOn 16 = .ok (.iconst 3, 1) := by decide +kernel
theorem dX4_isOn_17 : decode cX4_isOn 17 = .ok (.if_icmp .eq 13, 3) := by decide +kernel
theorem dX4_isOn_20 : decode cX4_isOn 20 = .ok (.aload_n 0, 1) := by decide +kernel
theorem dX4_isOn_21 : decode cX4_isOn 21 = .ok (.getfield 16, 3) := by decide +kernel
theorem dX4_isOn_24 : decode cX4_isOn 24 = .ok (.iload_n 1, 1) := by decide +kernel
theorem dX4_isOn_25 : decode cX4_isOn 25 = .ok (.iaload, 1) := by decide +kernel
theorem dX4_isOn_26 : decode cX4_isOn 26 = .ok (.iload_n 3, 1) := by decide +kernel
theorem dX4_isOn_27 : decode cX4_isOn 27 = .ok (.if_icmp .ne 7, 3) := by decide +kernel
theorem dX4_isOn_30 : decode cX4_isOn 30 = .ok (.iconst 1, 1) := by decide +kernel
theorem dX4_isOn_31 : decode cX4_isOn 31 = .ok (.goto 4, 3) := by decide +kernel
theorem dX4_isOn_34 : decode cX4_isOn 34 = .ok (.iconst 0, 1) := by decide +kernel
theorem dX4_isOn_35 : decode cX4_isOn 35 = .ok (.ireturn, 1) := by decide +kernel
theorem dX4_isClosed_0 : decode cX4_isClosed 0 = .ok (.iconst 0, 1) := by decide +kernel
theorem dX4_isClosed_1 : decode cX4_isClosed 1 = .ok (.istore 4, 2) := by decide +kernel
theorem dX4_isClosed_3 : decode cX4_isClosed 3 = .ok (.iconst 0, 1) := by decide +kernel
theorem dX4_isClosed_4 : decode cX4_isClosed 4 = .ok (.istore 5, 2) := by decide +kernel
theorem dX4_isClosed_6 : decode cX4_isClosed 6 = .ok (.iload 5, 2) := by decide +kernel
theorem dX4_isClosed_8 : decode cX4_isClosed 8 = .ok (.aload_n 0, 1) := by decide +kernel
theorem dX4_isClosed_9 : decode cX4_isClosed 9 = .ok (.getfield 62, 3) := by decide +kernel
theorem dX4_isClosed_12 : decode cX4_isClosed 12 = .ok (.if_icmp .ge 53, 3) := by decide +kernel
theorem dX4_isClosed_15 : decode cX4_isClosed 15 = .ok (.iload 4, 2) := by decide +kernel
theorem dX4_isClosed_17 : decode cX4_isClosed 17 = .ok (.ifCond .ne 35, 3) := by decide +kernel
theorem dX4_isClosed_20 : decode cX4_isClosed 20 = .ok (.aload_n 0, 1) := by decide +kernel
theorem dX4_isClosed_21 : decode cX4_isClosed 21 = .ok (.getfield 7, 3) := by decide +kernel
theorem dX4_isClosed_24 : decode cX4_isClosed 24 = .ok (.iload 5, 2) := by decide +kernel
theorem dX4_isClosed_26 : decode cX4_isClosed 26 = .ok (.iaload, 1) := by decide +kernel
theorem dX4_isClosed_27 : decode cX4_isClosed 27 = .ok (.iconst 5, 1) := by decide +kernel
theorem dX4_isClosed_28 : decode cX4_isClosed 28 = .ok (.if_icmp .eq 28, 3) := by decide +kernel
theorem dX4_isClosed_31 : decode cX4_isClosed 31 = .ok (.aload_n 0, 1) := by decide +kernel
theorem dX4_isClosed_32 : decode cX4_isClosed 32 = .ok (.iload 5, 2) := by decide +kernel
theorem dX4_isClosed_34 : decode cX4_isClosed 34 = .ok (.iload_n 1, 1) := by decide +kernel
theorem dX4_isClosed_35 : decode cX4_isClosed 35 = .ok (.iload_n 2, 1) := by decide +kernel
theorem dX4_isClosed_36 : decode cX4_isClosed 36 = .ok (.invokevirtual 65, 3) := by decide +kernel
theorem dX4_isClosed_39 : decode cX4_isClosed 39 = .ok (.ifCond .eq 17, 3) := by decide +kernel
theorem dX4_isClosed_42 : decode cX4_isClosed 42 = .ok (.aload_n 0, 1) := by decide +kernel
theorem dX4_isClosed_43 : decode cX4_isClosed 43 = .ok (.iload 5, 2) := by decide +kernel
theorem dX4_isClosed_45 : decode cX4_isClosed 45 = .ok (.iload_n 3, 1) := by decide +kernel
theorem dX4_isClosed_46 : decode cX4_isClosed 46 = .ok (.invokevirtual 68, 3) := by decide +kernel
theorem dX4_isClosed_49 : decode cX4_isClosed 49 = .ok (.ifCond .eq 7, 3) := by decide +kernel
theorem dX4_isClosed_52 : decode cX4_isClosed 52 = .ok (.iconst 1, 1) := by decide +kernel
theorem dX4_isClosed_53 : decode cX4_isClosed 53 = .ok (.goto 4, 3) := by decide +kernel
theorem dX4_isClosed_56 : decode cX4_isClosed 56 = .ok (.iconst 0, 1) := by decide +kernel
theorem dX4_isClosed_57 : decode cX4_isClosed 57 = .ok (.istore 4, 2) := by decide +kernel
theorem dX4_isClosed_59 : decode cX4_isClosed 59 = .ok (.iinc 5 1, 3) := by decide +kernel
theorem dX4_isClosed_62 : decode cX4_isClosed 62 = .ok (.goto (-56), 3) := by decide +kernel
theorem dX4_isClosed_65 : decode cX4_isClosed 65 = .ok (.iload 4, 2) := by decide +kernel
theorem dX4_isClosed_67 : decode cX4_isClosed 67 = .ok (.ireturn, 1) := by decide +kernel
theorem dX4_has_0 : decode cX4_has 0 = .ok (.iconst 0, 1) := by decide +kernel
theorem dX4_has_1 : decode cX4_has 1 = .ok (.istore_n 3, 1) := by decide +kernel
theorem dX4_has_2 : decode cX4_has 2 = .ok (.iconst 0, 1) := by decide +kernel
theorem dX4_has_3 : decode cX4_has 3 = .ok (.istore 4, 2) := by decide +kernel
theorem dX4_has_5 : decode cX4_has 5 = .ok (.iload 4, 2) := by decide +kernel
theorem dX4_has_7 : decode cX4_has 7 = .ok (.aload_n 0, 1) := by decide +kernel
theorem dX4_has_8 : decode cX4_has 8 = .ok (.getfield 41, 3) := by decide +kernel
theorem dX4_has_11 : decode cX4_has 11 = .ok (.iload_n 1, 1) := by decide +kernel
theorem dX4_has_12 : decode cX4_has 12 = .ok (.iaload, 1) := by decide +kernel
theorem dX4_has_13 : decode cX4_has 13 = .ok (.if_icmp .ge 35, 3) := by decide +kernel
theorem dX4_has_16 : decode cX4_has 16 = .ok (.iload_n 3, 1) := by decide +kernel
theorem dX4_has_17 : decode cX4_has 17 = .ok (.ifCond .ne 19, 3) := by decide +kernel
theorem dX4_has_20 : decode cX4_has 20 = .ok (.aload_n 0, 1) := by decide +kernel
theorem dX4_has_21 : decode cX4_has 21 = .ok (.getfield 44, 3) := by decide +kernel
theorem dX4_has_24 : decode cX4_has 24 = .ok (.bipush 12, 2) := by decide +kernel
theorem dX4_has_26 : decode cX4_has 26 = .ok (.iload_n 1, 1) := by decide +kernel
theorem dX4_has_27 : decode cX4_has 27 = .ok (.imul, 1) := by decide +kernel
theorem dX4_has_28 : decode cX4_has 28 = .ok (.iload 4, 2) := by decide +kernel
theorem dX4_has_30 : decode cX4_has 30 = .ok (.iadd, 1) := by decide +kernel
theorem dX4_has_31 : decode cX4_has 31 = .ok (.iaload, 1) := by decide +kernel
theorem dX4_has_32 : decode cX4_has 32 = .ok (.iload_n 2, 1) := by decide +kernel
theorem dX4_has_33 : decode cX4_has 33 = .ok (.if_icmp .ne 7, 3) := by decide +kernel
theorem dX4_has_36 : decode cX4_has 36 = .ok (.iconst 1, 1) := by decide +kernel
theorem dX4_has_37 : decode cX4_has 37 = .ok (.goto 4, 3) := by decide +kernel
theorem dX4_has_40 : decode cX4_has 40 = .ok (.iconst 0, 1) := by decide +kernel
theorem dX4_has_41 : decode cX4_has 41 = .ok (.istore_n 3, 1) := by decide +kernel
theorem dX4_has_42 : decode cX4_has 42 = .ok (.iinc 4 1, 3) := by decide +kernel
theorem dX4_has_45 : decode cX4_has 45 = .ok (.goto (-40), 3) := by decide +kernel
theorem dX4_has_48 : decode cX4_has 48 = .ok (.iload_n 3, 1) := by decide +kernel
theorem dX4_has_49 : decode cX4_has 49 = .ok (.ireturn, 1) := by decide +kernel
theorem dX4_look_0 : decode cX4_look 0 = .ok (.iconst 0, 1) := by decide +kernel
theorem dX4_look_1 : decode cX4_look 1 = .ok (.istore_n 1, 1) := by decide +kernel
theorem dX4_look_2 : decode cX4_look 2 = .ok (.iload_n 1, 1) := by decide +kernel
theorem dX4_look_3 : decode cX4_look 3 = .ok (.bipush 120, 2) := by decide +kernel
theorem dX4_look_5 : decode cX4_look 5 = .ok (.if_icmp .ge 152, 3) := by decide +kernel
theorem dX4_look_8 : decode cX4_look 8 = .ok (.aload_n 0, 1) := by decide +kernel
theorem dX4_look_9 : decode cX4_look 9 = .ok (.iload_n 1, 1) := by decide +kernel
theorem dX4_look_10 : decode cX4_look 10 = .ok (.iconst 2, 1) := by decide +kernel
theorem dX4_look_11 : decode cX4_look 11 = .ok (.idiv, 1) := by decide +kernel
theorem dX4_look_12 : decode cX4_look 12 = .ok (.iload_n 1, 1) := by decide +kernel
theorem dX4_look_13 : decode cX4_look 13 = .ok (.iconst 2, 1) := by decide +kernel
theorem dX4_look_14 : decode cX4_look 14 = .ok (.irem, 1) := by decide +kernel
theorem dX4_look_15 : decode cX4_look 15 = .ok (.iconst 1, 1) := by decide +kernel
theorem dX4_look_16 : decode cX4_look 16 = .ok (.iadd, 1) := by decide +kernel
theorem dX4_look_17 : decode cX4_look 17 = .ok (.aload_n 0, 1) := by decide +kernel
theorem dX4_look_18 : decode cX4_look 18 = .ok (.getfield 72, 3) := by decide +kernel
theorem dX4_look_21 : decode cX4_look 21 = .ok (.invokevirtual 75, 3) := by decide +kernel
theorem dX4_look_24 : decode cX4_look 24 = .ok (.istore_n 2, 1) := by decide +kernel
theorem dX4_look_25 : decode cX4_look 25 = .ok (.iconst 0, 1) := by decide +kernel
theorem dX4_look_26 : decode cX4_look 26 = .ok (.istore_n 3, 1) := by decide +kernel
theorem dX4_look_27 : decode cX4_look 27 = .ok (.iload_n 3, 1) := by decide +kernel
theorem dX4_look_28 : decode cX4_look 28 = .ok (.bipush 10, 2) := by decide +kernel
theorem dX4_look_30 : decode cX4_look 30 = .ok (.if_icmp .ge 114, 3) := by decide +kernel
theorem dX4_look_33 : decode cX4_look 33 = .ok (.iload_n 2, 1) := by decide +kernel
theorem dX4_look_34 : decode cX4_look 34 = .ok (.aload_n 0, 1) := by decide +kernel
theorem dX4_look_35 : decode cX4_look 35 = .ok (.getfield 47, 3) := by decide +kernel
theorem dX4_look_38 : decode cX4_look 38 = .ok (.iload_n 1, 1) := by decide +kernel
theorem dX4_look_39 : decode cX4_look 39 = .ok (.baload, 1) := by decide +kernel
theorem dX4_look_40 : decode cX4_look 40 = .ok (.if_icmp .eq 104, 3) := by decide +kernel
theorem dX4_look_43 : decode cX4_look 43 = .ok (.aload_n 0, 1) := by decide +kernel
theorem dX4_look_44 : decode cX4_look 44 = .ok (.iload_n 3, 1) := by decide +kernel
theorem dX4_look_45 : decode cX4_look 45 = .ok (.iload_n 1, 1) := by decide +kernel
theorem dX4_look_46 : decode cX4_look 46 = .ok (.invokevirtual 78, 3) := by decide +kernel
theorem dX4_look_49 : decode cX4_look 49 = .ok (.ifCond .eq 89, 3) := by decide +kernel
theorem dX4_look_52 : decode cX4_look 52 = .ok (.iconst 5, 1) := by decide +kernel
theorem dX4_look_53 : decode cX4_look 53 = .ok (.aload_n 0, 1) := by decide +kernel
theorem dX4_look_54 : decode cX4_look 54 = .ok (.getfield 81, 3) := by decide +kernel
theorem dX4_look_57 : decode cX4_look 57 = .ok (.bipush 100, 2) := by decide +kernel
theorem dX4_look_59 : decode cX4_look 59 = .ok (.irem, 1) := by decide +kernel
theorem dX4_look_60 : decode cX4_look 60 = .ok (.imul, 1) := by decide +kernel
theorem dX4_look_61 : decode cX4_look 61 = .ok (.istore 4, 2) := by decide +kernel
theorem dX4_look_63 : decode cX4_look 63 = .ok (.aload_n 0, 1) := by decide +kernel
theorem dX4_look_64 : decode cX4_look 64 = .ok (.getfield 50, 3) := by decide +kernel
theorem dX4_look_67 : decode cX4_look 67 = .ok (.iload 4, 2) := by decide +kernel
theorem dX4_look_69 : decode cX4_look 69 = .ok (.iload_n 3, 1) := by decide +kernel
theorem dX4_look_70 : decode cX4_look 70 = .ok (.iastore, 1) := by decide +kernel
theorem dX4_look_71 : decode cX4_look 71 = .ok (.aload_n 0, 1) := by decide +kernel
theorem dX4_look_72 : decode cX4_look 72 = .ok (.getfield 50, 3) := by decide +kernel
theorem dX4_look_75 : decode cX4_look 75 = .ok (.iload 4, 2) := by decide +kernel
theorem dX4_look_77 : decode cX4_look 77 = .ok (.iconst 1, 1) := by decide +kernel
theorem dX4_look_78 : decode cX4_look 78 = .ok (.iadd, 1) := by decide +kernel
theorem dX4_look_79 : decode cX4_look 79 = .ok (.iload_n 1, 1) := by decide +kernel
theorem dX4_look_80 : decode cX4_look 80 = .ok (.iconst 2, 1) := by decide +kernel
theorem dX4_look_81 : decode cX4_look 81 = .ok (.idiv, 1) := by decide +kernel
theorem dX4_look_82 : decode cX4_look 82 = .ok (.iastore, 1) := by decide +kernel
theorem dX4_look_83 : decode cX4_look 83 = .ok (.aload_n 0, 1) := by decide +kernel
theorem dX4_look_84 : decode cX4_look 84 = .ok (.getfield 50, 3) := by decide +kernel
theorem dX4_look_87 : decode cX4_look 87 = .ok (.iload 4, 2) := by decide +kernel
theorem dX4_look_89 : decode cX4_look 89 = .ok (.iconst 2, 1) := by decide +kernel
theorem dX4_look_90 : decode cX4_look 90 = .ok (.iadd, 1) := by decide +kernel
theorem dX4_look_91 : decode cX4_look 91 = .ok (.iload_n 1, 1) := by decide +kernel
theorem dX4_look_92 : decode cX4_look 92 = .ok (.iconst 2, 1) := by decide +kernel
theorem dX4_look_93 : decode cX4_look 93 = .ok (.irem, 1) := by decide +kernel
theorem dX4_look_94 : decode cX4_look 94 = .ok (.iconst 1, 1) := by decide +kernel
theorem dX4_look_95 : decode cX4_look 95 = .ok (.iadd, 1) := by decide +kernel
theorem dX4_look_96 : decode cX4_look 96 = .ok (.iastore, 1) := by decide +kernel
theorem dX4_look_97 : decode cX4_look 97 = .ok (.aload_n 0, 1) := by decide +kernel
theorem dX4_look_98 : decode cX4_look 98 = .ok (.getfield 50, 3) := by decide +kernel
theorem dX4_look_101 : decode cX4_look 101 = .ok (.iload 4, 2) := by decide +kernel
theorem dX4_look_103 : decode cX4_look 103 = .ok (.iconst 3, 1) := by decide +kernel
theorem dX4_look_104 : decode cX4_look 104 = .ok (.iadd, 1) := by decide +kernel
theorem dX4_look_105 : decode cX4_look 105 = .ok (.iload_n 2, 1) := by decide +kernel
theorem dX4_look_106 : decode cX4_look 106 = .ok (.ifCond .eq 7, 3) := by decide +kernel
theorem dX4_look_109 : decode cX4_look 109 = .ok (.iconst 1, 1) := by decide +kernel
theorem dX4_look_110 : decode cX4_look 110 = .ok (.goto 4, 3) := by decide +kernel
theorem dX4_look_113 : decode cX4_look 113 = .ok (.iconst 0, 1) := by decide +kernel
theorem dX4_look_114 : decode cX4_look 114 = .ok (.iastore, 1) := by decide +kernel
theorem dX4_look_115 : decode cX4_look 115 = .ok (.aload_n 0, 1) := by decide +kernel
theorem dX4_look_116 : decode cX4_look 116 = .ok (.getfield 50, 3) := by decide +kernel
theorem dX4_look_119 : decode cX4_look 119 = .ok (.iload 4, 2) := by decide +kernel
theorem dX4_look_121 : decode cX4_look 121 = .ok (.iconst 4, 1) := by decide +kernel
theorem dX4_look_122 : decode cX4_look 122 = .ok (.iadd, 1) := by decide +kernel
theorem dX4_look_123 : decode cX4_look 123 = .ok (.aload_n 0, 1) := by decide +kernel
theorem dX4_look_124 : decode cX4_look 124 = .ok (.getfield 72, 3) := by decide +kernel
theorem dX4_look_127 : decode cX4_look 127 = .ok (.iastore, 1) := by decide +kernel
theorem dX4_look_128 : decode cX4_look 128 = .ok (.aload_n 0, 1) := by decide +kernel
theorem dX4_look_129 : decode cX4_look 129 = .ok (.dup, 1) := by decide +kernel
theorem dX4_look_130 : decode cX4_look 130 = .ok (.getfield 81, 3) := by decide +kernel
theorem dX4_look_133 : decode cX4_look 133 = .ok (.iconst 1, 1) := by decide +kernel
theorem dX4_look_134 : decode cX4_look 134 = .ok (.iadd, 1) := by decide +kernel
theorem dX4_look_135 : decode cX4_look 135 = .ok (.putfield 81, 3) := by decide +kernel
theorem dX4_look_138 : decode cX4_look 138 = .ok (.iinc 3 1, 3) := by decide +kernel
theorem dX4_look_141 : decode cX4_look 141 = .ok (.goto (-114), 3) := by decide +kernel
theorem dX4_look_144 : decode cX4_look 144 = .ok (.aload_n 0, 1) := by decide +kernel
theorem dX4_look_145 : decode cX4_look 145 = .ok (.getfield 47, 3) := by decide +kernel
theorem dX4_look_148 : decode cX4_look 148 = .ok (.iload_n 1, 1) := by decide +kernel
theorem dX4_look_149 : decode cX4_look 149 = .ok (.iload_n 2, 1) := by decide +kernel
theorem dX4_look_150 : decode cX4_look 150 = .ok (.bastore, 1) := by decide +kernel
theorem dX4_look_151 : decode cX4_look 151 = .ok (.iinc 1 1, 3) := by decide +kernel
theorem dX4_look_154 : decode cX4_look 154 = .ok (.goto (-152), 3) := by decide +kernel
theorem dX4_look_157 : decode cX4_look 157 = .ok (.return_, 1) := by decide +kernel
theorem dX4_isNumber_0 : decode cX4_isNumber 0 = .ok (.iload_n 0, 1) := by decide +kernel
theorem dX4_isNumber_1 : decode cX4_isNumber 1 = .ok (.iconst 4, 1) := by decide +kernel
theorem dX4_isNumber_2 : decode cX4_isNumber 2 = .ok (.if_icmp .ne 37, 3) := by decide +kernel
theorem dX4_isNumber_5 : decode cX4_isNumber 5 = .ok (.iload_n 1, 1) := by decide +kernel
theorem dX4_isNumber_6 : decode cX4_isNumber 6 = .ok (.bipush 100, 2) := by decide +kernel
theorem dX4_isNumber_8 : decode cX4_isNumber 8 = .ok (.idiv, 1) := by decide +kernel
theorem dX4_isNumber_9 : decode cX4_isNumber 9 = .ok (.iconst 1, 1) := by decide +kernel
theorem dX4_isNumber_10 : decode cX4_isNumber 10 = .ok (.bipush 99, 2) := by decide +kernel
theorem dX4_isNumber_12 : decode cX4_isNumber 12 = .ok (.invokestatic 57, 3) := by decide +kernel
theorem dX4_isNumber_15 : decode cX4_isNumber 15 = .ok (.ifCond .eq 22, 3) := by decide +kernel
theorem dX4_isNumber_18 : decode cX4_isNumber 18 = .ok (.iload_n 1, 1) := by decide +kernel
theorem dX4_isNumber_19 : decode cX4_isNumber 19 = .ok (.ifCond .lt 18, 3) := by decide +kernel
theorem dX4_isNumber_22 : decode cX4_isNumber 22 = .ok (.iload_n 1, 1) := by decide +kernel
theorem dX4_isNumber_23 : decode cX4_isNumber 23 = .ok (.bipush 100, 2) := by decide +kernel
theorem dX4_isNumber_25 : decode cX4_isNumber 25 = .ok (.irem, 1) := by decide +kernel
theorem dX4_isNumber_26 : decode cX4_isNumber 26 = .ok (.iload_n 1, 1) := by decide +kernel
theorem dX4_isNumber_27 : decode cX4_isNumber 27 = .ok (.bipush 100, 2) := by decide +kernel
theorem dX4_isNumber_29 : decode cX4_isNumber 29 = .ok (.idiv, 1) := by decide +kernel
theorem dX4_isNumber_30 : decode cX4_isNumber 30 = .ok (.if_icmp .gt 7, 3) := by decide +kernel
theorem dX4_isNumber_33 : decode cX4_isNumber 33 = .ok (.iconst 1, 1) := by decide +kernel
theorem dX4_isNumber_34 : decode cX4_isNumber 34 = .ok (.goto 4, 3) := by decide +kernel
theorem dX4_isNumber_37 : decode cX4_isNumber 37 = .ok (.iconst 0, 1) := by decide +kernel
theorem dX4_isNumber_38 : decode cX4_isNumber 38 = .ok (.ireturn, 1) := by decide +kernel
theorem dX4_isNumber_39 : decode cX4_isNumber 39 = .ok (.iload_n 0, 1) := by decide +kernel
theorem dX4_isNumber_40 : decode cX4_isNumber 40 = .ok (.iconst 5, 1) := by decide +kernel
theorem dX4_isNumber_41 : decode cX4_isNumber 41 = .ok (.if_icmp .ne 13, 3) := by decide +kernel
theorem dX4_isNumber_44 : decode cX4_isNumber 44 = .ok (.iload_n 1, 1) := by decide +kernel
theorem dX4_isNumber_45 : decode cX4_isNumber 45 = .ok (.iconst 1, 1) := by decide +kernel
theorem dX4_isNumber_46 : decode cX4_isNumber 46 = .ok (.bipush 99, 2) := by decide +kernel
theorem dX4_isNumber_48 : decode cX4_isNumber 48 = .ok (.invokestatic 57, 3) := by decide +kernel
theorem dX4_isNumber_51 : decode cX4_isNumber 51 = .ok (.ifCond .eq 7, 3) := by decide +kernel
theorem dX4_isNumber_54 : decode cX4_isNumber 54 = .ok (.iconst 1, 1) := by decide +kernel
theorem dX4_isNumber_55 : decode cX4_isNumber 55 = .ok (.goto 4, 3) := by decide +kernel
theorem dX4_isNumber_58 : decode cX4_isNumber 58 = .ok (.iconst 0, 1) := by decide +kernel
theorem dX4_isNumber_59 : decode cX4_isNumber 59 = .ok (.ireturn, 1) := by decide +kernel
theorem dX4_close_0 : decode cX4_close 0 = .ok (.iload_n 1, 1) := by decide +kernel
theorem dX4_close_1 : decode cX4_close 1 = .ok (.iconst 0, 1) := by decide +kernel
theorem dX4_close_2 : decode cX4_close 2 = .ok (.iconst 5, 1) := by decide +kernel
theorem dX4_close_3 : decode cX4_close 3 = .ok (.invokestatic 57, 3) := by decide +kernel
theorem dX4_close_6 : decode cX4_close 6 = .ok (.ifCond .eq 26, 3) := by decide +kernel
theorem dX4_close_9 : decode cX4_close 9 = .ok (.iload_n 2, 1) := by decide +kernel
theorem dX4_close_10 : decode cX4_close 10 = .ok (.invokestatic 84, 3) := by decide +kernel
theorem dX4_close_13 : decode cX4_close 13 = .ok (.ifCond .eq 19, 3) := by decide +kernel
theorem dX4_close_16 : decode cX4_close 16 = .ok (.iload_n 1, 1) := by decide +kernel
theorem dX4_close_17 : decode cX4_close 17 = .ok (.iconst 2, 1) := by decide +kernel
theorem dX4_close_18 : decode cX4_close 18 = .ok (.if_icmp .ne 18, 3) := by decide +kernel
theorem dX4_close_21 : decode cX4_close 21 = .ok (.iload 6, 2) := by decide +kernel
theorem dX4_close_23 : decode cX4_close 23 = .ok (.iconst 0, 1) := by decide +kernel
theorem dX4_close_24 : decode cX4_close 24 = .ok (.bipush 19, 2) := by decide +kernel
theorem dX4_close_26 : decode cX4_close 26 = .ok (.invokestatic 57, 3) := by decide +kernel
theorem dX4_close_29 : decode cX4_close 29 = .ok (.ifCond .ne 7, 3) := by decide +kernel
theorem dX4_close_32 : decode cX4_close 32 = .ok (.iconst 1, 1) := by decide +kernel
theorem dX4_close_33 : decode cX4_close 33 = .ok (.goto 4, 3) := by decide +kernel
theorem dX4_close_36 : decode cX4_close 36 = .ok (.iconst 0, 1) := by decide +kernel
theorem dX4_close_37 : decode cX4_close 37 = .ok (.istore 7, 2) := by decide +kernel
theorem dX4_close_39 : decode cX4_close 39 = .ok (.iload_n 1, 1) := by decide +kernel
theorem dX4_close_40 : decode cX4_close 40 = .ok (.iconst 2, 1) := by decide +kernel
theorem dX4_close_41 : decode cX4_close 41 = .ok (.if_icmp .eq 12, 3) := by decide +kernel
theorem dX4_close_44 : decode cX4_close 44 = .ok (.iload_n 1, 1) := by decide +kernel
theorem dX4_close_45 : decode cX4_close 45 = .ok (.iconst 3, 1) := by decide +kernel
theorem dX4_close_46 : decode cX4_close 46 = .ok (.if_icmp .eq 7, 3) := by decide +kernel
theorem dX4_close_49 : decode cX4_close 49 = .ok (.iconst 1, 1) := by decide +kernel
theorem dX4_close_50 : decode cX4_close 50 = .ok (.goto 4, 3) := by decide +kernel
theorem dX4_close_53 : decode cX4_close 53 = .ok (.iconst 0, 1) := by decide +kernel
theorem dX4_close_54 : decode cX4_close 54 = .ok (.istore 8, 2) := by decide +kernel
theorem dX4_close_56 : decode cX4_close 56 = .ok (.iload_n 3, 1) := by decide +kernel
theorem dX4_close_57 : decode cX4_close 57 = .ok (.iconst 1, 1) := by decide +kernel
theorem dX4_close_58 : decode cX4_close 58 = .ok (.iconst 3, 1) := by decide +kernel
theorem dX4_close_59 : decode cX4_close 59 = .ok (.invokestatic 57, 3) := by decide +kernel
theorem dX4_close_62 : decode cX4_close 62 = .ok (.ifCond .eq 40, 3) := by decide +kernel
theorem dX4_close_65 : decode cX4_close 65 = .ok (.iload 4, 2) := by decide +kernel
theorem dX4_close_67 : decode cX4_close 67 = .ok (.invokestatic 88, 3) := by decide +kernel
theorem dX4_close_70 : decode cX4_close 70 = .ok (.ifCond .eq 32, 3) := by decide +kernel
theorem dX4_close_73 : decode cX4_close 73 = .ok (.iload 8, 2) := by decide +kernel
theorem dX4_close_75 : decode cX4_close 75 = .ok (.ifCond .eq 18, 3) := by decide +kernel
theorem dX4_close_78 : decode cX4_close 78 = .ok (.iload 5, 2) := by decide +kernel
theorem dX4_close_80 : decode cX4_close 80 = .ok (.invokestatic 88, 3) := by decide +kernel
theorem dX4_close_83 : decode cX4_close 83 = .ok (.ifCond .eq 19, 3) := by decide +kernel
theorem dX4_close_86 : decode cX4_close 86 = .ok (.iload 5, 2) := by decide +kernel
theorem dX4_close_88 : decode cX4_close 88 = .ok (.iload 4, 2) := by decide +kernel
theorem dX4_close_90 : decode cX4_close 90 = .ok (.if_icmp .le 12, 3) := by decide +kernel
theorem dX4_close_93 : decode cX4_close 93 = .ok (.iload_n 1, 1) := by decide +kernel
theorem dX4_close_94 : decode cX4_close 94 = .ok (.iload 6, 2) := by decide +kernel
theorem dX4_close_96 : decode cX4_close 96 = .ok (.invokestatic 91, 3) := by decide +kernel
theorem dX4_close_99 : decode cX4_close 99 = .ok (.ifCond .ne 7, 3) := by decide +kernel
theorem dX4_close_102 : decode cX4_close 102 = .ok (.iconst 1, 1) := by decide +kernel
theorem dX4_close_103 : decode cX4_close 103 = .ok (.goto 4, 3) := by decide +kernel
theorem dX4_close_106 : decode cX4_close 106 = .ok (.iconst 0, 1) := by decide +kernel
theorem dX4_close_107 : decode cX4_close 107 = .ok (.istore 9, 2) := by decide +kernel
theorem dX4_close_109 : decode cX4_close 109 = .ok (.aload_n 0, 1) := by decide +kernel
theorem dX4_close_110 : decode cX4_close 110 = .ok (.iload 7, 2) := by decide +kernel
theorem dX4_close_112 : decode cX4_close 112 = .ok (.iload 9, 2) := by decide +kernel
theorem dX4_close_114 : decode cX4_close 114 = .ok (.aload_n 0, 1) := by decide +kernel
theorem dX4_close_115 : decode cX4_close 115 = .ok (.getfield 62, 3) := by decide +kernel
theorem dX4_close_118 : decode cX4_close 118 = .ok (.bipush 100, 2) := by decide +kernel
theorem dX4_close_120 : decode cX4_close 120 = .ok (.if_icmp .ne 7, 3) := by decide +kernel
theorem dX4_close_123 : decode cX4_close 123 = .ok (.iconst 1, 1) := by decide +kernel
theorem dX4_close_124 : decode cX4_close 124 = .ok (.goto 4, 3) := by decide +kernel
theorem dX4_close_127 : decode cX4_close 127 = .ok (.iconst 0, 1) := by decide +kernel
theorem dX4_close_128 : decode cX4_close 128 = .ok (.invokevirtual 94, 3) := by decide +kernel
theorem dX4_close_131 : decode cX4_close 131 = .ok (.ifCond .eq 5, 3) := by decide +kernel
theorem dX4_close_134 : decode cX4_close 134 = .ok (.iconst 0, 1) := by decide +kernel
theorem dX4_close_135 : decode cX4_close 135 = .ok (.ireturn, 1) := by decide +kernel
theorem dX4_close_136 : decode cX4_close 136 = .ok (.aload_n 0, 1) := by decide +kernel
theorem dX4_close_137 : decode cX4_close 137 = .ok (.getfield 7, 3) := by decide +kernel
theorem dX4_close_140 : decode cX4_close 140 = .ok (.aload_n 0, 1) := by decide +kernel
theorem dX4_close_141 : decode cX4_close 141 = .ok (.getfield 62, 3) := by decide +kernel
theorem dX4_close_144 : decode cX4_close 144 = .ok (.iload_n 1, 1) := by decide +kernel
theorem dX4_close_145 : decode cX4_close 145 = .ok (.iastore, 1) := by decide +kernel
theorem dX4_close_146 : decode cX4_close 146 = .ok (.aload_n 0, 1) := by decide +kernel
theorem dX4_close_147 : decode cX4_close 147 = .ok (.getfield 13, 3) := by decide +kernel
theorem dX4_close_150 : decode cX4_close 150 = .ok (.aload_n 0, 1) := by decide +kernel
theorem dX4_close_151 : decode cX4_close 151 = .ok (.getfield 62, 3) := by decide +kernel
theorem dX4_close_154 : decode cX4_close 154 = .ok (.iload_n 2, 1) := by decide +kernel
theorem dX4_close_155 : decode cX4_close 155 = .ok (.iastore, 1) := by decide +kernel
theorem dX4_close_156 : decode cX4_close 156 = .ok (.aload_n 0, 1) := by decide +kernel
theorem dX4_close_157 : decode cX4_close 157 = .ok (.getfield 16, 3) := by decide +kernel
theorem dX4_close_160 : decode cX4_close 160 = .ok (.aload_n 0, 1) := by decide +kernel
theorem dX4_close_161 : decode cX4_close 161 = .ok (.getfield 62, 3) := by decide +kernel
theorem dX4_close_164 : decode cX4_close 164 = .ok (.iload_n 3, 1) := by decide +kernel
theorem dX4_close_165 : decode cX4_close 165 = .ok (.iastore, 1) := by decide +kernel
theorem dX4_close_166 : decode cX4_close 166 = .ok (.aload_n 0, 1) := by decide +kernel
theorem dX4_close_167 : decode cX4_close 167 = .ok (.getfield 19, 3) := by decide +kernel
theorem dX4_close_170 : decode cX4_close 170 = .ok (.aload_n 0, 1) := by decide +kernel
theorem dX4_close_171 : decode cX4_close 171 = .ok (.getfield 62, 3) := by decide +kernel
theorem dX4_close_174 : decode cX4_close 174 = .ok (.iload 4, 2) := by decide +kernel
theorem dX4_close_176 : decode cX4_close 176 = .ok (.iastore, 1) := by decide +kernel
theorem dX4_close_177 : decode cX4_close 177 = .ok (.aload_n 0, 1) := by decide +kernel
theorem dX4_close_178 : decode cX4_close 178 = .ok (.getfield 22, 3) := by decide +kernel
theorem dX4_close_181 : decode cX4_close 181 = .ok (.aload_n 0, 1) := by decide +kernel
theorem dX4_close_182 : decode cX4_close 182 = .ok (.getfield 62, 3) := by decide +kernel
theorem dX4_close_185 : decode cX4_close 185 = .ok (.iload 5, 2) := by decide +kernel
theorem dX4_close_187 : decode cX4_close 187 = .ok (.iastore, 1) := by decide +kernel
theorem dX4_close_188 : decode cX4_close 188 = .ok (.aload_n 0, 1) := by decide +kernel
theorem dX4_close_189 : decode cX4_close 189 = .ok (.getfield 25, 3) := by decide +kernel
theorem dX4_close_192 : decode cX4_close 192 = .ok (.aload_n 0, 1) := by decide +kernel
theorem dX4_close_193 : decode cX4_close 193 = .ok (.getfield 62, 3) := by decide +kernel
theorem dX4_close_196 : decode cX4_close 196 = .ok (.iload 6, 2) := by decide +kernel
theorem dX4_close_198 : decode cX4_close 198 = .ok (.iastore, 1) := by decide +kernel
theorem dX4_close_199 : decode cX4_close 199 = .ok (.aload_n 0, 1) := by decide +kernel
theorem dX4_close_200 : decode cX4_close 200 = .ok (.getfield 28, 3) := by decide +kernel
theorem dX4_close_203 : decode cX4_close 203 = .ok (.aload_n 0, 1) := by decide +kernel
theorem dX4_close_204 : decode cX4_close 204 = .ok (.getfield 62, 3) := by decide +kernel
theorem dX4_close_207 : decode cX4_close 207 = .ok (.iconst (-1), 1) := by decide +kernel
theorem dX4_close_208 : decode cX4_close 208 = .ok (.iastore, 1) := by decide +kernel
theorem dX4_close_209 : decode cX4_close 209 = .ok (.aload_n 0, 1) := by decide +kernel
theorem dX4_close_210 : decode cX4_close 210 = .ok (.getfield 31, 3) := by decide +kernel
theorem dX4_close_213 : decode cX4_close 213 = .ok (.aload_n 0, 1) := by decide +kernel
theorem dX4_close_214 : decode cX4_close 214 = .ok (.getfield 62, 3) := by decide +kernel
theorem dX4_close_217 : decode cX4_close 217 = .ok (.iconst (-1), 1) := by decide +kernel
theorem dX4_close_218 : decode cX4_close 218 = .ok (.iastore, 1) := by decide +kernel
theorem dX4_close_219 : decode cX4_close 219 = .ok (.aload_n 0, 1) := by decide +kernel
theorem dX4_close_220 : decode cX4_close 220 = .ok (.getfield 34, 3) := by decide +kernel
theorem dX4_close_223 : decode cX4_close 223 = .ok (.aload_n 0, 1) := by decide +kernel
theorem dX4_close_224 : decode cX4_close 224 = .ok (.getfield 62, 3) := by decide +kernel
theorem dX4_close_227 : decode cX4_close 227 = .ok (.iconst (-1), 1) := by decide +kernel
theorem dX4_close_228 : decode cX4_close 228 = .ok (.iastore, 1) := by decide +kernel
theorem dX4_close_229 : decode cX4_close 229 = .ok (.aload_n 0, 1) := by decide +kernel
theorem dX4_close_230 : decode cX4_close 230 = .ok (.dup, 1) := by decide +kernel
theorem dX4_close_231 : decode cX4_close 231 = .ok (.getfield 62, 3) := by decide +kernel
theorem dX4_close_234 : decode cX4_close 234 = .ok (.iconst 1, 1) := by decide +kernel
theorem dX4_close_235 : decode cX4_close 235 = .ok (.iadd, 1) := by decide +kernel
theorem dX4_close_236 : decode cX4_close 236 = .ok (.putfield 62, 3) := by decide +kernel
theorem dX4_close_239 : decode cX4_close 239 = .ok (.aload_n 0, 1) := by decide +kernel
theorem dX4_close_240 : decode cX4_close 240 = .ok (.invokevirtual 98, 3) := by decide +kernel
theorem dX4_close_243 : decode cX4_close 243 = .ok (.aload_n 0, 1) := by decide +kernel
theorem dX4_close_244 : decode cX4_close 244 = .ok (.getfield 62, 3) := by decide +kernel
theorem dX4_close_247 : decode cX4_close 247 = .ok (.iconst 1, 1) := by decide +kernel
theorem dX4_close_248 : decode cX4_close 248 = .ok (.isub, 1) := by decide +kernel
theorem dX4_close_249 : decode cX4_close 249 = .ok (.ireturn, 1) := by decide +kernel
theorem dX4_answer_0 : decode cX4_answer 0 = .ok (.aload_n 0, 1) := by decide +kernel
theorem dX4_answer_1 : decode cX4_answer 1 = .ok (.iload_n 1, 1) := by decide +kernel
theorem dX4_answer_2 : decode cX4_answer 2 = .ok (.invokevirtual 101, 3) := by decide +kernel
theorem dX4_answer_5 : decode cX4_answer 5 = .ok (.ifCond .ne 7, 3) := by decide +kernel
theorem dX4_answer_8 : decode cX4_answer 8 = .ok (.iconst 1, 1) := by decide +kernel
theorem dX4_answer_9 : decode cX4_answer 9 = .ok (.goto 4, 3) := by decide +kernel
theorem dX4_answer_12 : decode cX4_answer 12 = .ok (.iconst 0, 1) := by decide +kernel
theorem dX4_answer_13 : decode cX4_answer 13 = .ok (.istore_n 3, 1) := by decide +kernel
theorem dX4_answer_14 : decode cX4_answer 14 = .ok (.aload_n 0, 1) := by decide +kernel
theorem dX4_answer_15 : decode cX4_answer 15 = .ok (.iload_n 3, 1) := by decide +kernel
theorem dX4_answer_16 : decode cX4_answer 16 = .ok (.iload_n 3, 1) := by decide +kernel
theorem dX4_answer_17 : decode cX4_answer 17 = .ok (.ifCond .ne 27, 3) := by decide +kernel
theorem dX4_answer_20 : decode cX4_answer 20 = .ok (.aload_n 0, 1) := by decide +kernel
theorem dX4_answer_21 : decode cX4_answer 21 = .ok (.getfield 7, 3) := by decide +kernel
theorem dX4_answer_24 : decode cX4_answer 24 = .ok (.iload_n 1, 1) := by decide +kernel
theorem dX4_answer_25 : decode cX4_answer 25 = .ok (.iaload, 1) := by decide +kernel
theorem dX4_answer_26 : decode cX4_answer 26 = .ok (.iconst 1, 1) := by decide +kernel
theorem dX4_answer_27 : decode cX4_answer 27 = .ok (.if_icmp .ne 13, 3) := by decide +kernel
theorem dX4_answer_30 : decode cX4_answer 30 = .ok (.aload_n 0, 1) := by decide +kernel
theorem dX4_answer_31 : decode cX4_answer 31 = .ok (.getfield 28, 3) := by decide +kernel
theorem dX4_answer_34 : decode cX4_answer 34 = .ok (.iload_n 1, 1) := by decide +kernel
theorem dX4_answer_35 : decode cX4_answer 35 = .ok (.iaload, 1) := by decide +kernel
theorem dX4_answer_36 : decode cX4_answer 36 = .ok (.iconst (-1), 1) := by decide +kernel
theorem dX4_answer_37 : decode cX4_answer 37 = .ok (.if_icmp .eq 7, 3) := by decide +kernel
theorem dX4_answer_40 : decode cX4_answer 40 = .ok (.iconst 1, 1) := by decide +kernel
theorem dX4_answer_41 : decode cX4_answer 41 = .ok (.goto 4, 3) := by decide +kernel
theorem dX4_answer_44 : decode cX4_answer 44 = .ok (.iconst 0, 1) := by decide +kernel
theorem dX4_answer_45 : decode cX4_answer 45 = .ok (.iconst 0, 1) := by decide +kernel
theorem dX4_answer_46 : decode cX4_answer 46 = .ok (.invokevirtual 94, 3) := by decide +kernel
theorem dX4_answer_49 : decode cX4_answer 49 = .ok (.ifCond .eq 4, 3) := by decide +kernel
theorem dX4_answer_52 : decode cX4_answer 52 = .ok (.return_, 1) := by decide +kernel
theorem dX4_answer_53 : decode cX4_answer 53 = .ok (.aload_n 0, 1) := by decide +kernel
theorem dX4_answer_54 : decode cX4_answer 54 = .ok (.getfield 28, 3) := by decide +kernel
theorem dX4_answer_57 : decode cX4_answer 57 = .ok (.iload_n 1, 1) := by decide +kernel
theorem dX4_answer_58 : decode cX4_answer 58 = .ok (.iload_n 2, 1) := by decide +kernel
theorem dX4_answer_59 : decode cX4_answer 59 = .ok (.ifCond .eq 7, 3) := by decide +kernel
theorem dX4_answer_62 : decode cX4_answer 62 = .ok (.iconst 1, 1) := by decide +kernel
theorem dX4_answer_63 : decode cX4_answer 63 = .ok (.goto 4, 3) := by decide +kernel
theorem dX4_answer_66 : decode cX4_answer 66 = .ok (.iconst 0, 1) := by decide +kernel
theorem dX4_answer_67 : decode cX4_answer 67 = .ok (.iastore, 1) := by decide +kernel
theorem dX4_answer_68 : decode cX4_answer 68 = .ok (.aload_n 0, 1) := by decide +kernel
theorem dX4_answer_69 : decode cX4_answer 69 = .ok (.invokevirtual 98, 3) := by decide +kernel
theorem dX4_answer_72 : decode cX4_answer 72 = .ok (.return_, 1) := by decide +kernel
end
section
theorem dX4_lift_0 : decode cX4_lift 0 = .ok (.aload_n 0, 1) := by decide +kernel
theorem dX4_lift_1 : decode cX4_lift 1 = .ok (.iload_n 1, 1) := by decide +kernel
theorem dX4_lift_2 : decode cX4_lift 2 = .ok (.invokevirtual 101, 3) := by decide +kernel
theorem dX4_lift_5 : decode cX4_lift 5 = .ok (.ifCond .ne 7, 3) := by decide +kernel
theorem dX4_lift_8 : decode cX4_lift 8 = .ok (.iconst 1, 1) := by decide +kernel
theorem dX4_lift_9 : decode cX4_lift 9 = .ok (.goto 4, 3) := by decide +kernel
theorem dX4_lift_12 : decode cX4_lift 12 = .ok (.iconst 0, 1) := by decide +kernel
theorem dX4_lift_13 : decode cX4_lift 13 = .ok (.istore_n 3, 1) := by decide +kernel
theorem dX4_lift_14 : decode cX4_lift 14 = .ok (.iload_n 3, 1) := by decide +kernel
theorem dX4_lift_15 : decode cX4_lift 15 = .ok (.ifCond .ne 60, 3) := by decide +kernel
theorem dX4_lift_18 : decode cX4_lift 18 = .ok (.aload_n 0, 1) := by decide +kernel
theorem dX4_lift_19 : decode cX4_lift 19 = .ok (.getfield 31, 3) := by decide +kernel
theorem dX4_lift_22 : decode cX4_lift 22 = .ok (.iload_n 1, 1) := by decide +kernel
theorem dX4_lift_23 : decode cX4_lift 23 = .ok (.iaload, 1) := by decide +kernel
theorem dX4_lift_24 : decode cX4_lift 24 = .ok (.iconst (-1), 1) := by decide +kernel
theorem dX4_lift_25 : decode cX4_lift 25 = .ok (.if_icmp .ne 46, 3) := by decide +kernel
theorem dX4_lift_28 : decode cX4_lift 28 = .ok (.aload_n 0, 1) := by decide +kernel
theorem dX4_lift_29 : decode cX4_lift 29 = .ok (.getfield 7, 3) := by decide +kernel
theorem dX4_lift_32 : decode cX4_lift 32 = .ok (.iload_n 1, 1) := by decide +kernel
theorem dX4_lift_33 : decode cX4_lift 33 = .ok (.iaload, 1) := by decide +kernel
theorem dX4_lift_34 : decode cX4_lift 34 = .ok (.iconst 4, 1) := by decide +kernel
theorem dX4_lift_35 : decode cX4_lift 35 = .ok (.if_icmp .eq 36, 3) := by decide +kernel
theorem dX4_lift_38 : decode cX4_lift 38 = .ok (.aload_n 0, 1) := by decide +kernel
theorem dX4_lift_39 : decode cX4_lift 39 = .ok (.getfield 7, 3) := by decide +kernel
theorem dX4_lift_42 : decode cX4_lift 42 = .ok (.iload_n 1, 1) := by decide +kernel
theorem dX4_lift_43 : decode cX4_lift 43 = .ok (.iaload, 1) := by decide +kernel
theorem dX4_lift_44 : decode cX4_lift 44 = .ok (.iconst 2, 1) := by decide +kernel
theorem dX4_lift_45 : decode cX4_lift 45 = .ok (.if_icmp .eq 30, 3) := by decide +kernel
theorem dX4_lift_48 : decode cX4_lift 48 = .ok (.aload_n 0, 1) := by decide +kernel
theorem dX4_lift_49 : decode cX4_lift 49 = .ok (.getfield 7, 3) := by decide +kernel
theorem dX4_lift_52 : decode cX4_lift 52 = .ok (.iload_n 1, 1) := by decide +kernel
theorem dX4_lift_53 : decode cX4_lift 53 = .ok (.iaload, 1) := by decide +kernel
theorem dX4_lift_54 : decode cX4_lift 54 = .ok (.iconst 3, 1) := by decide +kernel
theorem dX4_lift_55 : decode cX4_lift 55 = .ok (.if_icmp .eq 20, 3) := by decide +kernel
theorem dX4_lift_58 : decode cX4_lift 58 = .ok (.aload_n 0, 1) := by decide +kernel
theorem dX4_lift_59 : decode cX4_lift 59 = .ok (.getfield 22, 3) := by decide +kernel
theorem dX4_lift_62 : decode cX4_lift 62 = .ok (.iload_n 1, 1) := by decide +kernel
theorem dX4_lift_63 : decode cX4_lift 63 = .ok (.iaload, 1) := by decide +kernel
theorem dX4_lift_64 : decode cX4_lift 64 = .ok (.aload_n 0, 1) := by decide +kernel
theorem dX4_lift_65 : decode cX4_lift 65 = .ok (.getfield 72, 3) := by decide +kernel
theorem dX4_lift_68 : decode cX4_lift 68 = .ok (.if_icmp .gt 7, 3) := by decide +kernel
theorem dX4_lift_71 : decode cX4_lift 71 = .ok (.iconst 1, 1) := by decide +kernel
theorem dX4_lift_72 : decode cX4_lift 72 = .ok (.goto 4, 3) := by decide +kernel
theorem dX4_lift_75 : decode cX4_lift 75 = .ok (.iconst 0, 1) := by decide +kernel
theorem dX4_lift_76 : decode cX4_lift 76 = .ok (.istore 4, 2) := by decide +kernel
theorem dX4_lift_78 : decode cX4_lift 78 = .ok (.aload_n 0, 1) := by decide +kernel
theorem dX4_lift_79 : decode cX4_lift 79 = .ok (.iload_n 3, 1) := by decide +kernel
theorem dX4_lift_80 : decode cX4_lift 80 = .ok (.iload_n 2, 1) := by decide +kernel
theorem dX4_lift_81 : decode cX4_lift 81 = .ok (.iconst 0, 1) := by decide +kernel
theorem dX4_lift_82 : decode cX4_lift 82 = .ok (.sipush 999, 3) := by decide +kernel
theorem dX4_lift_85 : decode cX4_lift 85 = .ok (.invokestatic 57, 3) := by decide +kernel
theorem dX4_lift_88 : decode cX4_lift 88 = .ok (.ifCond .ne 7, 3) := by decide +kernel
theorem dX4_lift_91 : decode cX4_lift 91 = .ok (.iconst 1, 1) := by decide +kernel
theorem dX4_lift_92 : decode cX4_lift 92 = .ok (.goto 4, 3) := by decide +kernel
theorem dX4_lift_95 : decode cX4_lift 95 = .ok (.iconst 0, 1) := by decide +kernel
theorem dX4_lift_96 : decode cX4_lift 96 = .ok (.iload 4, 2) := by decide +kernel
theorem dX4_lift_98 : decode cX4_lift 98 = .ok (.invokevirtual 94, 3) := by decide +kernel
theorem dX4_lift_101 : decode cX4_lift 101 = .ok (.ifCond .eq 5, 3) := by decide +kernel
theorem dX4_lift_104 : decode cX4_lift 104 = .ok (.iconst 0, 1) := by decide +kernel
theorem dX4_lift_105 : decode cX4_lift 105 = .ok (.ireturn, 1) := by decide +kernel
theorem dX4_lift_106 : decode cX4_lift 106 = .ok (.aload_n 0, 1) := by decide +kernel
theorem dX4_lift_107 : decode cX4_lift 107 = .ok (.getfield 7, 3) := by decide +kernel
theorem dX4_lift_110 : decode cX4_lift 110 = .ok (.iload_n 1, 1) := by decide +kernel
theorem dX4_lift_111 : decode cX4_lift 111 = .ok (.iaload, 1) := by decide +kernel
theorem dX4_lift_112 : decode cX4_lift 112 = .ok (.iconst 3, 1) := by decide +kernel
theorem dX4_lift_113 : decode cX4_lift 113 = .ok (.if_icmp .ne 32, 3) := by decide +kernel
theorem dX4_lift_116 : decode cX4_lift 116 = .ok (.aload_n 0, 1) := by decide +kernel
theorem dX4_lift_117 : decode cX4_lift 117 = .ok (.getfield 34, 3) := by decide +kernel
theorem dX4_lift_120 : decode cX4_lift 120 = .ok (.iload_n 1, 1) := by decide +kernel
theorem dX4_lift_121 : decode cX4_lift 121 = .ok (.iaload, 1) := by decide +kernel
theorem dX4_lift_122 : decode cX4_lift 122 = .ok (.iconst (-1), 1) := by decide +kernel
theorem dX4_lift_123 : decode cX4_lift 123 = .ok (.if_icmp .eq 13, 3) := by decide +kernel
theorem dX4_lift_126 : decode cX4_lift 126 = .ok (.aload_n 0, 1) := by decide +kernel
theorem dX4_lift_127 : decode cX4_lift 127 = .ok (.getfield 34, 3) := by decide +kernel
theorem dX4_lift_130 : decode cX4_lift 130 = .ok (.iload_n 1, 1) := by decide +kernel
theorem dX4_lift_131 : decode cX4_lift 131 = .ok (.iaload, 1) := by decide +kernel
theorem dX4_lift_132 : decode cX4_lift 132 = .ok (.iload_n 2, 1) := by decide +kernel
theorem dX4_lift_133 : decode cX4_lift 133 = .ok (.if_icmp .ne 12, 3) := by decide +kernel
theorem dX4_lift_136 : decode cX4_lift 136 = .ok (.aload_n 0, 1) := by decide +kernel
theorem dX4_lift_137 : decode cX4_lift 137 = .ok (.getfield 34, 3) := by decide +kernel
theorem dX4_lift_140 : decode cX4_lift 140 = .ok (.iload_n 1, 1) := by decide +kernel
theorem dX4_lift_141 : decode cX4_lift 141 = .ok (.iload_n 2, 1) := by decide +kernel
theorem dX4_lift_142 : decode cX4_lift 142 = .ok (.iastore, 1) := by decide +kernel
theorem dX4_lift_143 : decode cX4_lift 143 = .ok (.iconst 0, 1) := by decide +kernel
theorem dX4_lift_144 : decode cX4_lift 144 = .ok (.ireturn, 1) := by decide +kernel
theorem dX4_lift_145 : decode cX4_lift 145 = .ok (.aload_n 0, 1) := by decide +kernel
theorem dX4_lift_146 : decode cX4_lift 146 = .ok (.getfield 31, 3) := by decide +kernel
theorem dX4_lift_149 : decode cX4_lift 149 = .ok (.iload_n 1, 1) := by decide +kernel
theorem dX4_lift_150 : decode cX4_lift 150 = .ok (.aload_n 0, 1) := by decide +kernel
theorem dX4_lift_151 : decode cX4_lift 151 = .ok (.getfield 72, 3) := by decide +kernel
theorem dX4_lift_154 : decode cX4_lift 154 = .ok (.iastore, 1) := by decide +kernel
theorem dX4_lift_155 : decode cX4_lift 155 = .ok (.aload_n 0, 1) := by decide +kernel
theorem dX4_lift_156 : decode cX4_lift 156 = .ok (.invokevirtual 98, 3) := by decide +kernel
theorem dX4_lift_159 : decode cX4_lift 159 = .ok (.iconst 1, 1) := by decide +kernel
theorem dX4_lift_160 : decode cX4_lift 160 = .ok (.ireturn, 1) := by decide +kernel
theorem dX4_incident_0 : decode cX4_incident 0 = .ok (.aload_n 0, 1) := by decide +kernel
theorem dX4_incident_1 : decode cX4_incident 1 = .ok (.iload_n 1, 1) := by decide +kernel
theorem dX4_incident_2 : decode cX4_incident 2 = .ok (.iconst 0, 1) := by decide +kernel
theorem dX4_incident_3 : decode cX4_incident 3 = .ok (.bipush 19, 2) := by decide +kernel
theorem dX4_incident_5 : decode cX4_incident 5 = .ok (.invokestatic 57, 3) := by decide +kernel
theorem dX4_incident_8 : decode cX4_incident 8 = .ok (.ifCond .ne 7, 3) := by decide +kernel
theorem dX4_incident_11 : decode cX4_incident 11 = .ok (.iconst 1, 1) := by decide +kernel
theorem dX4_incident_12 : decode cX4_incident 12 = .ok (.goto 4, 3) := by decide +kernel
theorem dX4_incident_15 : decode cX4_incident 15 = .ok (.iconst 0, 1) := by decide +kernel
theorem dX4_incident_16 : decode cX4_incident 16 = .ok (.iconst 0, 1) := by decide +kernel
theorem dX4_incident_17 : decode cX4_incident 17 = .ok (.iconst 0, 1) := by decide +kernel
theorem dX4_incident_18 : decode cX4_incident 18 = .ok (.invokevirtual 94, 3) := by decide +kernel
theorem dX4_incident_21 : decode cX4_incident 21 = .ok (.ifCond .eq 4, 3) := by decide +kernel
theorem dX4_incident_24 : decode cX4_incident 24 = .ok (.return_, 1) := by decide +kernel
theorem dX4_incident_25 : decode cX4_incident 25 = .ok (.aload_n 0, 1) := by decide +kernel
theorem dX4_incident_26 : decode cX4_incident 26 = .ok (.getfield 37, 3) := by decide +kernel
theorem dX4_incident_29 : decode cX4_incident 29 = .ok (.iload_n 1, 1) := by decide +kernel
theorem dX4_incident_30 : decode cX4_incident 30 = .ok (.iload_n 2, 1) := by decide +kernel
theorem dX4_incident_31 : decode cX4_incident 31 = .ok (.bastore, 1) := by decide +kernel
theorem dX4_incident_32 : decode cX4_incident 32 = .ok (.aload_n 0, 1) := by decide +kernel
theorem dX4_incident_33 : decode cX4_incident 33 = .ok (.invokevirtual 98, 3) := by decide +kernel
theorem dX4_incident_36 : decode cX4_incident 36 = .ok (.return_, 1) := by decide +kernel
theorem dX4_step_0 : decode cX4_step 0 = .ok (.iload_n 1, 1) := by decide +kernel
theorem dX4_step_1 : decode cX4_step 1 = .ok (.iconst 0, 1) := by decide +kernel
theorem dX4_step_2 : decode cX4_step 2 = .ok (.bipush 9, 2) := by decide +kernel
theorem dX4_step_4 : decode cX4_step 4 = .ok (.invokestatic 57, 3) := by decide +kernel
theorem dX4_step_7 : decode cX4_step 7 = .ok (.ifCond .eq 15, 3) := by decide +kernel
theorem dX4_step_10 : decode cX4_step 10 = .ok (.iload_n 2, 1) := by decide +kernel
theorem dX4_step_11 : decode cX4_step 11 = .ok (.iconst (-1), 1) := by decide +kernel
theorem dX4_step_12 : decode cX4_step 12 = .ok (.if_icmp .eq 14, 3) := by decide +kernel
theorem dX4_step_15 : decode cX4_step 15 = .ok (.iload_n 2, 1) := by decide +kernel
theorem dX4_step_16 : decode cX4_step 16 = .ok (.invokestatic 84, 3) := by decide +kernel
theorem dX4_step_19 : decode cX4_step 19 = .ok (.ifCond .ne 7, 3) := by decide +kernel
theorem dX4_step_22 : decode cX4_step 22 = .ok (.iconst 1, 1) := by decide +kernel
theorem dX4_step_23 : decode cX4_step 23 = .ok (.goto 4, 3) := by decide +kernel
theorem dX4_step_26 : decode cX4_step 26 = .ok (.iconst 0, 1) := by decide +kernel
theorem dX4_step_27 : decode cX4_step 27 = .ok (.istore 4, 2) := by decide +kernel
theorem dX4_step_29 : decode cX4_step 29 = .ok (.iload_n 2, 1) := by decide +kernel
theorem dX4_step_30 : decode cX4_step 30 = .ok (.iconst (-1), 1) := by decide +kernel
theorem dX4_step_31 : decode cX4_step 31 = .ok (.if_icmp .eq 14, 3) := by decide +kernel
theorem dX4_step_34 : decode cX4_step 34 = .ok (.iload_n 3, 1) := by decide +kernel
theorem dX4_step_35 : decode cX4_step 35 = .ok (.invokestatic 104, 3) := by decide +kernel
theorem dX4_step_38 : decode cX4_step 38 = .ok (.ifCond .ne 7, 3) := by decide +kernel
theorem dX4_step_41 : decode cX4_step 41 = .ok (.iconst 1, 1) := by decide +kernel
theorem dX4_step_42 : decode cX4_step 42 = .ok (.goto 4, 3) := by decide +kernel
theorem dX4_step_45 : decode cX4_step 45 = .ok (.iconst 0, 1) := by decide +kernel
theorem dX4_step_46 : decode cX4_step 46 = .ok (.istore 5, 2) := by decide +kernel
theorem dX4_step_48 : decode cX4_step 48 = .ok (.aload_n 0, 1) := by decide +kernel
theorem dX4_step_49 : decode cX4_step 49 = .ok (.iload 4, 2) := by decide +kernel
theorem dX4_step_51 : decode cX4_step 51 = .ok (.iload 5, 2) := by decide +kernel
theorem dX4_step_53 : decode cX4_step 53 = .ok (.iload 4, 2) := by decide +kernel
theorem dX4_step_55 : decode cX4_step 55 = .ok (.ifCond .ne 23, 3) := by decide +kernel
theorem dX4_step_58 : decode cX4_step 58 = .ok (.iload_n 2, 1) := by decide +kernel
theorem dX4_step_59 : decode cX4_step 59 = .ok (.iconst (-1), 1) := by decide +kernel
theorem dX4_step_60 : decode cX4_step 60 = .ok (.if_icmp .eq 18, 3) := by decide +kernel
theorem dX4_step_63 : decode cX4_step 63 = .ok (.aload_n 0, 1) := by decide +kernel
theorem dX4_step_64 : decode cX4_step 64 = .ok (.getfield 41, 3) := by decide +kernel
theorem dX4_step_67 : decode cX4_step 67 = .ok (.iload_n 1, 1) := by decide +kernel
theorem dX4_step_68 : decode cX4_step 68 = .ok (.iaload, 1) := by decide +kernel
theorem dX4_step_69 : decode cX4_step 69 = .ok (.bipush 12, 2) := by decide +kernel
theorem dX4_step_71 : decode cX4_step 71 = .ok (.if_icmp .ne 7, 3) := by decide +kernel
theorem dX4_step_74 : decode cX4_step 74 = .ok (.iconst 1, 1) := by decide +kernel
theorem dX4_step_75 : decode cX4_step 75 = .ok (.goto 4, 3) := by decide +kernel
theorem dX4_step_78 : decode cX4_step 78 = .ok (.iconst 0, 1) := by decide +kernel
theorem dX4_step_79 : decode cX4_step 79 = .ok (.invokevirtual 94, 3) := by decide +kernel
theorem dX4_step_82 : decode cX4_step 82 = .ok (.ifCond .eq 5, 3) := by decide +kernel
theorem dX4_step_85 : decode cX4_step 85 = .ok (.iconst 0, 1) := by decide +kernel
theorem dX4_step_86 : decode cX4_step 86 = .ok (.ireturn, 1) := by decide +kernel
theorem dX4_step_87 : decode cX4_step 87 = .ok (.iload_n 2, 1) := by decide +kernel
theorem dX4_step_88 : decode cX4_step 88 = .ok (.iconst (-1), 1) := by decide +kernel
theorem dX4_step_89 : decode cX4_step 89 = .ok (.if_icmp .ne 12, 3) := by decide +kernel
theorem dX4_step_92 : decode cX4_step 92 = .ok (.aload_n 0, 1) := by decide +kernel
theorem dX4_step_93 : decode cX4_step 93 = .ok (.getfield 41, 3) := by decide +kernel
theorem dX4_step_96 : decode cX4_step 96 = .ok (.iload_n 1, 1) := by decide +kernel
theorem dX4_step_97 : decode cX4_step 97 = .ok (.iconst 0, 1) := by decide +kernel
theorem dX4_step_98 : decode cX4_step 98 = .ok (.iastore, 1) := by decide +kernel
theorem dX4_step_99 : decode cX4_step 99 = .ok (.iconst 0, 1) := by decide +kernel
theorem dX4_step_100 : decode cX4_step 100 = .ok (.ireturn, 1) := by decide +kernel
theorem dX4_step_101 : decode cX4_step 101 = .ok (.aload_n 0, 1) := by decide +kernel
theorem dX4_step_102 : decode cX4_step 102 = .ok (.getfield 44, 3) := by decide +kernel
theorem dX4_step_105 : decode cX4_step 105 = .ok (.bipush 12, 2) := by decide +kernel
theorem dX4_step_107 : decode cX4_step 107 = .ok (.iload_n 1, 1) := by decide +kernel
theorem dX4_step_108 : decode cX4_step 108 = .ok (.imul, 1) := by decide +kernel
theorem dX4_step_109 : decode cX4_step 109 = .ok (.aload_n 0, 1) := by decide +kernel
theorem dX4_step_110 : decode cX4_step 110 = .ok (.getfield 41, 3) := by decide +kernel
theorem dX4_step_113 : decode cX4_step 113 = .ok (.iload_n 1, 1) := by decide +kernel
theorem dX4_step_114 : decode cX4_step 114 = .ok (.iaload, 1) := by decide +kernel
theorem dX4_step_115 : decode cX4_step 115 = .ok (.iadd, 1) := by decide +kernel
theorem dX4_step_116 : decode cX4_step 116 = .ok (.iconst 2, 1) := by decide +kernel
theorem dX4_step_117 : decode cX4_step 117 = .ok (.iload_n 2, 1) := by decide +kernel
theorem dX4_step_118 : decode cX4_step 118 = .ok (.imul, 1) := by decide +kernel
theorem dX4_step_119 : decode cX4_step 119 = .ok (.iload_n 3, 1) := by decide +kernel
theorem dX4_step_120 : decode cX4_step 120 = .ok (.iadd, 1) := by decide +kernel
theorem dX4_step_121 : decode cX4_step 121 = .ok (.iconst 1, 1) := by decide +kernel
theorem dX4_step_122 : decode cX4_step 122 = .ok (.isub, 1) := by decide +kernel
theorem dX4_step_123 : decode cX4_step 123 = .ok (.iastore, 1) := by decide +kernel
theorem dX4_step_124 : decode cX4_step 124 = .ok (.aload_n 0, 1) := by decide +kernel
theorem dX4_step_125 : decode cX4_step 125 = .ok (.getfield 41, 3) := by decide +kernel
theorem dX4_step_128 : decode cX4_step 128 = .ok (.iload_n 1, 1) := by decide +kernel
theorem dX4_step_129 : decode cX4_step 129 = .ok (.dup2, 1) := by decide +kernel
theorem dX4_step_130 : decode cX4_step 130 = .ok (.iaload, 1) := by decide +kernel
theorem dX4_step_131 : decode cX4_step 131 = .ok (.iconst 1, 1) := by decide +kernel
theorem dX4_step_132 : decode cX4_step 132 = .ok (.iadd, 1) := by decide +kernel
theorem dX4_step_133 : decode cX4_step 133 = .ok (.iastore, 1) := by decide +kernel
theorem dX4_step_134 : decode cX4_step 134 = .ok (.aload_n 0, 1) := by decide +kernel
theorem dX4_step_135 : decode cX4_step 135 = .ok (.getfield 41, 3) := by decide +kernel
theorem dX4_step_138 : decode cX4_step 138 = .ok (.iload_n 1, 1) := by decide +kernel
theorem dX4_step_139 : decode cX4_step 139 = .ok (.iaload, 1) := by decide +kernel
theorem dX4_step_140 : decode cX4_step 140 = .ok (.ireturn, 1) := by decide +kernel
theorem dX4_tick_0 : decode cX4_tick 0 = .ok (.aload_n 0, 1) := by decide +kernel
theorem dX4_tick_1 : decode cX4_tick 1 = .ok (.iload_n 1, 1) := by decide +kernel
theorem dX4_tick_2 : decode cX4_tick 2 = .ok (.iconst 1, 1) := by decide +kernel
theorem dX4_tick_3 : decode cX4_tick 3 = .ok (.sipush 2000, 3) := by decide +kernel
theorem dX4_tick_6 : decode cX4_tick 6 = .ok (.invokestatic 57, 3) := by decide +kernel
theorem dX4_tick_9 : decode cX4_tick 9 = .ok (.ifCond .eq 14, 3) := by decide +kernel
theorem dX4_tick_12 : decode cX4_tick 12 = .ok (.aload_n 0, 1) := by decide +kernel
theorem dX4_tick_13 : decode cX4_tick 13 = .ok (.getfield 72, 3) := by decide +kernel
theorem dX4_tick_16 : decode cX4_tick 16 = .ok (.iload_n 1, 1) := by decide +kernel
theorem dX4_tick_17 : decode cX4_tick 17 = .ok (.iadd, 1) := by decide +kernel
theorem dX4_tick_18 : decode cX4_tick 18 = .ok (.ldc 61, 2) := by decide +kernel
theorem dX4_tick_20 : decode cX4_tick 20 = .ok (.if_icmp .le 7, 3) := by decide +kernel
theorem dX4_tick_23 : decode cX4_tick 23 = .ok (.iconst 1, 1) := by decide +kernel
theorem dX4_tick_24 : decode cX4_tick 24 = .ok (.goto 4, 3) := by decide +kernel
theorem dX4_tick_27 : decode cX4_tick 27 = .ok (.iconst 0, 1) := by decide +kernel
theorem dX4_tick_28 : decode cX4_tick 28 = .ok (.iconst 0, 1) := by decide +kernel
theorem dX4_tick_29 : decode cX4_tick 29 = .ok (.iconst 0, 1) := by decide +kernel
theorem dX4_tick_30 : decode cX4_tick 30 = .ok (.invokevirtual 94, 3) := by decide +kernel
theorem dX4_tick_33 : decode cX4_tick 33 = .ok (.ifCond .eq 5, 3) := by decide +kernel
theorem dX4_tick_36 : decode cX4_tick 36 = .ok (.iconst 0, 1) := by decide +kernel
theorem dX4_tick_37 : decode cX4_tick 37 = .ok (.ireturn, 1) := by decide +kernel
theorem dX4_tick_38 : decode cX4_tick 38 = .ok (.aload_n 0, 1) := by decide +kernel
theorem dX4_tick_39 : decode cX4_tick 39 = .ok (.getfield 81, 3) := by decide +kernel
theorem dX4_tick_42 : decode cX4_tick 42 = .ok (.istore_n 2, 1) := by decide +kernel
theorem dX4_tick_43 : decode cX4_tick 43 = .ok (.iconst 0, 1) := by decide +kernel
theorem dX4_tick_44 : decode cX4_tick 44 = .ok (.istore_n 3, 1) := by decide +kernel
theorem dX4_tick_45 : decode cX4_tick 45 = .ok (.iload_n 3, 1) := by decide +kernel
theorem dX4_tick_46 : decode cX4_tick 46 = .ok (.iload_n 1, 1) := by decide +kernel
theorem dX4_tick_47 : decode cX4_tick 47 = .ok (.if_icmp .ge 23, 3) := by decide +kernel
theorem dX4_tick_50 : decode cX4_tick 50 = .ok (.aload_n 0, 1) := by decide +kernel
theorem dX4_tick_51 : decode cX4_tick 51 = .ok (.dup, 1) := by decide +kernel
theorem dX4_tick_52 : decode cX4_tick 52 = .ok (.getfield 72, 3) := by decide +kernel
theorem dX4_tick_55 : decode cX4_tick 55 = .ok (.iconst 1, 1) := by decide +kernel
theorem dX4_tick_56 : decode cX4_tick 56 = .ok (.iadd, 1) := by decide +kernel
theorem dX4_tick_57 : decode cX4_tick 57 = .ok (.putfield 72, 3) := by decide +kernel
theorem dX4_tick_60 : decode cX4_tick 60 = .ok (.aload_n 0, 1) := by decide +kernel
theorem dX4_tick_61 : decode cX4_tick 61 = .ok (.invokevirtual 98, 3) := by decide +kernel
theorem dX4_tick_64 : decode cX4_tick 64 = .ok (.iinc 3 1, 3) := by decide +kernel
theorem dX4_tick_67 : decode cX4_tick 67 = .ok (.goto (-22), 3) := by decide +kernel
theorem dX4_tick_70 : decode cX4_tick 70 = .ok (.aload_n 0, 1) := by decide +kernel
theorem dX4_tick_71 : decode cX4_tick 71 = .ok (.getfield 81, 3) := by decide +kernel
theorem dX4_tick_74 : decode cX4_tick 74 = .ok (.iload_n 2, 1) := by decide +kernel
theorem dX4_tick_75 : decode cX4_tick 75 = .ok (.isub, 1) := by decide +kernel
theorem dX4_tick_76 : decode cX4_tick 76 = .ok (.ireturn, 1) := by decide +kernel
theorem dX4_clock_0 : decode cX4_clock 0 = .ok (.aload_n 0, 1) := by decide +kernel
theorem dX4_clock_1 : decode cX4_clock 1 = .ok (.iconst 0, 1) := by decide +kernel
theorem dX4_clock_2 : decode cX4_clock 2 = .ok (.putfield 53, 3) := by decide +kernel
theorem dX4_clock_5 : decode cX4_clock 5 = .ok (.aload_n 0, 1) := by decide +kernel
theorem dX4_clock_6 : decode cX4_clock 6 = .ok (.getfield 72, 3) := by decide +kernel
theorem dX4_clock_9 : decode cX4_clock 9 = .ok (.ireturn, 1) := by decide +kernel
theorem dX4_closed_0 : decode cX4_closed 0 = .ok (.aload_n 0, 1) := by decide +kernel
theorem dX4_closed_1 : decode cX4_closed 1 = .ok (.iload_n 1, 1) := by decide +kernel
theorem dX4_closed_2 : decode cX4_closed 2 = .ok (.invokestatic 84, 3) := by decide +kernel
theorem dX4_closed_5 : decode cX4_closed 5 = .ok (.ifCond .ne 7, 3) := by decide +kernel
theorem dX4_closed_8 : decode cX4_closed 8 = .ok (.iconst 1, 1) := by decide +kernel
theorem dX4_closed_9 : decode cX4_closed 9 = .ok (.goto 4, 3) := by decide +kernel
theorem dX4_closed_12 : decode cX4_closed 12 = .ok (.iconst 0, 1) := by decide +kernel
theorem dX4_closed_13 : decode cX4_closed 13 = .ok (.iload_n 2, 1) := by decide +kernel
theorem dX4_closed_14 : decode cX4_closed 14 = .ok (.invokestatic 104, 3) := by decide +kernel
theorem dX4_closed_17 : decode cX4_closed 17 = .ok (.ifCond .eq 10, 3) := by decide +kernel
theorem dX4_closed_20 : decode cX4_closed 20 = .ok (.iload_n 3, 1) := by decide +kernel
theorem dX4_closed_21 : decode cX4_closed 21 = .ok (.invokestatic 88, 3) := by decide +kernel
theorem dX4_closed_24 : decode cX4_closed 24 = .ok (.ifCond .ne 7, 3) := by decide +kernel
theorem dX4_closed_27 : decode cX4_closed 27 = .ok (.iconst 1, 1) := by decide +kernel
theorem dX4_closed_28 : decode cX4_closed 28 = .ok (.goto 4, 3) := by decide +kernel
theorem dX4_closed_31 : decode cX4_closed 31 = .ok (.iconst 0, 1) := by decide +kernel
theorem dX4_closed_32 : decode cX4_closed 32 = .ok (.iconst 0, 1) := by decide +kernel
theorem dX4_closed_33 : decode cX4_closed 33 = .ok (.invokevirtual 94, 3) := by decide +kernel
theorem dX4_closed_36 : decode cX4_closed 36 = .ok (.ifCond .eq 5, 3) := by decide +kernel
theorem dX4_closed_39 : decode cX4_closed 39 = .ok (.iconst 0, 1) := by decide +kernel
theorem dX4_closed_40 : decode cX4_closed 40 = .ok (.ireturn, 1) := by decide +kernel
theorem dX4_closed_41 : decode cX4_closed 41 = .ok (.aload_n 0, 1) := by decide +kernel
theorem dX4_closed_42 : decode cX4_closed 42 = .ok (.iload_n 1, 1) := by decide +kernel
theorem dX4_closed_43 : decode cX4_closed 43 = .ok (.iload_n 2, 1) := by decide +kernel
theorem dX4_closed_44 : decode cX4_closed 44 = .ok (.iload_n 3, 1) := by decide +kernel
theorem dX4_closed_45 : decode cX4_closed 45 = .ok (.invokevirtual 75, 3) := by decide +kernel
theorem dX4_closed_48 : decode cX4_closed 48 = .ok (.ireturn, 1) := by decide +kernel
theorem dX4_minutes_0 : decode cX4_minutes 0 = .ok (.aload_n 0, 1) := by decide +kernel
theorem dX4_minutes_1 : decode cX4_minutes 1 = .ok (.iload_n 1, 1) := by decide +kernel
theorem dX4_minutes_2 : decode cX4_minutes 2 = .ok (.invokestatic 84, 3) := by decide +kernel
theorem dX4_minutes_5 : decode cX4_minutes 5 = .ok (.ifCond .ne 7, 3) := by decide +kernel
theorem dX4_minutes_8 : decode cX4_minutes 8 = .ok (.iconst 1, 1) := by decide +kernel
theorem dX4_minutes_9 : decode cX4_minutes 9 = .ok (.goto 4, 3) := by decide +kernel
theorem dX4_minutes_12 : decode cX4_minutes 12 = .ok (.iconst 0, 1) := by decide +kernel
theorem dX4_minutes_13 : decode cX4_minutes 13 = .ok (.iload_n 2, 1) := by decide +kernel
theorem dX4_minutes_14 : decode cX4_minutes 14 = .ok (.invokestatic 104, 3) := by decide +kernel
theorem dX4_minutes_17 : decode cX4_minutes 17 = .ok (.ifCond .eq 34, 3) := by decide +kernel
theorem dX4_minutes_20 : decode cX4_minutes 20 = .ok (.iload_n 3, 1) := by decide +kernel
theorem dX4_minutes_21 : decode cX4_minutes 21 = .ok (.invokestatic 88, 3) := by decide +kernel
theorem dX4_minutes_24 : decode cX4_minutes 24 = .ok (.ifCond .eq 27, 3) := by decide +kernel
theorem dX4_minutes_27 : decode cX4_minutes 27 = .ok (.iload 4, 2) := by decide +kernel
theorem dX4_minutes_29 : decode cX4_minutes 29 = .ok (.invokestatic 88, 3) := by decide +kernel
theorem dX4_minutes_32 : decode cX4_minutes 32 = .ok (.ifCond .eq 19, 3) := by decide +kernel
theorem dX4_minutes_35 : decode cX4_minutes 35 = .ok (.iload 4, 2) := by decide +kernel
theorem dX4_minutes_37 : decode cX4_minutes 37 = .ok (.iload_n 3, 1) := by decide +kernel
theorem dX4_minutes_38 : decode cX4_minutes 38 = .ok (.if_icmp .lt 13, 3) := by decide +kernel
theorem dX4_minutes_41 : decode cX4_minutes 41 = .ok (.iload 4, 2) := by decide +kernel
theorem dX4_minutes_43 : decode cX4_minutes 43 = .ok (.iload_n 3, 1) := by decide +kernel
theorem dX4_minutes_44 : decode cX4_minutes 44 = .ok (.isub, 1) := by decide +kernel
theorem dX4_minutes_45 : decode cX4_minutes 45 = .ok (.sipush 2000, 3) := by decide +kernel
theorem dX4_minutes_48 : decode cX4_minutes 48 = .ok (.if_icmp .le 7, 3) := by decide +kernel
theorem dX4_minutes_51 : decode cX4_minutes 51 = .ok (.iconst 1, 1) := by decide +kernel
theorem dX4_minutes_52 : decode cX4_minutes 52 = .ok (.goto 4, 3) := by decide +kernel
theorem dX4_minutes_55 : decode cX4_minutes 55 = .ok (.iconst 0, 1) := by decide +kernel
theorem dX4_minutes_56 : decode cX4_minutes 56 = .ok (.iconst 0, 1) := by decide +kernel
theorem dX4_minutes_57 : decode cX4_minutes 57 = .ok (.invokevirtual 94, 3) := by decide +kernel
theorem dX4_minutes_60 : decode cX4_minutes 60 = .ok (.ifCond .eq 5, 3) := by decide +kernel
theorem dX4_minutes_63 : decode cX4_minutes 63 = .ok (.iconst 0, 1) := by decide +kernel
theorem dX4_minutes_64 : decode cX4_minutes 64 = .ok (.ireturn, 1) := by decide +kernel
theorem dX4_minutes_65 : decode cX4_minutes 65 = .ok (.iconst 0, 1) := by decide +kernel
theorem dX4_minutes_66 : decode cX4_minutes 66 = .ok (.istore 5, 2) := by decide +kernel
theorem dX4_minutes_68 : decode cX4_minutes 68 = .ok (.iload_n 3, 1) := by decide +kernel
theorem dX4_minutes_69 : decode cX4_minutes 69 = .ok (.istore 6, 2) := by decide +kernel
theorem dX4_minutes_71 : decode cX4_minutes 71 = .ok (.iload 6, 2) := by decide +kernel
theorem dX4_minutes_73 : decode cX4_minutes 73 = .ok (.iload 4, 2) := by decide +kernel
theorem dX4_minutes_75 : decode cX4_minutes 75 = .ok (.if_icmp .ge 30, 3) := by decide +kernel
theorem dX4_minutes_78 : decode cX4_minutes 78 = .ok (.iload 5, 2) := by decide +kernel
theorem dX4_minutes_80 : decode cX4_minutes 80 = .ok (.aload_n 0, 1) := by decide +kernel
theorem dX4_minutes_81 : decode cX4_minutes 81 = .ok (.iload_n 1, 1) := by decide +kernel
theorem dX4_minutes_82 : decode cX4_minutes 82 = .ok (.iload_n 2, 1) := by decide +kernel
theorem dX4_minutes_83 : decode cX4_minutes 83 = .ok (.iload 6, 2) := by decide +kernel
theorem dX4_minutes_85 : decode cX4_minutes 85 = .ok (.invokevirtual 75, 3) := by decide +kernel
theorem dX4_minutes_88 : decode cX4_minutes 88 = .ok (.ifCond .eq 7, 3) := by decide +kernel
theorem dX4_minutes_91 : decode cX4_minutes 91 = .ok (.iconst 1, 1) := by decide +kernel
theorem dX4_minutes_92 : decode cX4_minutes 92 = .ok (.goto 4, 3) := by decide +kernel
theorem dX4_minutes_95 : decode cX4_minutes 95 = .ok (.iconst 0, 1) := by decide +kernel
theorem dX4_minutes_96 : decode cX4_minutes 96 = .ok (.iadd, 1) := by decide +kernel
theorem dX4_minutes_97 : decode cX4_minutes 97 = .ok (.istore 5, 2) := by decide +kernel
theorem dX4_minutes_99 : decode cX4_minutes 99 = .ok (.iinc 6 1, 3) := by decide +kernel
theorem dX4_minutes_102 : decode cX4_minutes 102 = .ok (.goto (-31), 3) := by decide +kernel
theorem dX4_minutes_105 : decode cX4_minutes 105 = .ok (.iload 5, 2) := by decide +kernel
theorem dX4_minutes_107 : decode cX4_minutes 107 = .ok (.ireturn, 1) := by decide +kernel
theorem dX4_opens_0 : decode cX4_opens 0 = .ok (.aload_n 0, 1) := by decide +kernel
theorem dX4_opens_1 : decode cX4_opens 1 = .ok (.iload_n 1, 1) := by decide +kernel
theorem dX4_opens_2 : decode cX4_opens 2 = .ok (.invokestatic 84, 3) := by decide +kernel
theorem dX4_opens_5 : decode cX4_opens 5 = .ok (.ifCond .ne 7, 3) := by decide +kernel
theorem dX4_opens_8 : decode cX4_opens 8 = .ok (.iconst 1, 1) := by decide +kernel
theorem dX4_opens_9 : decode cX4_opens 9 = .ok (.goto 4, 3) := by decide +kernel
theorem dX4_opens_12 : decode cX4_opens 12 = .ok (.iconst 0, 1) := by decide +kernel
theorem dX4_opens_13 : decode cX4_opens 13 = .ok (.iload_n 2, 1) := by decide +kernel
theorem dX4_opens_14 : decode cX4_opens 14 = .ok (.invokestatic 104, 3) := by decide +kernel
theorem dX4_opens_17 : decode cX4_opens 17 = .ok (.ifCond .eq 10, 3) := by decide +kernel
theorem dX4_opens_20 : decode cX4_opens 20 = .ok (.iload_n 3, 1) := by decide +kernel
theorem dX4_opens_21 : decode cX4_opens 21 = .ok (.invokestatic 88, 3) := by decide +kernel
theorem dX4_opens_24 : decode cX4_opens 24 = .ok (.ifCond .ne 7, 3) := by decide +kernel
theorem dX4_opens_27 : decode cX4_opens 27 = .ok (.iconst 1, 1) := by decide +kernel
theorem dX4_opens_28 : decode cX4_opens 28 = .ok (.goto 4, 3) := by decide +kernel
theorem dX4_opens_31 : decode cX4_opens 31 = .ok (.iconst 0, 1) := by decide +kernel
theorem dX4_opens_32 : decode cX4_opens 32 = .ok (.iconst 0, 1) := by decide +kernel
theorem dX4_opens_33 : decode cX4_opens 33 = .ok (.invokevirtual 94, 3) := by decide +kernel
theorem dX4_opens_36 : decode cX4_opens 36 = .ok (.ifCond .eq 5, 3) := by decide +kernel
theorem dX4_opens_39 : decode cX4_opens 39 = .ok (.iconst 0, 1) := by decide +kernel
theorem dX4_opens_40 : decode cX4_opens 40 = .ok (.ireturn, 1) := by decide +kernel
theorem dX4_opens_41 : decode cX4_opens 41 = .ok (.iload_n 3, 1) := by decide +kernel
theorem dX4_opens_42 : decode cX4_opens 42 = .ok (.istore 4, 2) := by decide +kernel
theorem dX4_opens_44 : decode cX4_opens 44 = .ok (.iload 4, 2) := by decide +kernel
theorem dX4_opens_46 : decode cX4_opens 46 = .ok (.iload_n 3, 1) := by decide +kernel
theorem dX4_opens_47 : decode cX4_opens 47 = .ok (.sipush 2000, 3) := by decide +kernel
theorem dX4_opens_50 : decode cX4_opens 50 = .ok (.iadd, 1) := by decide +kernel
theorem dX4_opens_51 : decode cX4_opens 51 = .ok (.if_icmp .ge 30, 3) := by decide +kernel
theorem dX4_opens_54 : decode cX4_opens 54 = .ok (.iload 4, 2) := by decide +kernel
theorem dX4_opens_56 : decode cX4_opens 56 = .ok (.ldc 61, 2) := by decide +kernel
theorem dX4_opens_58 : decode cX4_opens 58 = .ok (.if_icmp .gt 23, 3) := by decide +kernel
theorem dX4_opens_61 : decode cX4_opens 61 = .ok (.aload_n 0, 1) := by decide +kernel
theorem dX4_opens_62 : decode cX4_opens 62 = .ok (.iload_n 1, 1) := by decide +kernel
theorem dX4_opens_63 : decode cX4_opens 63 = .ok (.iload_n 2, 1) := by decide +kernel
theorem dX4_opens_64 : decode cX4_opens 64 = .ok (.iload 4, 2) := by decide +kernel
theorem dX4_opens_66 : decode cX4_opens 66 = .ok (.invokevirtual 75, 3) := by decide +kernel
theorem dX4_opens_69 : decode cX4_opens 69 = .ok (.ifCond .ne 6, 3) := by decide +kernel
theorem dX4_opens_72 : decode cX4_opens 72 = .ok (.iload 4, 2) := by decide +kernel
theorem dX4_opens_74 : decode cX4_opens 74 = .ok (.ireturn, 1) := by decide +kernel
theorem dX4_opens_75 : decode cX4_opens 75 = .ok (.iinc 4 1, 3) := by decide +kernel
theorem dX4_opens_78 : decode cX4_opens 78 = .ok (.goto (-34), 3) := by decide +kernel
theorem dX4_opens_81 : decode cX4_opens 81 = .ok (.iconst (-1), 1) := by decide +kernel
theorem dX4_opens_82 : decode cX4_opens 82 = .ok (.ireturn, 1) := by decide +kernel
theorem dX4_endOf_0 : decode cX4_endOf 0 = .ok (.aload_n 0, 1) := by decide +kernel
theorem dX4_endOf_1 : decode cX4_endOf 1 = .ok (.getfield 31, 3) := by decide +kernel
theorem dX4_endOf_4 : decode cX4_endOf 4 = .ok (.iload_n 1, 1) := by decide +kernel
theorem dX4_endOf_5 : decode cX4_endOf 5 = .ok (.iaload, 1) := by decide +kernel
theorem dX4_endOf_6 : decode cX4_endOf 6 = .ok (.iconst (-1), 1) := by decide +kernel
theorem dX4_endOf_7 : decode cX4_endOf 7 = .ok (.if_icmp .eq 10, 3) := by decide +kernel
theorem dX4_endOf_10 : decode cX4_endOf 10 = .ok (.aload_n 0, 1) := by decide +kernel
theorem dX4_endOf_11 : decode cX4_endOf 11 = .ok (.getfield 31, 3) := by decide +kernel
theorem dX4_endOf_14 : decode cX4_endOf 14 = .ok (.iload_n 1, 1) := by decide +kernel
theorem dX4_endOf_15 : decode cX4_endOf 15 = .ok (.iaload, 1) := by decide +kernel
theorem dX4_endOf_16 : decode cX4_endOf 16 = .ok (.ireturn, 1) := by decide +kernel
theorem dX4_endOf_17 : decode cX4_endOf 17 = .ok (.aload_n 0, 1) := by decide +kernel
theorem dX4_endOf_18 : decode cX4_endOf 18 = .ok (.getfield 7, 3) := by decide +kernel
theorem dX4_endOf_21 : decode cX4_endOf 21 = .ok (.iload_n 1, 1) := by decide +kernel
theorem dX4_endOf_22 : decode cX4_endOf 22 = .ok (.iaload, 1) := by decide +kernel
theorem dX4_endOf_23 : decode cX4_endOf 23 = .ok (.iconst 2, 1) := by decide +kernel
theorem dX4_endOf_24 : decode cX4_endOf 24 = .ok (.if_icmp .eq 13, 3) := by decide +kernel
theorem dX4_endOf_27 : decode cX4_endOf 27 = .ok (.aload_n 0, 1) := by decide +kernel
theorem dX4_endOf_28 : decode cX4_endOf 28 = .ok (.getfield 7, 3) := by decide +kernel
theorem dX4_endOf_31 : decode cX4_endOf 31 = .ok (.iload_n 1, 1) := by decide +kernel
theorem dX4_endOf_32 : decode cX4_endOf 32 = .ok (.iaload, 1) := by decide +kernel
theorem dX4_endOf_33 : decode cX4_endOf 33 = .ok (.iconst 3, 1) := by decide +kernel
theorem dX4_endOf_34 : decode cX4_endOf 34 = .ok (.if_icmp .ne 8, 3) := by decide +kernel
theorem dX4_endOf_37 : decode cX4_endOf 37 = .ok (.ldc 107, 2) := by decide +kernel
theorem dX4_endOf_39 : decode cX4_endOf 39 = .ok (.goto 9, 3) := by decide +kernel
theorem dX4_endOf_42 : decode cX4_endOf 42 = .ok (.aload_n 0, 1) := by decide +kernel
theorem dX4_endOf_43 : decode cX4_endOf 43 = .ok (.getfield 22, 3) := by decide +kernel
theorem dX4_endOf_46 : decode cX4_endOf 46 = .ok (.iload_n 1, 1) := by decide +kernel
theorem dX4_endOf_47 : decode cX4_endOf 47 = .ok (.iaload, 1) := by decide +kernel
theorem dX4_endOf_48 : decode cX4_endOf 48 = .ok (.ireturn, 1) := by decide +kernel
theorem dX4_reason_0 : decode cX4_reason 0 = .ok (.aload_n 0, 1) := by decide +kernel
theorem dX4_reason_1 : decode cX4_reason 1 = .ok (.iload_n 1, 1) := by decide +kernel
theorem dX4_reason_2 : decode cX4_reason 2 = .ok (.invokestatic 84, 3) := by decide +kernel
theorem dX4_reason_5 : decode cX4_reason 5 = .ok (.ifCond .ne 7, 3) := by decide +kernel
theorem dX4_reason_8 : decode cX4_reason 8 = .ok (.iconst 1, 1) := by decide +kernel
theorem dX4_reason_9 : decode cX4_reason 9 = .ok (.goto 4, 3) := by decide +kernel
theorem dX4_reason_12 : decode cX4_reason 12 = .ok (.iconst 0, 1) := by decide +kernel
theorem dX4_reason_13 : decode cX4_reason 13 = .ok (.iload_n 2, 1) := by decide +kernel
theorem dX4_reason_14 : decode cX4_reason 14 = .ok (.invokestatic 104, 3) := by decide +kernel
theorem dX4_reason_17 : decode cX4_reason 17 = .ok (.ifCond .eq 15, 3) := by decide +kernel
theorem dX4_reason_20 : decode cX4_reason 20 = .ok (.iload_n 3, 1) := by decide +kernel
theorem dX4_reason_21 : decode cX4_reason 21 = .ok (.invokestatic 88, 3) := by decide +kernel
theorem dX4_reason_24 : decode cX4_reason 24 = .ok (.ifCond .eq 8, 3) := by decide +kernel
theorem dX4_reason_27 : decode cX4_reason 27 = .ok (.iload 4, 2) := by decide +kernel
theorem dX4_reason_29 : decode cX4_reason 29 = .ok (.ifCond .ge 7, 3) := by decide +kernel
theorem dX4_reason_32 : decode cX4_reason 32 = .ok (.iconst 1, 1) := by decide +kernel
theorem dX4_reason_33 : decode cX4_reason 33 = .ok (.goto 4, 3) := by decide +kernel
theorem dX4_reason_36 : decode cX4_reason 36 = .ok (.iconst 0, 1) := by decide +kernel
theorem dX4_reason_37 : decode cX4_reason 37 = .ok (.iconst 0, 1) := by decide +kernel
theorem dX4_reason_38 : decode cX4_reason 38 = .ok (.invokevirtual 94, 3) := by decide +kernel
theorem dX4_reason_41 : decode cX4_reason 41 = .ok (.ifCond .eq 5, 3) := by decide +kernel
theorem dX4_reason_44 : decode cX4_reason 44 = .ok (.iconst 0, 1) := by decide +kernel
theorem dX4_reason_45 : decode cX4_reason 45 = .ok (.ireturn, 1) := by decide +kernel
theorem dX4_reason_46 : decode cX4_reason 46 = .ok (.iconst 0, 1) := by decide +kernel
theorem dX4_reason_47 : decode cX4_reason 47 = .ok (.istore 5, 2) := by decide +kernel
theorem dX4_reason_49 : decode cX4_reason 49 = .ok (.iload 5, 2) := by decide +kernel
theorem dX4_reason_51 : decode cX4_reason 51 = .ok (.aload_n 0, 1) := by decide +kernel
theorem dX4_reason_52 : decode cX4_reason 52 = .ok (.getfield 62, 3) := by decide +kernel
theorem dX4_reason_55 : decode cX4_reason 55 = .ok (.if_icmp .ge 141, 3) := by decide +kernel
theorem dX4_reason_58 : decode cX4_reason 58 = .ok (.iconst 0, 1) := by decide +kernel
theorem dX4_reason_59 : decode cX4_reason 59 = .ok (.istore 6, 2) := by decide +kernel
theorem dX4_reason_61 : decode cX4_reason 61 = .ok (.iconst 0, 1) := by decide +kernel
theorem dX4_reason_62 : decode cX4_reason 62 = .ok (.istore 7, 2) := by decide +kernel
theorem dX4_reason_64 : decode cX4_reason 64 = .ok (.iload 7, 2) := by decide +kernel
theorem dX4_reason_66 : decode cX4_reason 66 = .ok (.aload_n 0, 1) := by decide +kernel
theorem dX4_reason_67 : decode cX4_reason 67 = .ok (.getfield 62, 3) := by decide +kernel
theorem dX4_reason_70 : decode cX4_reason 70 = .ok (.if_icmp .ge 89, 3) := by decide +kernel
theorem dX4_reason_73 : decode cX4_reason 73 = .ok (.aload_n 0, 1) := by decide +kernel
theorem dX4_reason_74 : decode cX4_reason 74 = .ok (.iload 7, 2) := by decide +kernel
theorem dX4_reason_76 : decode cX4_reason 76 = .ok (.invokevirtual 108, 3) := by decide +kernel
theorem dX4_reason_79 : decode cX4_reason 79 = .ok (.aload_n 0, 1) := by decide +kernel
theorem dX4_reason_80 : decode cX4_reason 80 = .ok (.iload 5, 2) := by decide +kernel
theorem dX4_reason_82 : decode cX4_reason 82 = .ok (.invokevirtual 108, 3) := by decide +kernel
theorem dX4_reason_85 : decode cX4_reason 85 = .ok (.if_icmp .lt 25, 3) := by decide +kernel
theorem dX4_reason_88 : decode cX4_reason 88 = .ok (.aload_n 0, 1) := by decide +kernel
theorem dX4_reason_89 : decode cX4_reason 89 = .ok (.iload 7, 2) := by decide +kernel
theorem dX4_reason_91 : decode cX4_reason 91 = .ok (.invokevirtual 108, 3) := by decide +kernel
theorem dX4_reason_94 : decode cX4_reason 94 = .ok (.aload_n 0, 1) := by decide +kernel
theorem dX4_reason_95 : decode cX4_reason 95 = .ok (.iload 5, 2) := by decide +kernel
theorem dX4_reason_97 : decode cX4_reason 97 = .ok (.invokevirtual 108, 3) := by decide +kernel
theorem dX4_reason_100 : decode cX4_reason 100 = .ok (.if_icmp .ne 14, 3) := by decide +kernel
theorem dX4_reason_103 : decode cX4_reason 103 = .ok (.iload 7, 2) := by decide +kernel
theorem dX4_reason_105 : decode cX4_reason 105 = .ok (.iload 5, 2) := by decide +kernel
theorem dX4_reason_107 : decode cX4_reason 107 = .ok (.if_icmp .ge 7, 3) := by decide +kernel
theorem dX4_reason_110 : decode cX4_reason 110 = .ok (.iconst 1, 1) := by decide +kernel
theorem dX4_reason_111 : decode cX4_reason 111 = .ok (.goto 4, 3) := by decide +kernel
theorem dX4_reason_114 : decode cX4_reason 114 = .ok (.iconst 0, 1) := by decide +kernel
theorem dX4_reason_115 : decode cX4_reason 115 = .ok (.istore 8, 2) := by decide +kernel
theorem dX4_reason_117 : decode cX4_reason 117 = .ok (.iload 6, 2) := by decide +kernel
theorem dX4_reason_119 : decode cX4_reason 119 = .ok (.aload_n 0, 1) := by decide +kernel
theorem dX4_reason_120 : decode cX4_reason 120 = .ok (.iload 7, 2) := by decide +kernel
theorem dX4_reason_122 : decode cX4_reason 122 = .ok (.iload_n 1, 1) := by decide +kernel
theorem dX4_reason_123 : decode cX4_reason 123 = .ok (.iload_n 2, 1) := by decide +kernel
theorem dX4_reason_124 : decode cX4_reason 124 = .ok (.invokevirtual 65, 3) := by decide +kernel
theorem dX4_reason_127 : decode cX4_reason 127 = .ok (.ifCond .eq 22, 3) := by decide +kernel
theorem dX4_reason_130 : decode cX4_reason 130 = .ok (.aload_n 0, 1) := by decide +kernel
theorem dX4_reason_131 : decode cX4_reason 131 = .ok (.iload 7, 2) := by decide +kernel
theorem dX4_reason_133 : decode cX4_reason 133 = .ok (.iload_n 3, 1) := by decide +kernel
theorem dX4_reason_134 : decode cX4_reason 134 = .ok (.invokevirtual 68, 3) := by decide +kernel
theorem dX4_reason_137 : decode cX4_reason 137 = .ok (.ifCond .eq 12, 3) := by decide +kernel
theorem dX4_reason_140 : decode cX4_reason 140 = .ok (.iload 8, 2) := by decide +kernel
theorem dX4_reason_142 : decode cX4_reason 142 = .ok (.ifCond .eq 7, 3) := by decide +kernel
theorem dX4_reason_145 : decode cX4_reason 145 = .ok (.iconst 1, 1) := by decide +kernel
theorem dX4_reason_146 : decode cX4_reason 146 = .ok (.goto 4, 3) := by decide +kernel
theorem dX4_reason_149 : decode cX4_reason 149 = .ok (.iconst 0, 1) := by decide +kernel
theorem dX4_reason_150 : decode cX4_reason 150 = .ok (.iadd, 1) := by decide +kernel
theorem dX4_reason_151 : decode cX4_reason 151 = .ok (.istore 6, 2) := by decide +kernel
theorem dX4_reason_153 : decode cX4_reason 153 = .ok (.iinc 7 1, 3) := by decide +kernel
theorem dX4_reason_156 : decode cX4_reason 156 = .ok (.goto (-92), 3) := by decide +kernel
theorem dX4_reason_159 : decode cX4_reason 159 = .ok (.aload_n 0, 1) := by decide +kernel
theorem dX4_reason_160 : decode cX4_reason 160 = .ok (.iload 5, 2) := by decide +kernel
theorem dX4_reason_162 : decode cX4_reason 162 = .ok (.iload_n 1, 1) := by decide +kernel
theorem dX4_reason_163 : decode cX4_reason 163 = .ok (.iload_n 2, 1) := by decide +kernel
theorem dX4_reason_164 : decode cX4_reason 164 = .ok (.invokevirtual 65, 3) := by decide +kernel
theorem dX4_reason_167 : decode cX4_reason 167 = .ok (.ifCond .eq 23, 3) := by decide +kernel
theorem dX4_reason_170 : decode cX4_reason 170 = .ok (.aload_n 0, 1) := by decide +kernel
theorem dX4_reason_171 : decode cX4_reason 171 = .ok (.iload 5, 2) := by decide +kernel
theorem dX4_reason_173 : decode cX4_reason 173 = .ok (.iload_n 3, 1) := by decide +kernel
theorem dX4_reason_174 : decode cX4_reason 174 = .ok (.invokevirtual 68, 3) := by decide +kernel
theorem dX4_reason_177 : decode cX4_reason 177 = .ok (.ifCond .eq 13, 3) := by decide +kernel
theorem dX4_reason_180 : decode cX4_reason 180 = .ok (.iload 6, 2) := by decide +kernel
theorem dX4_reason_182 : decode cX4_reason 182 = .ok (.iload 4, 2) := by decide +kernel
theorem dX4_reason_184 : decode cX4_reason 184 = .ok (.if_icmp .ne 6, 3) := by decide +kernel
theorem dX4_reason_187 : decode cX4_reason 187 = .ok (.iload 5, 2) := by decide +kernel
theorem dX4_reason_189 : decode cX4_reason 189 = .ok (.ireturn, 1) := by decide +kernel
theorem dX4_reason_190 : decode cX4_reason 190 = .ok (.iinc 5 1, 3) := by decide +kernel
theorem dX4_reason_193 : decode cX4_reason 193 = .ok (.goto (-144), 3) := by decide +kernel
theorem dX4_reason_196 : decode cX4_reason 196 = .ok (.iconst (-1), 1) := by decide +kernel
theorem dX4_reason_197 : decode cX4_reason 197 = .ok (.ireturn, 1) := by decide +kernel
theorem dX4_speed_0 : decode cX4_speed 0 = .ok (.aload_n 0, 1) := by decide +kernel
theorem dX4_speed_1 : decode cX4_speed 1 = .ok (.iload_n 1, 1) := by decide +kernel
theorem dX4_speed_2 : decode cX4_speed 2 = .ok (.invokestatic 84, 3) := by decide +kernel
theorem dX4_speed_5 : decode cX4_speed 5 = .ok (.ifCond .ne 7, 3) := by decide +kernel
theorem dX4_speed_8 : decode cX4_speed 8 = .ok (.iconst 1, 1) := by decide +kernel
theorem dX4_speed_9 : decode cX4_speed 9 = .ok (.goto 4, 3) := by decide +kernel
theorem dX4_speed_12 : decode cX4_speed 12 = .ok (.iconst 0, 1) := by decide +kernel
theorem dX4_speed_13 : decode cX4_speed 13 = .ok (.iload_n 2, 1) := by decide +kernel
theorem dX4_speed_14 : decode cX4_speed 14 = .ok (.invokestatic 104, 3) := by decide +kernel
theorem dX4_speed_17 : decode cX4_speed 17 = .ok (.ifCond .eq 10, 3) := by decide +kernel
theorem dX4_speed_20 : decode cX4_speed 20 = .ok (.iload_n 3, 1) := by decide +kernel
theorem dX4_speed_21 : decode cX4_speed 21 = .ok (.invokestatic 88, 3) := by decide +kernel
theorem dX4_speed_24 : decode cX4_speed 24 = .ok (.ifCond .ne 7, 3) := by decide +kernel
theorem dX4_speed_27 : decode cX4_speed 27 = .ok (.iconst 1, 1) := by decide +kernel
theorem dX4_speed_28 : decode cX4_speed 28 = .ok (.goto 4, 3) := by decide +kernel
theorem dX4_speed_31 : decode cX4_speed 31 = .ok (.iconst 0, 1) := by decide +kernel
theorem dX4_speed_32 : decode cX4_speed 32 = .ok (.iconst 0, 1) := by decide +kernel
theorem dX4_speed_33 : decode cX4_speed 33 = .ok (.invokevirtual 94, 3) := by decide +kernel
theorem dX4_speed_36 : decode cX4_speed 36 = .ok (.ifCond .eq 5, 3) := by decide +kernel
theorem dX4_speed_39 : decode cX4_speed 39 = .ok (.iconst 0, 1) := by decide +kernel
theorem dX4_speed_40 : decode cX4_speed 40 = .ok (.ireturn, 1) := by decide +kernel
theorem dX4_speed_41 : decode cX4_speed 41 = .ok (.bipush 100, 2) := by decide +kernel
theorem dX4_speed_43 : decode cX4_speed 43 = .ok (.istore 4, 2) := by decide +kernel
theorem dX4_speed_45 : decode cX4_speed 45 = .ok (.iconst 0, 1) := by decide +kernel
theorem dX4_speed_46 : decode cX4_speed 46 = .ok (.istore 5, 2) := by decide +kernel
theorem dX4_speed_48 : decode cX4_speed 48 = .ok (.iload 5, 2) := by decide +kernel
theorem dX4_speed_50 : decode cX4_speed 50 = .ok (.aload_n 0, 1) := by decide +kernel
theorem dX4_speed_51 : decode cX4_speed 51 = .ok (.getfield 62, 3) := by decide +kernel
theorem dX4_speed_54 : decode cX4_speed 54 = .ok (.if_icmp .ge 79, 3) := by decide +kernel
theorem dX4_speed_57 : decode cX4_speed 57 = .ok (.aload_n 0, 1) := by decide +kernel
theorem dX4_speed_58 : decode cX4_speed 58 = .ok (.getfield 7, 3) := by decide +kernel
theorem dX4_speed_61 : decode cX4_speed 61 = .ok (.iload 5, 2) := by decide +kernel
theorem dX4_speed_63 : decode cX4_speed 63 = .ok (.iaload, 1) := by decide +kernel
theorem dX4_speed_64 : decode cX4_speed 64 = .ok (.iconst 5, 1) := by decide +kernel
theorem dX4_speed_65 : decode cX4_speed 65 = .ok (.if_icmp .ne 28, 3) := by decide +kernel
theorem dX4_speed_68 : decode cX4_speed 68 = .ok (.aload_n 0, 1) := by decide +kernel
theorem dX4_speed_69 : decode cX4_speed 69 = .ok (.iload 5, 2) := by decide +kernel
theorem dX4_speed_71 : decode cX4_speed 71 = .ok (.iload_n 1, 1) := by decide +kernel
theorem dX4_speed_72 : decode cX4_speed 72 = .ok (.iload_n 2, 1) := by decide +kernel
theorem dX4_speed_73 : decode cX4_speed 73 = .ok (.invokevirtual 65, 3) := by decide +kernel
theorem dX4_speed_76 : decode cX4_speed 76 = .ok (.ifCond .eq 17, 3) := by decide +kernel
theorem dX4_speed_79 : decode cX4_speed 79 = .ok (.aload_n 0, 1) := by decide +kernel
theorem dX4_speed_80 : decode cX4_speed 80 = .ok (.iload 5, 2) := by decide +kernel
theorem dX4_speed_82 : decode cX4_speed 82 = .ok (.iload_n 3, 1) := by decide +kernel
theorem dX4_speed_83 : decode cX4_speed 83 = .ok (.invokevirtual 68, 3) := by decide +kernel
theorem dX4_speed_86 : decode cX4_speed 86 = .ok (.ifCond .eq 7, 3) := by decide +kernel
theorem dX4_speed_89 : decode cX4_speed 89 = .ok (.iconst 1, 1) := by decide +kernel
theorem dX4_speed_90 : decode cX4_speed 90 = .ok (.goto 4, 3) := by decide +kernel
theorem dX4_speed_93 : decode cX4_speed 93 = .ok (.iconst 0, 1) := by decide +kernel
theorem dX4_speed_94 : decode cX4_speed 94 = .ok (.istore 6, 2) := by decide +kernel
theorem dX4_speed_96 : decode cX4_speed 96 = .ok (.iload 6, 2) := by decide +kernel
theorem dX4_speed_98 : decode cX4_speed 98 = .ok (.ifCond .eq 25, 3) := by decide +kernel
theorem dX4_speed_101 : decode cX4_speed 101 = .ok (.aload_n 0, 1) := by decide +kernel
theorem dX4_speed_102 : decode cX4_speed 102 = .ok (.getfield 25, 3) := by decide +kernel
theorem dX4_speed_105 : decode cX4_speed 105 = .ok (.iload 5, 2) := by decide +kernel
theorem dX4_speed_107 : decode cX4_speed 107 = .ok (.iaload, 1) := by decide +kernel
theorem dX4_speed_108 : decode cX4_speed 108 = .ok (.iload 4, 2) := by decide +kernel
theorem dX4_speed_110 : decode cX4_speed 110 = .ok (.if_icmp .ge 13, 3) := by decide +kernel
theorem dX4_speed_113 : decode cX4_speed 113 = .ok (.aload_n 0, 1) := by decide +kernel
theorem dX4_speed_114 : decode cX4_speed 114 = .ok (.getfield 25, 3) := by decide +kernel
theorem dX4_speed_117 : decode cX4_speed 117 = .ok (.iload 5, 2) := by decide +kernel
theorem dX4_speed_119 : decode cX4_speed 119 = .ok (.iaload, 1) := by decide +kernel
theorem dX4_speed_120 : decode cX4_speed 120 = .ok (.goto 5, 3) := by decide +kernel
theorem dX4_speed_123 : decode cX4_speed 123 = .ok (.iload 4, 2) := by decide +kernel
theorem dX4_speed_125 : decode cX4_speed 125 = .ok (.istore 4, 2) := by decide +kernel
theorem dX4_speed_127 : decode cX4_speed 127 = .ok (.iinc 5 1, 3) := by decide +kernel
theorem dX4_speed_130 : decode cX4_speed 130 = .ok (.goto (-82), 3) := by decide +kernel
theorem dX4_speed_133 : decode cX4_speed 133 = .ok (.iload 4, 2) := by decide +kernel
theorem dX4_speed_135 : decode cX4_speed 135 = .ok (.ireturn, 1) := by decide +kernel
theorem dX4_notice_0 : decode cX4_notice 0 = .ok (.aload_n 0, 1) := by decide +kernel
theorem dX4_notice_1 : decode cX4_notice 1 = .ok (.iload_n 1, 1) := by decide +kernel
theorem dX4_notice_2 : decode cX4_notice 2 = .ok (.aload_n 0, 1) := by decide +kernel
theorem dX4_notice_3 : decode cX4_notice 3 = .ok (.getfield 81, 3) := by decide +kernel
theorem dX4_notice_6 : decode cX4_notice 6 = .ok (.bipush 100, 2) := by decide +kernel
theorem dX4_notice_8 : decode cX4_notice 8 = .ok (.if_icmp .le 13, 3) := by decide +kernel
theorem dX4_notice_11 : decode cX4_notice 11 = .ok (.aload_n 0, 1) := by decide +kernel
theorem dX4_notice_12 : decode cX4_notice 12 = .ok (.getfield 81, 3) := by decide +kernel
theorem dX4_notice_15 : decode cX4_notice 15 = .ok (.bipush 100, 2) := by decide +kernel
theorem dX4_notice_17 : decode cX4_notice 17 = .ok (.isub, 1) := by decide +kernel
theorem dX4_notice_18 : decode cX4_notice 18 = .ok (.goto 4, 3) := by decide +kernel
theorem dX4_notice_21 : decode cX4_notice 21 = .ok (.iconst 0, 1) := by decide +kernel
theorem dX4_notice_22 : decode cX4_notice 22 = .ok (.aload_n 0, 1) := by decide +kernel
theorem dX4_notice_23 : decode cX4_notice 23 = .ok (.getfield 81, 3) := by decide +kernel
theorem dX4_notice_26 : decode cX4_notice 26 = .ok (.iconst 1, 1) := by decide +kernel
theorem dX4_notice_27 : decode cX4_notice 27 = .ok (.isub, 1) := by decide +kernel
theorem dX4_notice_28 : decode cX4_notice 28 = .ok (.invokestatic 57, 3) := by decide +kernel
theorem dX4_notice_31 : decode cX4_notice 31 = .ok (.ifCond .eq 12, 3) := by decide +kernel
theorem dX4_notice_34 : decode cX4_notice 34 = .ok (.iload_n 2, 1) := by decide +kernel
theorem dX4_notice_35 : decode cX4_notice 35 = .ok (.iconst 0, 1) := by decide +kernel
theorem dX4_notice_36 : decode cX4_notice 36 = .ok (.iconst 4, 1) := by decide +kernel
theorem dX4_notice_37 : decode cX4_notice 37 = .ok (.invokestatic 57, 3) := by decide +kernel
theorem dX4_notice_40 : decode cX4_notice 40 = .ok (.ifCond .ne 7, 3) := by decide +kernel
theorem dX4_notice_43 : decode cX4_notice 43 = .ok (.iconst 1, 1) := by decide +kernel
theorem dX4_notice_44 : decode cX4_notice 44 = .ok (.goto 4, 3) := by decide +kernel
theorem dX4_notice_47 : decode cX4_notice 47 = .ok (.iconst 0, 1) := by decide +kernel
theorem dX4_notice_48 : decode cX4_notice 48 = .ok (.iconst 0, 1) := by decide +kernel
theorem dX4_notice_49 : decode cX4_notice 49 = .ok (.iconst 0, 1) := by decide +kernel
theorem dX4_notice_50 : decode cX4_notice 50 = .ok (.invokevirtual 94, 3) := by decide +kernel
theorem dX4_notice_53 : decode cX4_notice 53 = .ok (.ifCond .eq 5, 3) := by decide +kernel
theorem dX4_notice_56 : decode cX4_notice 56 = .ok (.iconst 0, 1) := by decide +kernel
theorem dX4_notice_57 : decode cX4_notice 57 = .ok (.ireturn, 1) := by decide +kernel
theorem dX4_notice_58 : decode cX4_notice 58 = .ok (.aload_n 0, 1) := by decide +kernel
theorem dX4_notice_59 : decode cX4_notice 59 = .ok (.getfield 50, 3) := by decide +kernel
theorem dX4_notice_62 : decode cX4_notice 62 = .ok (.iconst 5, 1) := by decide +kernel
theorem dX4_notice_63 : decode cX4_notice 63 = .ok (.iload_n 1, 1) := by decide +kernel
theorem dX4_notice_64 : decode cX4_notice 64 = .ok (.bipush 100, 2) := by decide +kernel
theorem dX4_notice_66 : decode cX4_notice 66 = .ok (.irem, 1) := by decide +kernel
theorem dX4_notice_67 : decode cX4_notice 67 = .ok (.imul, 1) := by decide +kernel
theorem dX4_notice_68 : decode cX4_notice 68 = .ok (.iload_n 2, 1) := by decide +kernel
theorem dX4_notice_69 : decode cX4_notice 69 = .ok (.iadd, 1) := by decide +kernel
theorem dX4_notice_70 : decode cX4_notice 70 = .ok (.iaload, 1) := by decide +kernel
theorem dX4_notice_71 : decode cX4_notice 71 = .ok (.ireturn, 1) := by decide +kernel
theorem dX4_blocked_0 : decode cX4_blocked 0 = .ok (.aload_n 0, 1) := by decide +kernel
theorem dX4_blocked_1 : decode cX4_blocked 1 = .ok (.iload_n 1, 1) := by decide +kernel
theorem dX4_blocked_2 : decode cX4_blocked 2 = .ok (.iconst 0, 1) := by decide +kernel
theorem dX4_blocked_3 : decode cX4_blocked 3 = .ok (.bipush 9, 2) := by decide +kernel
theorem dX4_blocked_5 : decode cX4_blocked 5 = .ok (.invokestatic 57, 3) := by decide +kernel
theorem dX4_blocked_8 : decode cX4_blocked 8 = .ok (.ifCond .ne 7, 3) := by decide +kernel
theorem dX4_blocked_11 : decode cX4_blocked 11 = .ok (.iconst 1, 1) := by decide +kernel
theorem dX4_blocked_12 : decode cX4_blocked 12 = .ok (.goto 4, 3) := by decide +kernel
theorem dX4_blocked_15 : decode cX4_blocked 15 = .ok (.iconst 0, 1) := by decide +kernel
theorem dX4_blocked_16 : decode cX4_blocked 16 = .ok (.iconst 0, 1) := by decide +kernel
theorem dX4_blocked_17 : decode cX4_blocked 17 = .ok (.iconst 0, 1) := by decide +kernel
theorem dX4_blocked_18 : decode cX4_blocked 18 = .ok (.invokevirtual 94, 3) := by decide +kernel
theorem dX4_blocked_21 : decode cX4_blocked 21 = .ok (.ifCond .eq 5, 3) := by decide +kernel
theorem dX4_blocked_24 : decode cX4_blocked 24 = .ok (.iconst 0, 1) := by decide +kernel
theorem dX4_blocked_25 : decode cX4_blocked 25 = .ok (.ireturn, 1) := by decide +kernel
theorem dX4_blocked_26 : decode cX4_blocked 26 = .ok (.iconst 0, 1) := by decide +kernel
theorem dX4_blocked_27 : decode cX4_blocked 27 = .ok (.istore_n 2, 1) := by decide +kernel
theorem dX4_blocked_28 : decode cX4_blocked 28 = .ok (.iconst 0, 1) := by decide +kernel
theorem dX4_blocked_29 : decode cX4_blocked 29 = .ok (.istore_n 3, 1) := by decide +kernel
theorem dX4_blocked_30 : decode cX4_blocked 30 = .ok (.iload_n 3, 1) := by decide +kernel
theorem dX4_blocked_31 : decode cX4_blocked 31 = .ok (.aload_n 0, 1) := by decide +kernel
theorem dX4_blocked_32 : decode cX4_blocked 32 = .ok (.getfield 41, 3) := by decide +kernel
theorem dX4_blocked_35 : decode cX4_blocked 35 = .ok (.iload_n 1, 1) := by decide +kernel
theorem dX4_blocked_36 : decode cX4_blocked 36 = .ok (.iaload, 1) := by decide +kernel
theorem dX4_blocked_37 : decode cX4_blocked 37 = .ok (.if_icmp .ge 56, 3) := by decide +kernel
theorem dX4_blocked_40 : decode cX4_blocked 40 = .ok (.iload_n 2, 1) := by decide +kernel
theorem dX4_blocked_41 : decode cX4_blocked 41 = .ok (.aload_n 0, 1) := by decide +kernel
theorem dX4_blocked_42 : decode cX4_blocked 42 = .ok (.aload_n 0, 1) := by decide +kernel
theorem dX4_blocked_43 : decode cX4_blocked 43 = .ok (.getfield 44, 3) := by decide +kernel
theorem dX4_blocked_46 : decode cX4_blocked 46 = .ok (.bipush 12, 2) := by decide +kernel
theorem dX4_blocked_48 : decode cX4_blocked 48 = .ok (.iload_n 1, 1) := by decide +kernel
theorem dX4_blocked_49 : decode cX4_blocked 49 = .ok (.imul, 1) := by decide +kernel
theorem dX4_blocked_50 : decode cX4_blocked 50 = .ok (.iload_n 3, 1) := by decide +kernel
theorem dX4_blocked_51 : decode cX4_blocked 51 = .ok (.iadd, 1) := by decide +kernel
theorem dX4_blocked_52 : decode cX4_blocked 52 = .ok (.iaload, 1) := by decide +kernel
theorem dX4_blocked_53 : decode cX4_blocked 53 = .ok (.iconst 2, 1) := by decide +kernel
theorem dX4_blocked_54 : decode cX4_blocked 54 = .ok (.idiv, 1) := by decide +kernel
theorem dX4_blocked_55 : decode cX4_blocked 55 = .ok (.aload_n 0, 1) := by decide +kernel
theorem dX4_blocked_56 : decode cX4_blocked 56 = .ok (.getfield 44, 3) := by decide +kernel
theorem dX4_blocked_59 : decode cX4_blocked 59 = .ok (.bipush 12, 2) := by decide +kernel
theorem dX4_blocked_61 : decode cX4_blocked 61 = .ok (.iload_n 1, 1) := by decide +kernel
theorem dX4_blocked_62 : decode cX4_blocked 62 = .ok (.imul, 1) := by decide +kernel
theorem dX4_blocked_63 : decode cX4_blocked 63 = .ok (.iload_n 3, 1) := by decide +kernel
theorem dX4_blocked_64 : decode cX4_blocked 64 = .ok (.iadd, 1) := by decide +kernel
theorem dX4_blocked_65 : decode cX4_blocked 65 = .ok (.iaload, 1) := by decide +kernel
theorem dX4_blocked_66 : decode cX4_blocked 66 = .ok (.iconst 2, 1) := by decide +kernel
theorem dX4_blocked_67 : decode cX4_blocked 67 = .ok (.irem, 1) := by decide +kernel
theorem dX4_blocked_68 : decode cX4_blocked 68 = .ok (.iconst 1, 1) := by decide +kernel
theorem dX4_blocked_69 : decode cX4_blocked 69 = .ok (.iadd, 1) := by decide +kernel
theorem dX4_blocked_70 : decode cX4_blocked 70 = .ok (.aload_n 0, 1) := by decide +kernel
theorem dX4_blocked_71 : decode cX4_blocked 71 = .ok (.getfield 72, 3) := by decide +kernel
theorem dX4_blocked_74 : decode cX4_blocked 74 = .ok (.invokevirtual 75, 3) := by decide +kernel
theorem dX4_blocked_77 : decode cX4_blocked 77 = .ok (.ifCond .eq 7, 3) := by decide +kernel
theorem dX4_blocked_80 : decode cX4_blocked 80 = .ok (.iconst 1, 1) := by decide +kernel
theorem dX4_blocked_81 : decode cX4_blocked 81 = .ok (.goto 4, 3) := by decide +kernel
theorem dX4_blocked_84 : decode cX4_blocked 84 = .ok (.iconst 0, 1) := by decide +kernel
theorem dX4_blocked_85 : decode cX4_blocked 85 = .ok (.iadd, 1) := by decide +kernel
theorem dX4_blocked_86 : decode cX4_blocked 86 = .ok (.istore_n 2, 1) := by decide +kernel
theorem dX4_blocked_87 : decode cX4_blocked 87 = .ok (.iinc 3 1, 3) := by decide +kernel
theorem dX4_blocked_90 : decode cX4_blocked 90 = .ok (.goto (-60), 3) := by decide +kernel
theorem dX4_blocked_93 : decode cX4_blocked 93 = .ok (.iload_n 2, 1) := by decide +kernel
theorem dX4_blocked_94 : decode cX4_blocked 94 = .ok (.ireturn, 1) := by decide +kernel
theorem dJ9_floorMod_0 : decode cJ9_floorMod 0 = .ok (.iload_n 0, 1) := by decide +kernel
theorem dJ9_floorMod_1 : decode cJ9_floorMod 1 = .ok (.iload_n 1, 1) := by decide +kernel
theorem dJ9_floorMod_2 : decode cJ9_floorMod 2 = .ok (.irem, 1) := by decide +kernel
theorem dJ9_floorMod_3 : decode cJ9_floorMod 3 = .ok (.istore_n 2, 1) := by decide +kernel
theorem dJ9_floorMod_4 : decode cJ9_floorMod 4 = .ok (.iload_n 0, 1) := by decide +kernel
theorem dJ9_floorMod_5 : decode cJ9_floorMod 5 = .ok (.iload_n 1, 1) := by decide +kernel
theorem dJ9_floorMod_6 : decode cJ9_floorMod 6 = .ok (.ixor, 1) := by decide +kernel
theorem dJ9_floorMod_7 : decode cJ9_floorMod 7 = .ok (.ifCond .ge 11, 3) := by decide +kernel
theorem dJ9_floorMod_10 : decode cJ9_floorMod 10 = .ok (.iload_n 2, 1) := by decide +kernel
theorem dJ9_floorMod_11 : decode cJ9_floorMod 11 = .ok (.ifCond .eq 7, 3) := by decide +kernel
theorem dJ9_floorMod_14 : decode cJ9_floorMod 14 = .ok (.iload_n 2, 1) := by decide +kernel
theorem dJ9_floorMod_15 : decode cJ9_floorMod 15 = .ok (.iload_n 1, 1) := by decide +kernel
theorem dJ9_floorMod_16 : decode cJ9_floorMod 16 = .ok (.iadd, 1) := by decide +kernel
theorem dJ9_floorMod_17 : decode cJ9_floorMod 17 = .ok (.ireturn, 1) := by decide +kernel
theorem dJ9_floorMod_18 : decode cJ9_floorMod 18 = .ok (.iload_n 2, 1) := by decide +kernel
theorem dJ9_floorMod_19 : decode cJ9_floorMod 19 = .ok (.ireturn, 1) := by decide +kernel
end
section
theorem dJ9_min_0 : decode cJ9_min 0 = .ok (.iload_n 0, 1) := by decide +kernel
theorem dJ9_min_1 : decode cJ9_min 1 = .ok (.iload_n 1, 1) := by decide +kernel
theorem dJ9_min_2 : decode cJ9_min 2 = .ok (.if_icmp .gt 7, 3) := by decide +kernel
theorem dJ9_min_5 : decode cJ9_min 5 = .ok (.iload_n 0, 1) := by decide +kernel
theorem dJ9_min_6 : decode cJ9_min 6 = .ok (.goto 4, 3) := by decide +kernel
theorem dJ9_min_9 : decode cJ9_min 9 = .ok (.iload_n 1, 1) := by decide +kernel
theorem dJ9_min_10 : decode cJ9_min 10 = .ok (.ireturn, 1) := by decide +kernel
theorem dL_close_0 : decode cL_close 0 = .ok (.aload 7, 2) := by decide +kernel
theorem dL_close_2 : decode cL_close 2 = .ok (.iconst 0, 1) := by decide +kernel
theorem dL_close_3 : decode cL_close 3 = .ok (.aload_n 0, 1) := by decide +kernel
theorem dL_close_4 : decode cL_close 4 = .ok (.iload_n 1, 1) := by decide +kernel
theorem dL_close_5 : decode cL_close 5 = .ok (.iload_n 2, 1) := by decide +kernel
theorem dL_close_6 : decode cL_close 6 = .ok (.iload_n 3, 1) := by decide +kernel
theorem dL_close_7 : decode cL_close 7 = .ok (.iload 4, 2) := by decide +kernel
theorem dL_close_9 : decode cL_close 9 = .ok (.iload 5, 2) := by decide +kernel
theorem dL_close_11 : decode cL_close 11 = .ok (.iload 6, 2) := by decide +kernel
theorem dL_close_13 : decode cL_close 13 = .ok (.invokevirtual 7, 3) := by decide +kernel
theorem dL_close_16 : decode cL_close 16 = .ok (.i2l, 1) := by decide +kernel
theorem dL_close_17 : decode cL_close 17 = .ok (.lastore, 1) := by decide +kernel
theorem dL_close_18 : decode cL_close 18 = .ok (.goto 15, 3) := by decide +kernel
theorem dL_close_21 : decode cL_close 21 = .ok (.astore 8, 2) := by decide +kernel
theorem dL_close_23 : decode cL_close 23 = .ok (.iconst 1, 1) := by decide +kernel
theorem dL_close_24 : decode cL_close 24 = .ok (.ireturn, 1) := by decide +kernel
theorem dL_close_25 : decode cL_close 25 = .ok (.astore 8, 2) := by decide +kernel
theorem dL_close_27 : decode cL_close 27 = .ok (.iconst 2, 1) := by decide +kernel
theorem dL_close_28 : decode cL_close 28 = .ok (.ireturn, 1) := by decide +kernel
theorem dL_close_29 : decode cL_close 29 = .ok (.astore 8, 2) := by decide +kernel
theorem dL_close_31 : decode cL_close 31 = .ok (.iconst 3, 1) := by decide +kernel
theorem dL_close_32 : decode cL_close 32 = .ok (.ireturn, 1) := by decide +kernel
theorem dL_close_33 : decode cL_close 33 = .ok (.iconst 0, 1) := by decide +kernel
theorem dL_close_34 : decode cL_close 34 = .ok (.ireturn, 1) := by decide +kernel
theorem dL_answer_0 : decode cL_answer 0 = .ok (.aload_n 0, 1) := by decide +kernel
theorem dL_answer_1 : decode cL_answer 1 = .ok (.iload_n 1, 1) := by decide +kernel
theorem dL_answer_2 : decode cL_answer 2 = .ok (.iload_n 2, 1) := by decide +kernel
theorem dL_answer_3 : decode cL_answer 3 = .ok (.invokevirtual 19, 3) := by decide +kernel
theorem dL_answer_6 : decode cL_answer 6 = .ok (.goto 9, 3) := by decide +kernel
theorem dL_answer_9 : decode cL_answer 9 = .ok (.astore_n 3, 1) := by decide +kernel
theorem dL_answer_10 : decode cL_answer 10 = .ok (.iconst 1, 1) := by decide +kernel
theorem dL_answer_11 : decode cL_answer 11 = .ok (.ireturn, 1) := by decide +kernel
theorem dL_answer_12 : decode cL_answer 12 = .ok (.astore_n 3, 1) := by decide +kernel
theorem dL_answer_13 : decode cL_answer 13 = .ok (.iconst 2, 1) := by decide +kernel
theorem dL_answer_14 : decode cL_answer 14 = .ok (.ireturn, 1) := by decide +kernel
theorem dL_answer_15 : decode cL_answer 15 = .ok (.iconst 0, 1) := by decide +kernel
theorem dL_answer_16 : decode cL_answer 16 = .ok (.ireturn, 1) := by decide +kernel
theorem dL_lift_0 : decode cL_lift 0 = .ok (.aload_n 3, 1) := by decide +kernel
theorem dL_lift_1 : decode cL_lift 1 = .ok (.iconst 0, 1) := by decide +kernel
theorem dL_lift_2 : decode cL_lift 2 = .ok (.aload_n 0, 1) := by decide +kernel
theorem dL_lift_3 : decode cL_lift 3 = .ok (.iload_n 1, 1) := by decide +kernel
theorem dL_lift_4 : decode cL_lift 4 = .ok (.iload_n 2, 1) := by decide +kernel
theorem dL_lift_5 : decode cL_lift 5 = .ok (.invokevirtual 25, 3) := by decide +kernel
theorem dL_lift_8 : decode cL_lift 8 = .ok (.ifCond .eq 7, 3) := by decide +kernel
theorem dL_lift_11 : decode cL_lift 11 = .ok (.lconst 1, 1) := by decide +kernel
theorem dL_lift_12 : decode cL_lift 12 = .ok (.goto 4, 3) := by decide +kernel
theorem dL_lift_15 : decode cL_lift 15 = .ok (.lconst 0, 1) := by decide +kernel
theorem dL_lift_16 : decode cL_lift 16 = .ok (.lastore, 1) := by decide +kernel
theorem dL_lift_17 : decode cL_lift 17 = .ok (.goto 15, 3) := by decide +kernel
theorem dL_lift_20 : decode cL_lift 20 = .ok (.astore 4, 2) := by decide +kernel
theorem dL_lift_22 : decode cL_lift 22 = .ok (.iconst 1, 1) := by decide +kernel
theorem dL_lift_23 : decode cL_lift 23 = .ok (.ireturn, 1) := by decide +kernel
theorem dL_lift_24 : decode cL_lift 24 = .ok (.astore 4, 2) := by decide +kernel
theorem dL_lift_26 : decode cL_lift 26 = .ok (.iconst 2, 1) := by decide +kernel
theorem dL_lift_27 : decode cL_lift 27 = .ok (.ireturn, 1) := by decide +kernel
theorem dL_lift_28 : decode cL_lift 28 = .ok (.astore 4, 2) := by decide +kernel
theorem dL_lift_30 : decode cL_lift 30 = .ok (.iconst 3, 1) := by decide +kernel
theorem dL_lift_31 : decode cL_lift 31 = .ok (.ireturn, 1) := by decide +kernel
theorem dL_lift_32 : decode cL_lift 32 = .ok (.iconst 0, 1) := by decide +kernel
theorem dL_lift_33 : decode cL_lift 33 = .ok (.ireturn, 1) := by decide +kernel
theorem dL_incident_0 : decode cL_incident 0 = .ok (.aload_n 0, 1) := by decide +kernel
theorem dL_incident_1 : decode cL_incident 1 = .ok (.iload_n 1, 1) := by decide +kernel
theorem dL_incident_2 : decode cL_incident 2 = .ok (.iload_n 2, 1) := by decide +kernel
theorem dL_incident_3 : decode cL_incident 3 = .ok (.invokevirtual 29, 3) := by decide +kernel
theorem dL_incident_6 : decode cL_incident 6 = .ok (.goto 6, 3) := by decide +kernel
theorem dL_incident_9 : decode cL_incident 9 = .ok (.astore_n 3, 1) := by decide +kernel
theorem dL_incident_10 : decode cL_incident 10 = .ok (.iconst 1, 1) := by decide +kernel
theorem dL_incident_11 : decode cL_incident 11 = .ok (.ireturn, 1) := by decide +kernel
theorem dL_incident_12 : decode cL_incident 12 = .ok (.iconst 0, 1) := by decide +kernel
theorem dL_incident_13 : decode cL_incident 13 = .ok (.ireturn, 1) := by decide +kernel
theorem dL_step_0 : decode cL_step 0 = .ok (.aload 4, 2) := by decide +kernel
theorem dL_step_2 : decode cL_step 2 = .ok (.iconst 0, 1) := by decide +kernel
theorem dL_step_3 : decode cL_step 3 = .ok (.aload_n 0, 1) := by decide +kernel
theorem dL_step_4 : decode cL_step 4 = .ok (.iload_n 1, 1) := by decide +kernel
theorem dL_step_5 : decode cL_step 5 = .ok (.iload_n 2, 1) := by decide +kernel
theorem dL_step_6 : decode cL_step 6 = .ok (.iload_n 3, 1) := by decide +kernel
theorem dL_step_7 : decode cL_step 7 = .ok (.invokevirtual 32, 3) := by decide +kernel
theorem dL_step_10 : decode cL_step 10 = .ok (.i2l, 1) := by decide +kernel
theorem dL_step_11 : decode cL_step 11 = .ok (.lastore, 1) := by decide +kernel
theorem dL_step_12 : decode cL_step 12 = .ok (.goto 15, 3) := by decide +kernel
theorem dL_step_15 : decode cL_step 15 = .ok (.astore 5, 2) := by decide +kernel
theorem dL_step_17 : decode cL_step 17 = .ok (.iconst 1, 1) := by decide +kernel
theorem dL_step_18 : decode cL_step 18 = .ok (.ireturn, 1) := by decide +kernel
theorem dL_step_19 : decode cL_step 19 = .ok (.astore 5, 2) := by decide +kernel
theorem dL_step_21 : decode cL_step 21 = .ok (.iconst 2, 1) := by decide +kernel
theorem dL_step_22 : decode cL_step 22 = .ok (.ireturn, 1) := by decide +kernel
theorem dL_step_23 : decode cL_step 23 = .ok (.astore 5, 2) := by decide +kernel
theorem dL_step_25 : decode cL_step 25 = .ok (.iconst 3, 1) := by decide +kernel
theorem dL_step_26 : decode cL_step 26 = .ok (.ireturn, 1) := by decide +kernel
theorem dL_step_27 : decode cL_step 27 = .ok (.iconst 0, 1) := by decide +kernel
theorem dL_step_28 : decode cL_step 28 = .ok (.ireturn, 1) := by decide +kernel
theorem dL_tick_0 : decode cL_tick 0 = .ok (.aload_n 2, 1) := by decide +kernel
theorem dL_tick_1 : decode cL_tick 1 = .ok (.iconst 0, 1) := by decide +kernel
theorem dL_tick_2 : decode cL_tick 2 = .ok (.aload_n 0, 1) := by decide +kernel
theorem dL_tick_3 : decode cL_tick 3 = .ok (.iload_n 1, 1) := by decide +kernel
theorem dL_tick_4 : decode cL_tick 4 = .ok (.invokevirtual 36, 3) := by decide +kernel
theorem dL_tick_7 : decode cL_tick 7 = .ok (.i2l, 1) := by decide +kernel
theorem dL_tick_8 : decode cL_tick 8 = .ok (.lastore, 1) := by decide +kernel
theorem dL_tick_9 : decode cL_tick 9 = .ok (.goto 6, 3) := by decide +kernel
theorem dL_tick_12 : decode cL_tick 12 = .ok (.astore_n 3, 1) := by decide +kernel
theorem dL_tick_13 : decode cL_tick 13 = .ok (.iconst 1, 1) := by decide +kernel
theorem dL_tick_14 : decode cL_tick 14 = .ok (.ireturn, 1) := by decide +kernel
theorem dL_tick_15 : decode cL_tick 15 = .ok (.iconst 0, 1) := by decide +kernel
theorem dL_tick_16 : decode cL_tick 16 = .ok (.ireturn, 1) := by decide +kernel
theorem dL_closed_0 : decode cL_closed 0 = .ok (.aload 4, 2) := by decide +kernel
theorem dL_closed_2 : decode cL_closed 2 = .ok (.iconst 0, 1) := by decide +kernel
theorem dL_closed_3 : decode cL_closed 3 = .ok (.aload_n 0, 1) := by decide +kernel
theorem dL_closed_4 : decode cL_closed 4 = .ok (.iload_n 1, 1) := by decide +kernel
theorem dL_closed_5 : decode cL_closed 5 = .ok (.iload_n 2, 1) := by decide +kernel
theorem dL_closed_6 : decode cL_closed 6 = .ok (.iload_n 3, 1) := by decide +kernel
theorem dL_closed_7 : decode cL_closed 7 = .ok (.invokevirtual 40, 3) := by decide +kernel
theorem dL_closed_10 : decode cL_closed 10 = .ok (.ifCond .eq 7, 3) := by decide +kernel
theorem dL_closed_13 : decode cL_closed 13 = .ok (.lconst 1, 1) := by decide +kernel
theorem dL_closed_14 : decode cL_closed 14 = .ok (.goto 4, 3) := by decide +kernel
theorem dL_closed_17 : decode cL_closed 17 = .ok (.lconst 0, 1) := by decide +kernel
theorem dL_closed_18 : decode cL_closed 18 = .ok (.lastore, 1) := by decide +kernel
theorem dL_closed_19 : decode cL_closed 19 = .ok (.goto 11, 3) := by decide +kernel
theorem dL_closed_22 : decode cL_closed 22 = .ok (.astore 5, 2) := by decide +kernel
theorem dL_closed_24 : decode cL_closed 24 = .ok (.iconst 1, 1) := by decide +kernel
theorem dL_closed_25 : decode cL_closed 25 = .ok (.ireturn, 1) := by decide +kernel
theorem dL_closed_26 : decode cL_closed 26 = .ok (.astore 5, 2) := by decide +kernel
theorem dL_closed_28 : decode cL_closed 28 = .ok (.iconst 2, 1) := by decide +kernel
theorem dL_closed_29 : decode cL_closed 29 = .ok (.ireturn, 1) := by decide +kernel
theorem dL_closed_30 : decode cL_closed 30 = .ok (.iconst 0, 1) := by decide +kernel
theorem dL_closed_31 : decode cL_closed 31 = .ok (.ireturn, 1) := by decide +kernel
theorem dL_minutes_0 : decode cL_minutes 0 = .ok (.aload 5, 2) := by decide +kernel
theorem dL_minutes_2 : decode cL_minutes 2 = .ok (.iconst 0, 1) := by decide +kernel
theorem dL_minutes_3 : decode cL_minutes 3 = .ok (.aload_n 0, 1) := by decide +kernel
theorem dL_minutes_4 : decode cL_minutes 4 = .ok (.iload_n 1, 1) := by decide +kernel
theorem dL_minutes_5 : decode cL_minutes 5 = .ok (.iload_n 2, 1) := by decide +kernel
theorem dL_minutes_6 : decode cL_minutes 6 = .ok (.iload_n 3, 1) := by decide +kernel
theorem dL_minutes_7 : decode cL_minutes 7 = .ok (.iload 4, 2) := by decide +kernel
theorem dL_minutes_9 : decode cL_minutes 9 = .ok (.invokevirtual 44, 3) := by decide +kernel
theorem dL_minutes_12 : decode cL_minutes 12 = .ok (.i2l, 1) := by decide +kernel
theorem dL_minutes_13 : decode cL_minutes 13 = .ok (.lastore, 1) := by decide +kernel
theorem dL_minutes_14 : decode cL_minutes 14 = .ok (.goto 11, 3) := by decide +kernel
theorem dL_minutes_17 : decode cL_minutes 17 = .ok (.astore 6, 2) := by decide +kernel
theorem dL_minutes_19 : decode cL_minutes 19 = .ok (.iconst 1, 1) := by decide +kernel
theorem dL_minutes_20 : decode cL_minutes 20 = .ok (.ireturn, 1) := by decide +kernel
theorem dL_minutes_21 : decode cL_minutes 21 = .ok (.astore 6, 2) := by decide +kernel
theorem dL_minutes_23 : decode cL_minutes 23 = .ok (.iconst 2, 1) := by decide +kernel
theorem dL_minutes_24 : decode cL_minutes 24 = .ok (.ireturn, 1) := by decide +kernel
theorem dL_minutes_25 : decode cL_minutes 25 = .ok (.iconst 0, 1) := by decide +kernel
theorem dL_minutes_26 : decode cL_minutes 26 = .ok (.ireturn, 1) := by decide +kernel
theorem dL_opens_0 : decode cL_opens 0 = .ok (.aload 4, 2) := by decide +kernel
theorem dL_opens_2 : decode cL_opens 2 = .ok (.iconst 0, 1) := by decide +kernel
theorem dL_opens_3 : decode cL_opens 3 = .ok (.aload_n 0, 1) := by decide +kernel
theorem dL_opens_4 : decode cL_opens 4 = .ok (.iload_n 1, 1) := by decide +kernel
theorem dL_opens_5 : decode cL_opens 5 = .ok (.iload_n 2, 1) := by decide +kernel
theorem dL_opens_6 : decode cL_opens 6 = .ok (.iload_n 3, 1) := by decide +kernel
theorem dL_opens_7 : decode cL_opens 7 = .ok (.invokevirtual 48, 3) := by decide +kernel
theorem dL_opens_10 : decode cL_opens 10 = .ok (.i2l, 1) := by decide +kernel
theorem dL_opens_11 : decode cL_opens 11 = .ok (.lastore, 1) := by decide +kernel
theorem dL_opens_12 : decode cL_opens 12 = .ok (.goto 11, 3) := by decide +kernel
theorem dL_opens_15 : decode cL_opens 15 = .ok (.astore 5, 2) := by decide +kernel
theorem dL_opens_17 : decode cL_opens 17 = .ok (.iconst 1, 1) := by decide +kernel
theorem dL_opens_18 : decode cL_opens 18 = .ok (.ireturn, 1) := by decide +kernel
theorem dL_opens_19 : decode cL_opens 19 = .ok (.astore 5, 2) := by decide +kernel
theorem dL_opens_21 : decode cL_opens 21 = .ok (.iconst 2, 1) := by decide +kernel
theorem dL_opens_22 : decode cL_opens 22 = .ok (.ireturn, 1) := by decide +kernel
theorem dL_opens_23 : decode cL_opens 23 = .ok (.iconst 0, 1) := by decide +kernel
theorem dL_opens_24 : decode cL_opens 24 = .ok (.ireturn, 1) := by decide +kernel
theorem dL_reason_0 : decode cL_reason 0 = .ok (.aload 5, 2) := by decide +kernel
theorem dL_reason_2 : decode cL_reason 2 = .ok (.iconst 0, 1) := by decide +kernel
theorem dL_reason_3 : decode cL_reason 3 = .ok (.aload_n 0, 1) := by decide +kernel
theorem dL_reason_4 : decode cL_reason 4 = .ok (.iload_n 1, 1) := by decide +kernel
theorem dL_reason_5 : decode cL_reason 5 = .ok (.iload_n 2, 1) := by decide +kernel
theorem dL_reason_6 : decode cL_reason 6 = .ok (.iload_n 3, 1) := by decide +kernel
theorem dL_reason_7 : decode cL_reason 7 = .ok (.iload 4, 2) := by decide +kernel
theorem dL_reason_9 : decode cL_reason 9 = .ok (.invokevirtual 51, 3) := by decide +kernel
theorem dL_reason_12 : decode cL_reason 12 = .ok (.i2l, 1) := by decide +kernel
theorem dL_reason_13 : decode cL_reason 13 = .ok (.lastore, 1) := by decide +kernel
theorem dL_reason_14 : decode cL_reason 14 = .ok (.goto 11, 3) := by decide +kernel
theorem dL_reason_17 : decode cL_reason 17 = .ok (.astore 6, 2) := by decide +kernel
theorem dL_reason_19 : decode cL_reason 19 = .ok (.iconst 1, 1) := by decide +kernel
theorem dL_reason_20 : decode cL_reason 20 = .ok (.ireturn, 1) := by decide +kernel
theorem dL_reason_21 : decode cL_reason 21 = .ok (.astore 6, 2) := by decide +kernel
theorem dL_reason_23 : decode cL_reason 23 = .ok (.iconst 2, 1) := by decide +kernel
theorem dL_reason_24 : decode cL_reason 24 = .ok (.ireturn, 1) := by decide +kernel
theorem dL_reason_25 : decode cL_reason 25 = .ok (.iconst 0, 1) := by decide +kernel
theorem dL_reason_26 : decode cL_reason 26 = .ok (.ireturn, 1) := by decide +kernel
theorem dL_speed_0 : decode cL_speed 0 = .ok (.aload 4, 2) := by decide +kernel
theorem dL_speed_2 : decode cL_speed 2 = .ok (.iconst 0, 1) := by decide +kernel
theorem dL_speed_3 : decode cL_speed 3 = .ok (.aload_n 0, 1) := by decide +kernel
theorem dL_speed_4 : decode cL_speed 4 = .ok (.iload_n 1, 1) := by decide +kernel
theorem dL_speed_5 : decode cL_speed 5 = .ok (.iload_n 2, 1) := by decide +kernel
theorem dL_speed_6 : decode cL_speed 6 = .ok (.iload_n 3, 1) := by decide +kernel
theorem dL_speed_7 : decode cL_speed 7 = .ok (.invokevirtual 54, 3) := by decide +kernel
theorem dL_speed_10 : decode cL_speed 10 = .ok (.i2l, 1) := by decide +kernel
theorem dL_speed_11 : decode cL_speed 11 = .ok (.lastore, 1) := by decide +kernel
theorem dL_speed_12 : decode cL_speed 12 = .ok (.goto 11, 3) := by decide +kernel
theorem dL_speed_15 : decode cL_speed 15 = .ok (.astore 5, 2) := by decide +kernel
theorem dL_speed_17 : decode cL_speed 17 = .ok (.iconst 1, 1) := by decide +kernel
theorem dL_speed_18 : decode cL_speed 18 = .ok (.ireturn, 1) := by decide +kernel
theorem dL_speed_19 : decode cL_speed 19 = .ok (.astore 5, 2) := by decide +kernel
theorem dL_speed_21 : decode cL_speed 21 = .ok (.iconst 2, 1) := by decide +kernel
theorem dL_speed_22 : decode cL_speed 22 = .ok (.ireturn, 1) := by decide +kernel
theorem dL_speed_23 : decode cL_speed 23 = .ok (.iconst 0, 1) := by decide +kernel
theorem dL_speed_24 : decode cL_speed 24 = .ok (.ireturn, 1) := by decide +kernel
theorem dL_notice_0 : decode cL_notice 0 = .ok (.aload_n 3, 1) := by decide +kernel
theorem dL_notice_1 : decode cL_notice 1 = .ok (.iconst 0, 1) := by decide +kernel
theorem dL_notice_2 : decode cL_notice 2 = .ok (.aload_n 0, 1) := by decide +kernel
theorem dL_notice_3 : decode cL_notice 3 = .ok (.iload_n 1, 1) := by decide +kernel
theorem dL_notice_4 : decode cL_notice 4 = .ok (.iload_n 2, 1) := by decide +kernel
theorem dL_notice_5 : decode cL_notice 5 = .ok (.invokevirtual 57, 3) := by decide +kernel
theorem dL_notice_8 : decode cL_notice 8 = .ok (.i2l, 1) := by decide +kernel
theorem dL_notice_9 : decode cL_notice 9 = .ok (.lastore, 1) := by decide +kernel
theorem dL_notice_10 : decode cL_notice 10 = .ok (.goto 7, 3) := by decide +kernel
theorem dL_notice_13 : decode cL_notice 13 = .ok (.astore 4, 2) := by decide +kernel
theorem dL_notice_15 : decode cL_notice 15 = .ok (.iconst 1, 1) := by decide +kernel
theorem dL_notice_16 : decode cL_notice 16 = .ok (.ireturn, 1) := by decide +kernel
theorem dL_notice_17 : decode cL_notice 17 = .ok (.iconst 0, 1) := by decide +kernel
theorem dL_notice_18 : decode cL_notice 18 = .ok (.ireturn, 1) := by decide +kernel
theorem dL_blocked_0 : decode cL_blocked 0 = .ok (.aload_n 2, 1) := by decide +kernel
theorem dL_blocked_1 : decode cL_blocked 1 = .ok (.iconst 0, 1) := by decide +kernel
theorem dL_blocked_2 : decode cL_blocked 2 = .ok (.aload_n 0, 1) := by decide +kernel
theorem dL_blocked_3 : decode cL_blocked 3 = .ok (.iload_n 1, 1) := by decide +kernel
theorem dL_blocked_4 : decode cL_blocked 4 = .ok (.invokevirtual 61, 3) := by decide +kernel
theorem dL_blocked_7 : decode cL_blocked 7 = .ok (.i2l, 1) := by decide +kernel
theorem dL_blocked_8 : decode cL_blocked 8 = .ok (.lastore, 1) := by decide +kernel
theorem dL_blocked_9 : decode cL_blocked 9 = .ok (.goto 6, 3) := by decide +kernel
theorem dL_blocked_12 : decode cL_blocked 12 = .ok (.astore_n 3, 1) := by decide +kernel
theorem dL_blocked_13 : decode cL_blocked 13 = .ok (.iconst 1, 1) := by decide +kernel
theorem dL_blocked_14 : decode cL_blocked 14 = .ok (.ireturn, 1) := by decide +kernel
theorem dL_blocked_15 : decode cL_blocked 15 = .ok (.iconst 0, 1) := by decide +kernel
theorem dL_blocked_16 : decode cL_blocked 16 = .ok (.ireturn, 1) := by decide +kernel
end
section
theorem dL_law_0 : decode cL_law 0 = .ok (.new 8, 3) := by decide +kernel
theorem dL_law_3 : decode cL_law 3 = .ok (.dup, 1) := by decide +kernel
theorem dL_law_4 : decode cL_law 4 = .ok (.invokespecial 64, 3) := by decide +kernel
theorem dL_law_7 : decode cL_law 7 = .ok (.astore_n 1, 1) := by decide +kernel
theorem dL_law_8 : decode cL_law 8 = .ok (.new 65, 3) := by decide +kernel
theorem dL_law_11 : decode cL_law 11 = .ok (.dup, 1) := by decide +kernel
theorem dL_law_12 : decode cL_law 12 = .ok (.invokespecial 67, 3) := by decide +kernel
theorem dL_law_15 : decode cL_law 15 = .ok (.astore_n 2, 1) := by decide +kernel
theorem dL_law_16 : decode cL_law 16 = .ok (.iconst 1, 1) := by decide +kernel
theorem dL_law_17 : decode cL_law 17 = .ok (.newarray .long, 2) := by decide +kernel
theorem dL_law_19 : decode cL_law 19 = .ok (.astore_n 3, 1) := by decide +kernel
theorem dL_law_20 : decode cL_law 20 = .ok (.iconst 0, 1) := by decide +kernel
theorem dL_law_21 : decode cL_law 21 = .ok (.istore 4, 2) := by decide +kernel
theorem dL_law_23 : decode cL_law 23 = .ok (.iload 4, 2) := by decide +kernel
theorem dL_law_25 : decode cL_law 25 = .ok (.aload_n 0, 1) := by decide +kernel
theorem dL_law_26 : decode cL_law 26 = .ok (.arraylength, 1) := by decide +kernel
theorem dL_law_27 : decode cL_law 27 = .ok (.bipush 7, 2) := by decide +kernel
theorem dL_law_29 : decode cL_law 29 = .ok (.isub, 1) := by decide +kernel
theorem dL_law_30 : decode cL_law 30 = .ok (.if_icmp .gt 1113, 3) := by decide +kernel
theorem dL_law_33 : decode cL_law 33 = .ok (.aload_n 0, 1) := by decide +kernel
theorem dL_law_34 : decode cL_law 34 = .ok (.iload 4, 2) := by decide +kernel
theorem dL_law_36 : decode cL_law 36 = .ok (.iaload, 1) := by decide +kernel
theorem dL_law_37 : decode cL_law 37 = .ok (.bipush 15, 2) := by decide +kernel
theorem dL_law_39 : decode cL_law 39 = .ok (.iand, 1) := by decide +kernel
theorem dL_law_40 : decode cL_law 40 = .ok (.tableswitch 1097 0 13 #[72, 190, 254, 329, 393, 473, 529, 542, 629, 721, 801, 893, 973, 1041], 72) := by decide +kernel
theorem dL_law_112 : decode cL_law 112 = .ok (.aload_n 1, 1) := by decide +kernel
theorem dL_law_113 : decode cL_law 113 = .ok (.aload_n 0, 1) := by decide +kernel
theorem dL_law_114 : decode cL_law 114 = .ok (.iload 4, 2) := by decide +kernel
theorem dL_law_116 : decode cL_law 116 = .ok (.iconst 1, 1) := by decide +kernel
theorem dL_law_117 : decode cL_law 117 = .ok (.iadd, 1) := by decide +kernel
theorem dL_law_118 : decode cL_law 118 = .ok (.iaload, 1) := by decide +kernel
theorem dL_law_119 : decode cL_law 119 = .ok (.aload_n 0, 1) := by decide +kernel
theorem dL_law_120 : decode cL_law 120 = .ok (.iload 4, 2) := by decide +kernel
theorem dL_law_122 : decode cL_law 122 = .ok (.iconst 2, 1) := by decide +kernel
theorem dL_law_123 : decode cL_law 123 = .ok (.iadd, 1) := by decide +kernel
theorem dL_law_124 : decode cL_law 124 = .ok (.iaload, 1) := by decide +kernel
theorem dL_law_125 : decode cL_law 125 = .ok (.aload_n 0, 1) := by decide +kernel
theorem dL_law_126 : decode cL_law 126 = .ok (.iload 4, 2) := by decide +kernel
theorem dL_law_128 : decode cL_law 128 = .ok (.iconst 3, 1) := by decide +kernel
theorem dL_law_129 : decode cL_law 129 = .ok (.iadd, 1) := by decide +kernel
theorem dL_law_130 : decode cL_law 130 = .ok (.iaload, 1) := by decide +kernel
theorem dL_law_131 : decode cL_law 131 = .ok (.aload_n 0, 1) := by decide +kernel
theorem dL_law_132 : decode cL_law 132 = .ok (.iload 4, 2) := by decide +kernel
theorem dL_law_134 : decode cL_law 134 = .ok (.iconst 4, 1) := by decide +kernel
theorem dL_law_135 : decode cL_law 135 = .ok (.iadd, 1) := by decide +kernel
theorem dL_law_136 : decode cL_law 136 = .ok (.iaload, 1) := by decide +kernel
theorem dL_law_137 : decode cL_law 137 = .ok (.aload_n 0, 1) := by decide +kernel
theorem dL_law_138 : decode cL_law 138 = .ok (.iload 4, 2) := by decide +kernel
theorem dL_law_140 : decode cL_law 140 = .ok (.iconst 5, 1) := by decide +kernel
theorem dL_law_141 : decode cL_law 141 = .ok (.iadd, 1) := by decide +kernel
theorem dL_law_142 : decode cL_law 142 = .ok (.iaload, 1) := by decide +kernel
theorem dL_law_143 : decode cL_law 143 = .ok (.aload_n 0, 1) := by decide +kernel
theorem dL_law_144 : decode cL_law 144 = .ok (.iload 4, 2) := by decide +kernel
theorem dL_law_146 : decode cL_law 146 = .ok (.bipush 6, 2) := by decide +kernel
theorem dL_law_148 : decode cL_law 148 = .ok (.iadd, 1) := by decide +kernel
theorem dL_law_149 : decode cL_law 149 = .ok (.iaload, 1) := by decide +kernel
theorem dL_law_150 : decode cL_law 150 = .ok (.aload_n 3, 1) := by decide +kernel
theorem dL_law_151 : decode cL_law 151 = .ok (.invokestatic 68, 3) := by decide +kernel
theorem dL_law_154 : decode cL_law 154 = .ok (.istore 5, 2) := by decide +kernel
theorem dL_law_156 : decode cL_law 156 = .ok (.aload_n 2, 1) := by decide +kernel
theorem dL_law_157 : decode cL_law 157 = .ok (.aload_n 0, 1) := by decide +kernel
theorem dL_law_158 : decode cL_law 158 = .ok (.iload 4, 2) := by decide +kernel
theorem dL_law_160 : decode cL_law 160 = .ok (.iconst 1, 1) := by decide +kernel
theorem dL_law_161 : decode cL_law 161 = .ok (.iadd, 1) := by decide +kernel
theorem dL_law_162 : decode cL_law 162 = .ok (.iaload, 1) := by decide +kernel
theorem dL_law_163 : decode cL_law 163 = .ok (.aload_n 0, 1) := by decide +kernel
theorem dL_law_164 : decode cL_law 164 = .ok (.iload 4, 2) := by decide +kernel
theorem dL_law_166 : decode cL_law 166 = .ok (.iconst 2, 1) := by decide +kernel
theorem dL_law_167 : decode cL_law 167 = .ok (.iadd, 1) := by decide +kernel
theorem dL_law_168 : decode cL_law 168 = .ok (.iaload, 1) := by decide +kernel
theorem dL_law_169 : decode cL_law 169 = .ok (.aload_n 0, 1) := by decide +kernel
theorem dL_law_170 : decode cL_law 170 = .ok (.iload 4, 2) := by decide +kernel
theorem dL_law_172 : decode cL_law 172 = .ok (.iconst 3, 1) := by decide +kernel
theorem dL_law_173 : decode cL_law 173 = .ok (.iadd, 1) := by decide +kernel
theorem dL_law_174 : decode cL_law 174 = .ok (.iaload, 1) := by decide +kernel
theorem dL_law_175 : decode cL_law 175 = .ok (.aload_n 0, 1) := by decide +kernel
theorem dL_law_176 : decode cL_law 176 = .ok (.iload 4, 2) := by decide +kernel
theorem dL_law_178 : decode cL_law 178 = .ok (.iconst 4, 1) := by decide +kernel
theorem dL_law_179 : decode cL_law 179 = .ok (.iadd, 1) := by decide +kernel
theorem dL_law_180 : decode cL_law 180 = .ok (.iaload, 1) := by decide +kernel
theorem dL_law_181 : decode cL_law 181 = .ok (.aload_n 0, 1) := by decide +kernel
theorem dL_law_182 : decode cL_law 182 = .ok (.iload 4, 2) := by decide +kernel
theorem dL_law_184 : decode cL_law 184 = .ok (.iconst 5, 1) := by decide +kernel
theorem dL_law_185 : decode cL_law 185 = .ok (.iadd, 1) := by decide +kernel
theorem dL_law_186 : decode cL_law 186 = .ok (.iaload, 1) := by decide +kernel
theorem dL_law_187 : decode cL_law 187 = .ok (.aload_n 0, 1) := by decide +kernel
theorem dL_law_188 : decode cL_law 188 = .ok (.iload 4, 2) := by decide +kernel
theorem dL_law_190 : decode cL_law 190 = .ok (.bipush 6, 2) := by decide +kernel
theorem dL_law_192 : decode cL_law 192 = .ok (.iadd, 1) := by decide +kernel
theorem dL_law_193 : decode cL_law 193 = .ok (.iaload, 1) := by decide +kernel
theorem dL_law_194 : decode cL_law 194 = .ok (.invokevirtual 73, 3) := by decide +kernel
theorem dL_law_197 : decode cL_law 197 = .ok (.istore 6, 2) := by decide +kernel
theorem dL_law_199 : decode cL_law 199 = .ok (.aload_n 2, 1) := by decide +kernel
theorem dL_law_200 : decode cL_law 200 = .ok (.invokevirtual 74, 3) := by decide +kernel
theorem dL_law_203 : decode cL_law 203 = .ok (.iload 5, 2) := by decide +kernel
theorem dL_law_205 : decode cL_law 205 = .ok (.if_icmp .eq 5, 3) := by decide +kernel
theorem dL_law_208 : decode cL_law 208 = .ok (.iconst 0, 1) := by decide +kernel
theorem dL_law_209 : decode cL_law 209 = .ok (.ireturn, 1) := by decide +kernel
theorem dL_law_210 : decode cL_law 210 = .ok (.iload 5, 2) := by decide +kernel
theorem dL_law_212 : decode cL_law 212 = .ok (.ifCond .ne 15, 3) := by decide +kernel
theorem dL_law_215 : decode cL_law 215 = .ok (.aload_n 3, 1) := by decide +kernel
theorem dL_law_216 : decode cL_law 216 = .ok (.iconst 0, 1) := by decide +kernel
theorem dL_law_217 : decode cL_law 217 = .ok (.laload, 1) := by decide +kernel
theorem dL_law_218 : decode cL_law 218 = .ok (.iload 6, 2) := by decide +kernel
theorem dL_law_220 : decode cL_law 220 = .ok (.i2l, 1) := by decide +kernel
theorem dL_law_221 : decode cL_law 221 = .ok (.lcmp, 1) := by decide +kernel
theorem dL_law_222 : decode cL_law 222 = .ok (.ifCond .eq 5, 3) := by decide +kernel
theorem dL_law_225 : decode cL_law 225 = .ok (.iconst 0, 1) := by decide +kernel
theorem dL_law_226 : decode cL_law 226 = .ok (.ireturn, 1) := by decide +kernel
theorem dL_law_227 : decode cL_law 227 = .ok (.goto 910, 3) := by decide +kernel
theorem dL_law_230 : decode cL_law 230 = .ok (.aload_n 1, 1) := by decide +kernel
theorem dL_law_231 : decode cL_law 231 = .ok (.aload_n 0, 1) := by decide +kernel
theorem dL_law_232 : decode cL_law 232 = .ok (.iload 4, 2) := by decide +kernel
theorem dL_law_234 : decode cL_law 234 = .ok (.iconst 1, 1) := by decide +kernel
theorem dL_law_235 : decode cL_law 235 = .ok (.iadd, 1) := by decide +kernel
theorem dL_law_236 : decode cL_law 236 = .ok (.iaload, 1) := by decide +kernel
theorem dL_law_237 : decode cL_law 237 = .ok (.aload_n 0, 1) := by decide +kernel
theorem dL_law_238 : decode cL_law 238 = .ok (.iload 4, 2) := by decide +kernel
theorem dL_law_240 : decode cL_law 240 = .ok (.iconst 2, 1) := by decide +kernel
theorem dL_law_241 : decode cL_law 241 = .ok (.iadd, 1) := by decide +kernel
theorem dL_law_242 : decode cL_law 242 = .ok (.iaload, 1) := by decide +kernel
theorem dL_law_243 : decode cL_law 243 = .ok (.ifCond .eq 7, 3) := by decide +kernel
theorem dL_law_246 : decode cL_law 246 = .ok (.iconst 1, 1) := by decide +kernel
theorem dL_law_247 : decode cL_law 247 = .ok (.goto 4, 3) := by decide +kernel
theorem dL_law_250 : decode cL_law 250 = .ok (.iconst 0, 1) := by decide +kernel
theorem dL_law_251 : decode cL_law 251 = .ok (.invokestatic 78, 3) := by decide +kernel
theorem dL_law_254 : decode cL_law 254 = .ok (.istore 5, 2) := by decide +kernel
theorem dL_law_256 : decode cL_law 256 = .ok (.aload_n 2, 1) := by decide +kernel
theorem dL_law_257 : decode cL_law 257 = .ok (.aload_n 0, 1) := by decide +kernel
theorem dL_law_258 : decode cL_law 258 = .ok (.iload 4, 2) := by decide +kernel
theorem dL_law_260 : decode cL_law 260 = .ok (.iconst 1, 1) := by decide +kernel
theorem dL_law_261 : decode cL_law 261 = .ok (.iadd, 1) := by decide +kernel
theorem dL_law_262 : decode cL_law 262 = .ok (.iaload, 1) := by decide +kernel
theorem dL_law_263 : decode cL_law 263 = .ok (.aload_n 0, 1) := by decide +kernel
theorem dL_law_264 : decode cL_law 264 = .ok (.iload 4, 2) := by decide +kernel
theorem dL_law_266 : decode cL_law 266 = .ok (.iconst 2, 1) := by decide +kernel
theorem dL_law_267 : decode cL_law 267 = .ok (.iadd, 1) := by decide +kernel
theorem dL_law_268 : decode cL_law 268 = .ok (.iaload, 1) := by decide +kernel
theorem dL_law_269 : decode cL_law 269 = .ok (.ifCond .eq 7, 3) := by decide +kernel
theorem dL_law_272 : decode cL_law 272 = .ok (.iconst 1, 1) := by decide +kernel
theorem dL_law_273 : decode cL_law 273 = .ok (.goto 4, 3) := by decide +kernel
theorem dL_law_276 : decode cL_law 276 = .ok (.iconst 0, 1) := by decide +kernel
theorem dL_law_277 : decode cL_law 277 = .ok (.invokevirtual 81, 3) := by decide +kernel
theorem dL_law_280 : decode cL_law 280 = .ok (.aload_n 2, 1) := by decide +kernel
theorem dL_law_281 : decode cL_law 281 = .ok (.invokevirtual 74, 3) := by decide +kernel
theorem dL_law_284 : decode cL_law 284 = .ok (.iload 5, 2) := by decide +kernel
theorem dL_law_286 : decode cL_law 286 = .ok (.if_icmp .eq 5, 3) := by decide +kernel
theorem dL_law_289 : decode cL_law 289 = .ok (.iconst 0, 1) := by decide +kernel
theorem dL_law_290 : decode cL_law 290 = .ok (.ireturn, 1) := by decide +kernel
theorem dL_law_291 : decode cL_law 291 = .ok (.goto 846, 3) := by decide +kernel
theorem dL_law_294 : decode cL_law 294 = .ok (.aload_n 1, 1) := by decide +kernel
theorem dL_law_295 : decode cL_law 295 = .ok (.aload_n 0, 1) := by decide +kernel
theorem dL_law_296 : decode cL_law 296 = .ok (.iload 4, 2) := by decide +kernel
theorem dL_law_298 : decode cL_law 298 = .ok (.iconst 1, 1) := by decide +kernel
theorem dL_law_299 : decode cL_law 299 = .ok (.iadd, 1) := by decide +kernel
theorem dL_law_300 : decode cL_law 300 = .ok (.iaload, 1) := by decide +kernel
theorem dL_law_301 : decode cL_law 301 = .ok (.aload_n 0, 1) := by decide +kernel
theorem dL_law_302 : decode cL_law 302 = .ok (.iload 4, 2) := by decide +kernel
theorem dL_law_304 : decode cL_law 304 = .ok (.iconst 2, 1) := by decide +kernel
theorem dL_law_305 : decode cL_law 305 = .ok (.iadd, 1) := by decide +kernel
theorem dL_law_306 : decode cL_law 306 = .ok (.iaload, 1) := by decide +kernel
theorem dL_law_307 : decode cL_law 307 = .ok (.aload_n 3, 1) := by decide +kernel
theorem dL_law_308 : decode cL_law 308 = .ok (.invokestatic 82, 3) := by decide +kernel
theorem dL_law_311 : decode cL_law 311 = .ok (.istore 5, 2) := by decide +kernel
theorem dL_law_313 : decode cL_law 313 = .ok (.aload_n 2, 1) := by decide +kernel
theorem dL_law_314 : decode cL_law 314 = .ok (.aload_n 0, 1) := by decide +kernel
theorem dL_law_315 : decode cL_law 315 = .ok (.iload 4, 2) := by decide +kernel
theorem dL_law_317 : decode cL_law 317 = .ok (.iconst 1, 1) := by decide +kernel
theorem dL_law_318 : decode cL_law 318 = .ok (.iadd, 1) := by decide +kernel
theorem dL_law_319 : decode cL_law 319 = .ok (.iaload, 1) := by decide +kernel
theorem dL_law_320 : decode cL_law 320 = .ok (.aload_n 0, 1) := by decide +kernel
theorem dL_law_321 : decode cL_law 321 = .ok (.iload 4, 2) := by decide +kernel
theorem dL_law_323 : decode cL_law 323 = .ok (.iconst 2, 1) := by decide +kernel
theorem dL_law_324 : decode cL_law 324 = .ok (.iadd, 1) := by decide +kernel
theorem dL_law_325 : decode cL_law 325 = .ok (.iaload, 1) := by decide +kernel
theorem dL_law_326 : decode cL_law 326 = .ok (.invokevirtual 85, 3) := by decide +kernel
theorem dL_law_329 : decode cL_law 329 = .ok (.istore 6, 2) := by decide +kernel
theorem dL_law_331 : decode cL_law 331 = .ok (.aload_n 2, 1) := by decide +kernel
theorem dL_law_332 : decode cL_law 332 = .ok (.invokevirtual 74, 3) := by decide +kernel
theorem dL_law_335 : decode cL_law 335 = .ok (.iload 5, 2) := by decide +kernel
theorem dL_law_337 : decode cL_law 337 = .ok (.if_icmp .eq 5, 3) := by decide +kernel
theorem dL_law_340 : decode cL_law 340 = .ok (.iconst 0, 1) := by decide +kernel
theorem dL_law_341 : decode cL_law 341 = .ok (.ireturn, 1) := by decide +kernel
theorem dL_law_342 : decode cL_law 342 = .ok (.iload 5, 2) := by decide +kernel
theorem dL_law_344 : decode cL_law 344 = .ok (.ifCond .ne 22, 3) := by decide +kernel
theorem dL_law_347 : decode cL_law 347 = .ok (.aload_n 3, 1) := by decide +kernel
theorem dL_law_348 : decode cL_law 348 = .ok (.iconst 0, 1) := by decide +kernel
theorem dL_law_349 : decode cL_law 349 = .ok (.laload, 1) := by decide +kernel
theorem dL_law_350 : decode cL_law 350 = .ok (.iload 6, 2) := by decide +kernel
theorem dL_law_352 : decode cL_law 352 = .ok (.ifCond .eq 7, 3) := by decide +kernel
theorem dL_law_355 : decode cL_law 355 = .ok (.lconst 1, 1) := by decide +kernel
theorem dL_law_356 : decode cL_law 356 = .ok (.goto 4, 3) := by decide +kernel
theorem dL_law_359 : decode cL_law 359 = .ok (.lconst 0, 1) := by decide +kernel
theorem dL_law_360 : decode cL_law 360 = .ok (.lcmp, 1) := by decide +kernel
theorem dL_law_361 : decode cL_law 361 = .ok (.ifCond .eq 5, 3) := by decide +kernel
theorem dL_law_364 : decode cL_law 364 = .ok (.iconst 0, 1) := by decide +kernel
theorem dL_law_365 : decode cL_law 365 = .ok (.ireturn, 1) := by decide +kernel
theorem dL_law_366 : decode cL_law 366 = .ok (.goto 771, 3) := by decide +kernel
theorem dL_law_369 : decode cL_law 369 = .ok (.aload_n 1, 1) := by decide +kernel
theorem dL_law_370 : decode cL_law 370 = .ok (.aload_n 0, 1) := by decide +kernel
theorem dL_law_371 : decode cL_law 371 = .ok (.iload 4, 2) := by decide +kernel
theorem dL_law_373 : decode cL_law 373 = .ok (.iconst 1, 1) := by decide +kernel
theorem dL_law_374 : decode cL_law 374 = .ok (.iadd, 1) := by decide +kernel
theorem dL_law_375 : decode cL_law 375 = .ok (.iaload, 1) := by decide +kernel
theorem dL_law_376 : decode cL_law 376 = .ok (.aload_n 0, 1) := by decide +kernel
theorem dL_law_377 : decode cL_law 377 = .ok (.iload 4, 2) := by decide +kernel
theorem dL_law_379 : decode cL_law 379 = .ok (.iconst 2, 1) := by decide +kernel
theorem dL_law_380 : decode cL_law 380 = .ok (.iadd, 1) := by decide +kernel
theorem dL_law_381 : decode cL_law 381 = .ok (.iaload, 1) := by decide +kernel
theorem dL_law_382 : decode cL_law 382 = .ok (.ifCond .eq 7, 3) := by decide +kernel
theorem dL_law_385 : decode cL_law 385 = .ok (.iconst 1, 1) := by decide +kernel
theorem dL_law_386 : decode cL_law 386 = .ok (.goto 4, 3) := by decide +kernel
theorem dL_law_389 : decode cL_law 389 = .ok (.iconst 0, 1) := by decide +kernel
theorem dL_law_390 : decode cL_law 390 = .ok (.invokestatic 86, 3) := by decide +kernel
theorem dL_law_393 : decode cL_law 393 = .ok (.istore 5, 2) := by decide +kernel
theorem dL_law_395 : decode cL_law 395 = .ok (.aload_n 2, 1) := by decide +kernel
theorem dL_law_396 : decode cL_law 396 = .ok (.aload_n 0, 1) := by decide +kernel
theorem dL_law_397 : decode cL_law 397 = .ok (.iload 4, 2) := by decide +kernel
theorem dL_law_399 : decode cL_law 399 = .ok (.iconst 1, 1) := by decide +kernel
theorem dL_law_400 : decode cL_law 400 = .ok (.iadd, 1) := by decide +kernel
theorem dL_law_401 : decode cL_law 401 = .ok (.iaload, 1) := by decide +kernel
theorem dL_law_402 : decode cL_law 402 = .ok (.aload_n 0, 1) := by decide +kernel
theorem dL_law_403 : decode cL_law 403 = .ok (.iload 4, 2) := by decide +kernel
theorem dL_law_405 : decode cL_law 405 = .ok (.iconst 2, 1) := by decide +kernel
theorem dL_law_406 : decode cL_law 406 = .ok (.iadd, 1) := by decide +kernel
theorem dL_law_407 : decode cL_law 407 = .ok (.iaload, 1) := by decide +kernel
theorem dL_law_408 : decode cL_law 408 = .ok (.ifCond .eq 7, 3) := by decide +kernel
theorem dL_law_411 : decode cL_law 411 = .ok (.iconst 1, 1) := by decide +kernel
theorem dL_law_412 : decode cL_law 412 = .ok (.goto 4, 3) := by decide +kernel
theorem dL_law_415 : decode cL_law 415 = .ok (.iconst 0, 1) := by decide +kernel
theorem dL_law_416 : decode cL_law 416 = .ok (.invokevirtual 88, 3) := by decide +kernel
theorem dL_law_419 : decode cL_law 419 = .ok (.aload_n 2, 1) := by decide +kernel
theorem dL_law_420 : decode cL_law 420 = .ok (.invokevirtual 74, 3) := by decide +kernel
theorem dL_law_423 : decode cL_law 423 = .ok (.iload 5, 2) := by decide +kernel
theorem dL_law_425 : decode cL_law 425 = .ok (.if_icmp .eq 5, 3) := by decide +kernel
theorem dL_law_428 : decode cL_law 428 = .ok (.iconst 0, 1) := by decide +kernel
theorem dL_law_429 : decode cL_law 429 = .ok (.ireturn, 1) := by decide +kernel
theorem dL_law_430 : decode cL_law 430 = .ok (.goto 707, 3) := by decide +kernel
theorem dL_law_433 : decode cL_law 433 = .ok (.aload_n 1, 1) := by decide +kernel
theorem dL_law_434 : decode cL_law 434 = .ok (.aload_n 0, 1) := by decide +kernel
theorem dL_law_435 : decode cL_law 435 = .ok (.iload 4, 2) := by decide +kernel
theorem dL_law_437 : decode cL_law 437 = .ok (.iconst 1, 1) := by decide +kernel
theorem dL_law_438 : decode cL_law 438 = .ok (.iadd, 1) := by decide +kernel
theorem dL_law_439 : decode cL_law 439 = .ok (.iaload, 1) := by decide +kernel
theorem dL_law_440 : decode cL_law 440 = .ok (.aload_n 0, 1) := by decide +kernel
theorem dL_law_441 : decode cL_law 441 = .ok (.iload 4, 2) := by decide +kernel
theorem dL_law_443 : decode cL_law 443 = .ok (.iconst 2, 1) := by decide +kernel
theorem dL_law_444 : decode cL_law 444 = .ok (.iadd, 1) := by decide +kernel
theorem dL_law_445 : decode cL_law 445 = .ok (.iaload, 1) := by decide +kernel
theorem dL_law_446 : decode cL_law 446 = .ok (.aload_n 0, 1) := by decide +kernel
theorem dL_law_447 : decode cL_law 447 = .ok (.iload 4, 2) := by decide +kernel
theorem dL_law_449 : decode cL_law 449 = .ok (.iconst 3, 1) := by decide +kernel
theorem dL_law_450 : decode cL_law 450 = .ok (.iadd, 1) := by decide +kernel
theorem dL_law_451 : decode cL_law 451 = .ok (.iaload, 1) := by decide +kernel
theorem dL_law_452 : decode cL_law 452 = .ok (.aload_n 3, 1) := by decide +kernel
theorem dL_law_453 : decode cL_law 453 = .ok (.invokestatic 89, 3) := by decide +kernel
theorem dL_law_456 : decode cL_law 456 = .ok (.istore 5, 2) := by decide +kernel
theorem dL_law_458 : decode cL_law 458 = .ok (.aload_n 2, 1) := by decide +kernel
theorem dL_law_459 : decode cL_law 459 = .ok (.aload_n 0, 1) := by decide +kernel
theorem dL_law_460 : decode cL_law 460 = .ok (.iload 4, 2) := by decide +kernel
theorem dL_law_462 : decode cL_law 462 = .ok (.iconst 1, 1) := by decide +kernel
theorem dL_law_463 : decode cL_law 463 = .ok (.iadd, 1) := by decide +kernel
theorem dL_law_464 : decode cL_law 464 = .ok (.iaload, 1) := by decide +kernel
theorem dL_law_465 : decode cL_law 465 = .ok (.aload_n 0, 1) := by decide +kernel
theorem dL_law_466 : decode cL_law 466 = .ok (.iload 4, 2) := by decide +kernel
theorem dL_law_468 : decode cL_law 468 = .ok (.iconst 2, 1) := by decide +kernel
theorem dL_law_469 : decode cL_law 469 = .ok (.iadd, 1) := by decide +kernel
theorem dL_law_470 : decode cL_law 470 = .ok (.iaload, 1) := by decide +kernel
theorem dL_law_471 : decode cL_law 471 = .ok (.aload_n 0, 1) := by decide +kernel
theorem dL_law_472 : decode cL_law 472 = .ok (.iload 4, 2) := by decide +kernel
theorem dL_law_474 : decode cL_law 474 = .ok (.iconst 3, 1) := by decide +kernel
theorem dL_law_475 : decode cL_law 475 = .ok (.iadd, 1) := by decide +kernel
theorem dL_law_476 : decode cL_law 476 = .ok (.iaload, 1) := by decide +kernel
theorem dL_law_477 : decode cL_law 477 = .ok (.invokevirtual 92, 3) := by decide +kernel
theorem dL_law_480 : decode cL_law 480 = .ok (.istore 6, 2) := by decide +kernel
theorem dL_law_482 : decode cL_law 482 = .ok (.aload_n 2, 1) := by decide +kernel
theorem dL_law_483 : decode cL_law 483 = .ok (.invokevirtual 74, 3) := by decide +kernel
theorem dL_law_486 : decode cL_law 486 = .ok (.iload 5, 2) := by decide +kernel
theorem dL_law_488 : decode cL_law 488 = .ok (.if_icmp .eq 5, 3) := by decide +kernel
theorem dL_law_491 : decode cL_law 491 = .ok (.iconst 0, 1) := by decide +kernel
theorem dL_law_492 : decode cL_law 492 = .ok (.ireturn, 1) := by decide +kernel
theorem dL_law_493 : decode cL_law 493 = .ok (.iload 5, 2) := by decide +kernel
theorem dL_law_495 : decode cL_law 495 = .ok (.ifCond .ne 15, 3) := by decide +kernel
theorem dL_law_498 : decode cL_law 498 = .ok (.aload_n 3, 1) := by decide +kernel
theorem dL_law_499 : decode cL_law 499 = .ok (.iconst 0, 1) := by decide +kernel
theorem dL_law_500 : decode cL_law 500 = .ok (.laload, 1) := by decide +kernel
theorem dL_law_501 : decode cL_law 501 = .ok (.iload 6, 2) := by decide +kernel
theorem dL_law_503 : decode cL_law 503 = .ok (.i2l, 1) := by decide +kernel
theorem dL_law_504 : decode cL_law 504 = .ok (.lcmp, 1) := by decide +kernel
theorem dL_law_505 : decode cL_law 505 = .ok (.ifCond .eq 5, 3) := by decide +kernel
theorem dL_law_508 : decode cL_law 508 = .ok (.iconst 0, 1) := by decide +kernel
theorem dL_law_509 : decode cL_law 509 = .ok (.ireturn, 1) := by decide +kernel
theorem dL_law_510 : decode cL_law 510 = .ok (.goto 627, 3) := by decide +kernel
theorem dL_law_513 : decode cL_law 513 = .ok (.aload_n 1, 1) := by decide +kernel
theorem dL_law_514 : decode cL_law 514 = .ok (.aload_n 0, 1) := by decide +kernel
theorem dL_law_515 : decode cL_law 515 = .ok (.iload 4, 2) := by decide +kernel
theorem dL_law_517 : decode cL_law 517 = .ok (.iconst 1, 1) := by decide +kernel
theorem dL_law_518 : decode cL_law 518 = .ok (.iadd, 1) := by decide +kernel
theorem dL_law_519 : decode cL_law 519 = .ok (.iaload, 1) := by decide +kernel
theorem dL_law_520 : decode cL_law 520 = .ok (.aload_n 3, 1) := by decide +kernel
theorem dL_law_521 : decode cL_law 521 = .ok (.invokestatic 93, 3) := by decide +kernel
theorem dL_law_524 : decode cL_law 524 = .ok (.istore 5, 2) := by decide +kernel
theorem dL_law_526 : decode cL_law 526 = .ok (.aload_n 2, 1) := by decide +kernel
theorem dL_law_527 : decode cL_law 527 = .ok (.aload_n 0, 1) := by decide +kernel
theorem dL_law_528 : decode cL_law 528 = .ok (.iload 4, 2) := by decide +kernel
theorem dL_law_530 : decode cL_law 530 = .ok (.iconst 1, 1) := by decide +kernel
theorem dL_law_531 : decode cL_law 531 = .ok (.iadd, 1) := by decide +kernel
theorem dL_law_532 : decode cL_law 532 = .ok (.iaload, 1) := by decide +kernel
theorem dL_law_533 : decode cL_law 533 = .ok (.invokevirtual 96, 3) := by decide +kernel
theorem dL_law_536 : decode cL_law 536 = .ok (.istore 6, 2) := by decide +kernel
theorem dL_law_538 : decode cL_law 538 = .ok (.aload_n 2, 1) := by decide +kernel
theorem dL_law_539 : decode cL_law 539 = .ok (.invokevirtual 74, 3) := by decide +kernel
theorem dL_law_542 : decode cL_law 542 = .ok (.iload 5, 2) := by decide +kernel
theorem dL_law_544 : decode cL_law 544 = .ok (.if_icmp .eq 5, 3) := by decide +kernel
theorem dL_law_547 : decode cL_law 547 = .ok (.iconst 0, 1) := by decide +kernel
theorem dL_law_548 : decode cL_law 548 = .ok (.ireturn, 1) := by decide +kernel
theorem dL_law_549 : decode cL_law 549 = .ok (.iload 5, 2) := by decide +kernel
theorem dL_law_551 : decode cL_law 551 = .ok (.ifCond .ne 15, 3) := by decide +kernel
theorem dL_law_554 : decode cL_law 554 = .ok (.aload_n 3, 1) := by decide +kernel
theorem dL_law_555 : decode cL_law 555 = .ok (.iconst 0, 1) := by decide +kernel
theorem dL_law_556 : decode cL_law 556 = .ok (.laload, 1) := by decide +kernel
theorem dL_law_557 : decode cL_law 557 = .ok (.iload 6, 2) := by decide +kernel
theorem dL_law_559 : decode cL_law 559 = .ok (.i2l, 1) := by decide +kernel
theorem dL_law_560 : decode cL_law 560 = .ok (.lcmp, 1) := by decide +kernel
theorem dL_law_561 : decode cL_law 561 = .ok (.ifCond .eq 5, 3) := by decide +kernel
theorem dL_law_564 : decode cL_law 564 = .ok (.iconst 0, 1) := by decide +kernel
theorem dL_law_565 : decode cL_law 565 = .ok (.ireturn, 1) := by decide +kernel
theorem dL_law_566 : decode cL_law 566 = .ok (.goto 571, 3) := by decide +kernel
theorem dL_law_569 : decode cL_law 569 = .ok (.aload_n 1, 1) := by decide +kernel
theorem dL_law_570 : decode cL_law 570 = .ok (.invokevirtual 97, 3) := by decide +kernel
theorem dL_law_573 : decode cL_law 573 = .ok (.aload_n 2, 1) := by decide +kernel
theorem dL_law_574 : decode cL_law 574 = .ok (.invokevirtual 100, 3) := by decide +kernel
theorem dL_law_577 : decode cL_law 577 = .ok (.if_icmp .eq 560, 3) := by decide +kernel
theorem dL_law_580 : decode cL_law 580 = .ok (.iconst 0, 1) := by decide +kernel
theorem dL_law_581 : decode cL_law 581 = .ok (.ireturn, 1) := by decide +kernel
theorem dL_law_582 : decode cL_law 582 = .ok (.aload_n 1, 1) := by decide +kernel
theorem dL_law_583 : decode cL_law 583 = .ok (.aload_n 0, 1) := by decide +kernel
theorem dL_law_584 : decode cL_law 584 = .ok (.iload 4, 2) := by decide +kernel
theorem dL_law_586 : decode cL_law 586 = .ok (.iconst 1, 1) := by decide +kernel
theorem dL_law_587 : decode cL_law 587 = .ok (.iadd, 1) := by decide +kernel
theorem dL_law_588 : decode cL_law 588 = .ok (.iaload, 1) := by decide +kernel
theorem dL_law_589 : decode cL_law 589 = .ok (.aload_n 0, 1) := by decide +kernel
theorem dL_law_590 : decode cL_law 590 = .ok (.iload 4, 2) := by decide +kernel
theorem dL_law_592 : decode cL_law 592 = .ok (.iconst 2, 1) := by decide +kernel
theorem dL_law_593 : decode cL_law 593 = .ok (.iadd, 1) := by decide +kernel
theorem dL_law_594 : decode cL_law 594 = .ok (.iaload, 1) := by decide +kernel
theorem dL_law_595 : decode cL_law 595 = .ok (.aload_n 0, 1) := by decide +kernel
theorem dL_law_596 : decode cL_law 596 = .ok (.iload 4, 2) := by decide +kernel
theorem dL_law_598 : decode cL_law 598 = .ok (.iconst 3, 1) := by decide +kernel
theorem dL_law_599 : decode cL_law 599 = .ok (.iadd, 1) := by decide +kernel
theorem dL_law_600 : decode cL_law 600 = .ok (.iaload, 1) := by decide +kernel
theorem dL_law_601 : decode cL_law 601 = .ok (.aload_n 3, 1) := by decide +kernel
theorem dL_law_602 : decode cL_law 602 = .ok (.invokestatic 101, 3) := by decide +kernel
theorem dL_law_605 : decode cL_law 605 = .ok (.istore 5, 2) := by decide +kernel
theorem dL_law_607 : decode cL_law 607 = .ok (.aload_n 2, 1) := by decide +kernel
theorem dL_law_608 : decode cL_law 608 = .ok (.aload_n 0, 1) := by decide +kernel
theorem dL_law_609 : decode cL_law 609 = .ok (.iload 4, 2) := by decide +kernel
theorem dL_law_611 : decode cL_law 611 = .ok (.iconst 1, 1) := by decide +kernel
theorem dL_law_612 : decode cL_law 612 = .ok (.iadd, 1) := by decide +kernel
theorem dL_law_613 : decode cL_law 613 = .ok (.iaload, 1) := by decide +kernel
theorem dL_law_614 : decode cL_law 614 = .ok (.aload_n 0, 1) := by decide +kernel
theorem dL_law_615 : decode cL_law 615 = .ok (.iload 4, 2) := by decide +kernel
theorem dL_law_617 : decode cL_law 617 = .ok (.iconst 2, 1) := by decide +kernel
theorem dL_law_618 : decode cL_law 618 = .ok (.iadd, 1) := by decide +kernel
theorem dL_law_619 : decode cL_law 619 = .ok (.iaload, 1) := by decide +kernel
theorem dL_law_620 : decode cL_law 620 = .ok (.aload_n 0, 1) := by decide +kernel
theorem dL_law_621 : decode cL_law 621 = .ok (.iload 4, 2) := by decide +kernel
theorem dL_law_623 : decode cL_law 623 = .ok (.iconst 3, 1) := by decide +kernel
theorem dL_law_624 : decode cL_law 624 = .ok (.iadd, 1) := by decide +kernel
theorem dL_law_625 : decode cL_law 625 = .ok (.iaload, 1) := by decide +kernel
theorem dL_law_626 : decode cL_law 626 = .ok (.invokevirtual 103, 3) := by decide +kernel
theorem dL_law_629 : decode cL_law 629 = .ok (.istore 6, 2) := by decide +kernel
theorem dL_law_631 : decode cL_law 631 = .ok (.aload_n 2, 1) := by decide +kernel
theorem dL_law_632 : decode cL_law 632 = .ok (.invokevirtual 74, 3) := by decide +kernel
theorem dL_law_635 : decode cL_law 635 = .ok (.iload 5, 2) := by decide +kernel
theorem dL_law_637 : decode cL_law 637 = .ok (.if_icmp .eq 5, 3) := by decide +kernel
theorem dL_law_640 : decode cL_law 640 = .ok (.iconst 0, 1) := by decide +kernel
theorem dL_law_641 : decode cL_law 641 = .ok (.ireturn, 1) := by decide +kernel
theorem dL_law_642 : decode cL_law 642 = .ok (.iload 5, 2) := by decide +kernel
theorem dL_law_644 : decode cL_law 644 = .ok (.ifCond .ne 22, 3) := by decide +kernel
theorem dL_law_647 : decode cL_law 647 = .ok (.aload_n 3, 1) := by decide +kernel
theorem dL_law_648 : decode cL_law 648 = .ok (.iconst 0, 1) := by decide +kernel
theorem dL_law_649 : decode cL_law 649 = .ok (.laload, 1) := by decide +kernel
theorem dL_law_650 : decode cL_law 650 = .ok (.iload 6, 2) := by decide +kernel
theorem dL_law_652 : decode cL_law 652 = .ok (.ifCond .eq 7, 3) := by decide +kernel
theorem dL_law_655 : decode cL_law 655 = .ok (.lconst 1, 1) := by decide +kernel
theorem dL_law_656 : decode cL_law 656 = .ok (.goto 4, 3) := by decide +kernel
theorem dL_law_659 : decode cL_law 659 = .ok (.lconst 0, 1) := by decide +kernel
theorem dL_law_660 : decode cL_law 660 = .ok (.lcmp, 1) := by decide +kernel
theorem dL_law_661 : decode cL_law 661 = .ok (.ifCond .eq 5, 3) := by decide +kernel
theorem dL_law_664 : decode cL_law 664 = .ok (.iconst 0, 1) := by decide +kernel
theorem dL_law_665 : decode cL_law 665 = .ok (.ireturn, 1) := by decide +kernel
theorem dL_law_666 : decode cL_law 666 = .ok (.goto 471, 3) := by decide +kernel
theorem dL_law_669 : decode cL_law 669 = .ok (.aload_n 1, 1) := by decide +kernel
theorem dL_law_670 : decode cL_law 670 = .ok (.aload_n 0, 1) := by decide +kernel
theorem dL_law_671 : decode cL_law 671 = .ok (.iload 4, 2) := by decide +kernel
theorem dL_law_673 : decode cL_law 673 = .ok (.iconst 1, 1) := by decide +kernel
theorem dL_law_674 : decode cL_law 674 = .ok (.iadd, 1) := by decide +kernel
theorem dL_law_675 : decode cL_law 675 = .ok (.iaload, 1) := by decide +kernel
theorem dL_law_676 : decode cL_law 676 = .ok (.aload_n 0, 1) := by decide +kernel
theorem dL_law_677 : decode cL_law 677 = .ok (.iload 4, 2) := by decide +kernel
theorem dL_law_679 : decode cL_law 679 = .ok (.iconst 2, 1) := by decide +kernel
theorem dL_law_680 : decode cL_law 680 = .ok (.iadd, 1) := by decide +kernel
theorem dL_law_681 : decode cL_law 681 = .ok (.iaload, 1) := by decide +kernel
theorem dL_law_682 : decode cL_law 682 = .ok (.aload_n 0, 1) := by decide +kernel
theorem dL_law_683 : decode cL_law 683 = .ok (.iload 4, 2) := by decide +kernel
theorem dL_law_685 : decode cL_law 685 = .ok (.iconst 3, 1) := by decide +kernel
theorem dL_law_686 : decode cL_law 686 = .ok (.iadd, 1) := by decide +kernel
theorem dL_law_687 : decode cL_law 687 = .ok (.iaload, 1) := by decide +kernel
theorem dL_law_688 : decode cL_law 688 = .ok (.aload_n 0, 1) := by decide +kernel
theorem dL_law_689 : decode cL_law 689 = .ok (.iload 4, 2) := by decide +kernel
theorem dL_law_691 : decode cL_law 691 = .ok (.iconst 4, 1) := by decide +kernel
theorem dL_law_692 : decode cL_law 692 = .ok (.iadd, 1) := by decide +kernel
theorem dL_law_693 : decode cL_law 693 = .ok (.iaload, 1) := by decide +kernel
theorem dL_law_694 : decode cL_law 694 = .ok (.aload_n 3, 1) := by decide +kernel
theorem dL_law_695 : decode cL_law 695 = .ok (.invokestatic 104, 3) := by decide +kernel
theorem dL_law_698 : decode cL_law 698 = .ok (.istore 5, 2) := by decide +kernel
theorem dL_law_700 : decode cL_law 700 = .ok (.aload_n 2, 1) := by decide +kernel
theorem dL_law_701 : decode cL_law 701 = .ok (.aload_n 0, 1) := by decide +kernel
theorem dL_law_702 : decode cL_law 702 = .ok (.iload 4, 2) := by decide +kernel
theorem dL_law_704 : decode cL_law 704 = .ok (.iconst 1, 1) := by decide +kernel
theorem dL_law_705 : decode cL_law 705 = .ok (.iadd, 1) := by decide +kernel
theorem dL_law_706 : decode cL_law 706 = .ok (.iaload, 1) := by decide +kernel
theorem dL_law_707 : decode cL_law 707 = .ok (.aload_n 0, 1) := by decide +kernel
theorem dL_law_708 : decode cL_law 708 = .ok (.iload 4, 2) := by decide +kernel
theorem dL_law_710 : decode cL_law 710 = .ok (.iconst 2, 1) := by decide +kernel
theorem dL_law_711 : decode cL_law 711 = .ok (.iadd, 1) := by decide +kernel
theorem dL_law_712 : decode cL_law 712 = .ok (.iaload, 1) := by decide +kernel
theorem dL_law_713 : decode cL_law 713 = .ok (.aload_n 0, 1) := by decide +kernel
theorem dL_law_714 : decode cL_law 714 = .ok (.iload 4, 2) := by decide +kernel
theorem dL_law_716 : decode cL_law 716 = .ok (.iconst 3, 1) := by decide +kernel
theorem dL_law_717 : decode cL_law 717 = .ok (.iadd, 1) := by decide +kernel
theorem dL_law_718 : decode cL_law 718 = .ok (.iaload, 1) := by decide +kernel
theorem dL_law_719 : decode cL_law 719 = .ok (.aload_n 0, 1) := by decide +kernel
theorem dL_law_720 : decode cL_law 720 = .ok (.iload 4, 2) := by decide +kernel
theorem dL_law_722 : decode cL_law 722 = .ok (.iconst 4, 1) := by decide +kernel
theorem dL_law_723 : decode cL_law 723 = .ok (.iadd, 1) := by decide +kernel
theorem dL_law_724 : decode cL_law 724 = .ok (.iaload, 1) := by decide +kernel
theorem dL_law_725 : decode cL_law 725 = .ok (.invokevirtual 107, 3) := by decide +kernel
theorem dL_law_728 : decode cL_law 728 = .ok (.istore 6, 2) := by decide +kernel
theorem dL_law_730 : decode cL_law 730 = .ok (.aload_n 2, 1) := by decide +kernel
theorem dL_law_731 : decode cL_law 731 = .ok (.invokevirtual 74, 3) := by decide +kernel
theorem dL_law_734 : decode cL_law 734 = .ok (.iload 5, 2) := by decide +kernel
theorem dL_law_736 : decode cL_law 736 = .ok (.if_icmp .eq 5, 3) := by decide +kernel
theorem dL_law_739 : decode cL_law 739 = .ok (.iconst 0, 1) := by decide +kernel
theorem dL_law_740 : decode cL_law 740 = .ok (.ireturn, 1) := by decide +kernel
theorem dL_law_741 : decode cL_law 741 = .ok (.iload 5, 2) := by decide +kernel
theorem dL_law_743 : decode cL_law 743 = .ok (.ifCond .ne 15, 3) := by decide +kernel
theorem dL_law_746 : decode cL_law 746 = .ok (.aload_n 3, 1) := by decide +kernel
theorem dL_law_747 : decode cL_law 747 = .ok (.iconst 0, 1) := by decide +kernel
theorem dL_law_748 : decode cL_law 748 = .ok (.laload, 1) := by decide +kernel
theorem dL_law_749 : decode cL_law 749 = .ok (.iload 6, 2) := by decide +kernel
theorem dL_law_751 : decode cL_law 751 = .ok (.i2l, 1) := by decide +kernel
theorem dL_law_752 : decode cL_law 752 = .ok (.lcmp, 1) := by decide +kernel
theorem dL_law_753 : decode cL_law 753 = .ok (.ifCond .eq 5, 3) := by decide +kernel
theorem dL_law_756 : decode cL_law 756 = .ok (.iconst 0, 1) := by decide +kernel
theorem dL_law_757 : decode cL_law 757 = .ok (.ireturn, 1) := by decide +kernel
theorem dL_law_758 : decode cL_law 758 = .ok (.goto 379, 3) := by decide +kernel
theorem dL_law_761 : decode cL_law 761 = .ok (.aload_n 1, 1) := by decide +kernel
theorem dL_law_762 : decode cL_law 762 = .ok (.aload_n 0, 1) := by decide +kernel
theorem dL_law_763 : decode cL_law 763 = .ok (.iload 4, 2) := by decide +kernel
theorem dL_law_765 : decode cL_law 765 = .ok (.iconst 1, 1) := by decide +kernel
theorem dL_law_766 : decode cL_law 766 = .ok (.iadd, 1) := by decide +kernel
theorem dL_law_767 : decode cL_law 767 = .ok (.iaload, 1) := by decide +kernel
theorem dL_law_768 : decode cL_law 768 = .ok (.aload_n 0, 1) := by decide +kernel
theorem dL_law_769 : decode cL_law 769 = .ok (.iload 4, 2) := by decide +kernel
theorem dL_law_771 : decode cL_law 771 = .ok (.iconst 2, 1) := by decide +kernel
theorem dL_law_772 : decode cL_law 772 = .ok (.iadd, 1) := by decide +kernel
theorem dL_law_773 : decode cL_law 773 = .ok (.iaload, 1) := by decide +kernel
theorem dL_law_774 : decode cL_law 774 = .ok (.aload_n 0, 1) := by decide +kernel
theorem dL_law_775 : decode cL_law 775 = .ok (.iload 4, 2) := by decide +kernel
theorem dL_law_777 : decode cL_law 777 = .ok (.iconst 3, 1) := by decide +kernel
theorem dL_law_778 : decode cL_law 778 = .ok (.iadd, 1) := by decide +kernel
theorem dL_law_779 : decode cL_law 779 = .ok (.iaload, 1) := by decide +kernel
theorem dL_law_780 : decode cL_law 780 = .ok (.aload_n 3, 1) := by decide +kernel
theorem dL_law_781 : decode cL_law 781 = .ok (.invokestatic 108, 3) := by decide +kernel
theorem dL_law_784 : decode cL_law 784 = .ok (.istore 5, 2) := by decide +kernel
theorem dL_law_786 : decode cL_law 786 = .ok (.aload_n 2, 1) := by decide +kernel
theorem dL_law_787 : decode cL_law 787 = .ok (.aload_n 0, 1) := by decide +kernel
theorem dL_law_788 : decode cL_law 788 = .ok (.iload 4, 2) := by decide +kernel
theorem dL_law_790 : decode cL_law 790 = .ok (.iconst 1, 1) := by decide +kernel
theorem dL_law_791 : decode cL_law 791 = .ok (.iadd, 1) := by decide +kernel
theorem dL_law_792 : decode cL_law 792 = .ok (.iaload, 1) := by decide +kernel
theorem dL_law_793 : decode cL_law 793 = .ok (.aload_n 0, 1) := by decide +kernel
theorem dL_law_794 : decode cL_law 794 = .ok (.iload 4, 2) := by decide +kernel
theorem dL_law_796 : decode cL_law 796 = .ok (.iconst 2, 1) := by decide +kernel
theorem dL_law_797 : decode cL_law 797 = .ok (.iadd, 1) := by decide +kernel
theorem dL_law_798 : decode cL_law 798 = .ok (.iaload, 1) := by decide +kernel
theorem dL_law_799 : decode cL_law 799 = .ok (.aload_n 0, 1) := by decide +kernel
theorem dL_law_800 : decode cL_law 800 = .ok (.iload 4, 2) := by decide +kernel
theorem dL_law_802 : decode cL_law 802 = .ok (.iconst 3, 1) := by decide +kernel
theorem dL_law_803 : decode cL_law 803 = .ok (.iadd, 1) := by decide +kernel
theorem dL_law_804 : decode cL_law 804 = .ok (.iaload, 1) := by decide +kernel
theorem dL_law_805 : decode cL_law 805 = .ok (.invokevirtual 110, 3) := by decide +kernel
theorem dL_law_808 : decode cL_law 808 = .ok (.istore 6, 2) := by decide +kernel
theorem dL_law_810 : decode cL_law 810 = .ok (.aload_n 2, 1) := by decide +kernel
theorem dL_law_811 : decode cL_law 811 = .ok (.invokevirtual 74, 3) := by decide +kernel
theorem dL_law_814 : decode cL_law 814 = .ok (.iload 5, 2) := by decide +kernel
theorem dL_law_816 : decode cL_law 816 = .ok (.if_icmp .eq 5, 3) := by decide +kernel
theorem dL_law_819 : decode cL_law 819 = .ok (.iconst 0, 1) := by decide +kernel
theorem dL_law_820 : decode cL_law 820 = .ok (.ireturn, 1) := by decide +kernel
theorem dL_law_821 : decode cL_law 821 = .ok (.iload 5, 2) := by decide +kernel
theorem dL_law_823 : decode cL_law 823 = .ok (.ifCond .ne 15, 3) := by decide +kernel
theorem dL_law_826 : decode cL_law 826 = .ok (.aload_n 3, 1) := by decide +kernel
theorem dL_law_827 : decode cL_law 827 = .ok (.iconst 0, 1) := by decide +kernel
theorem dL_law_828 : decode cL_law 828 = .ok (.laload, 1) := by decide +kernel
theorem dL_law_829 : decode cL_law 829 = .ok (.iload 6, 2) := by decide +kernel
theorem dL_law_831 : decode cL_law 831 = .ok (.i2l, 1) := by decide +kernel
theorem dL_law_832 : decode cL_law 832 = .ok (.lcmp, 1) := by decide +kernel
theorem dL_law_833 : decode cL_law 833 = .ok (.ifCond .eq 5, 3) := by decide +kernel
theorem dL_law_836 : decode cL_law 836 = .ok (.iconst 0, 1) := by decide +kernel
theorem dL_law_837 : decode cL_law 837 = .ok (.ireturn, 1) := by decide +kernel
theorem dL_law_838 : decode cL_law 838 = .ok (.goto 299, 3) := by decide +kernel
theorem dL_law_841 : decode cL_law 841 = .ok (.aload_n 1, 1) := by decide +kernel
theorem dL_law_842 : decode cL_law 842 = .ok (.aload_n 0, 1) := by decide +kernel
theorem dL_law_843 : decode cL_law 843 = .ok (.iload 4, 2) := by decide +kernel
theorem dL_law_845 : decode cL_law 845 = .ok (.iconst 1, 1) := by decide +kernel
theorem dL_law_846 : decode cL_law 846 = .ok (.iadd, 1) := by decide +kernel
theorem dL_law_847 : decode cL_law 847 = .ok (.iaload, 1) := by decide +kernel
theorem dL_law_848 : decode cL_law 848 = .ok (.aload_n 0, 1) := by decide +kernel
theorem dL_law_849 : decode cL_law 849 = .ok (.iload 4, 2) := by decide +kernel
theorem dL_law_851 : decode cL_law 851 = .ok (.iconst 2, 1) := by decide +kernel
theorem dL_law_852 : decode cL_law 852 = .ok (.iadd, 1) := by decide +kernel
theorem dL_law_853 : decode cL_law 853 = .ok (.iaload, 1) := by decide +kernel
theorem dL_law_854 : decode cL_law 854 = .ok (.aload_n 0, 1) := by decide +kernel
theorem dL_law_855 : decode cL_law 855 = .ok (.iload 4, 2) := by decide +kernel
theorem dL_law_857 : decode cL_law 857 = .ok (.iconst 3, 1) := by decide +kernel
theorem dL_law_858 : decode cL_law 858 = .ok (.iadd, 1) := by decide +kernel
theorem dL_law_859 : decode cL_law 859 = .ok (.iaload, 1) := by decide +kernel
theorem dL_law_860 : decode cL_law 860 = .ok (.aload_n 0, 1) := by decide +kernel
theorem dL_law_861 : decode cL_law 861 = .ok (.iload 4, 2) := by decide +kernel
theorem dL_law_863 : decode cL_law 863 = .ok (.iconst 4, 1) := by decide +kernel
theorem dL_law_864 : decode cL_law 864 = .ok (.iadd, 1) := by decide +kernel
theorem dL_law_865 : decode cL_law 865 = .ok (.iaload, 1) := by decide +kernel
theorem dL_law_866 : decode cL_law 866 = .ok (.aload_n 3, 1) := by decide +kernel
theorem dL_law_867 : decode cL_law 867 = .ok (.invokestatic 111, 3) := by decide +kernel
theorem dL_law_870 : decode cL_law 870 = .ok (.istore 5, 2) := by decide +kernel
theorem dL_law_872 : decode cL_law 872 = .ok (.aload_n 2, 1) := by decide +kernel
theorem dL_law_873 : decode cL_law 873 = .ok (.aload_n 0, 1) := by decide +kernel
theorem dL_law_874 : decode cL_law 874 = .ok (.iload 4, 2) := by decide +kernel
theorem dL_law_876 : decode cL_law 876 = .ok (.iconst 1, 1) := by decide +kernel
theorem dL_law_877 : decode cL_law 877 = .ok (.iadd, 1) := by decide +kernel
theorem dL_law_878 : decode cL_law 878 = .ok (.iaload, 1) := by decide +kernel
theorem dL_law_879 : decode cL_law 879 = .ok (.aload_n 0, 1) := by decide +kernel
theorem dL_law_880 : decode cL_law 880 = .ok (.iload 4, 2) := by decide +kernel
theorem dL_law_882 : decode cL_law 882 = .ok (.iconst 2, 1) := by decide +kernel
theorem dL_law_883 : decode cL_law 883 = .ok (.iadd, 1) := by decide +kernel
theorem dL_law_884 : decode cL_law 884 = .ok (.iaload, 1) := by decide +kernel
theorem dL_law_885 : decode cL_law 885 = .ok (.aload_n 0, 1) := by decide +kernel
theorem dL_law_886 : decode cL_law 886 = .ok (.iload 4, 2) := by decide +kernel
theorem dL_law_888 : decode cL_law 888 = .ok (.iconst 3, 1) := by decide +kernel
theorem dL_law_889 : decode cL_law 889 = .ok (.iadd, 1) := by decide +kernel
theorem dL_law_890 : decode cL_law 890 = .ok (.iaload, 1) := by decide +kernel
theorem dL_law_891 : decode cL_law 891 = .ok (.aload_n 0, 1) := by decide +kernel
theorem dL_law_892 : decode cL_law 892 = .ok (.iload 4, 2) := by decide +kernel
theorem dL_law_894 : decode cL_law 894 = .ok (.iconst 4, 1) := by decide +kernel
theorem dL_law_895 : decode cL_law 895 = .ok (.iadd, 1) := by decide +kernel
theorem dL_law_896 : decode cL_law 896 = .ok (.iaload, 1) := by decide +kernel
theorem dL_law_897 : decode cL_law 897 = .ok (.invokevirtual 113, 3) := by decide +kernel
theorem dL_law_900 : decode cL_law 900 = .ok (.istore 6, 2) := by decide +kernel
theorem dL_law_902 : decode cL_law 902 = .ok (.aload_n 2, 1) := by decide +kernel
theorem dL_law_903 : decode cL_law 903 = .ok (.invokevirtual 74, 3) := by decide +kernel
theorem dL_law_906 : decode cL_law 906 = .ok (.iload 5, 2) := by decide +kernel
theorem dL_law_908 : decode cL_law 908 = .ok (.if_icmp .eq 5, 3) := by decide +kernel
theorem dL_law_911 : decode cL_law 911 = .ok (.iconst 0, 1) := by decide +kernel
theorem dL_law_912 : decode cL_law 912 = .ok (.ireturn, 1) := by decide +kernel
theorem dL_law_913 : decode cL_law 913 = .ok (.iload 5, 2) := by decide +kernel
theorem dL_law_915 : decode cL_law 915 = .ok (.ifCond .ne 15, 3) := by decide +kernel
theorem dL_law_918 : decode cL_law 918 = .ok (.aload_n 3, 1) := by decide +kernel
theorem dL_law_919 : decode cL_law 919 = .ok (.iconst 0, 1) := by decide +kernel
theorem dL_law_920 : decode cL_law 920 = .ok (.laload, 1) := by decide +kernel
theorem dL_law_921 : decode cL_law 921 = .ok (.iload 6, 2) := by decide +kernel
theorem dL_law_923 : decode cL_law 923 = .ok (.i2l, 1) := by decide +kernel
theorem dL_law_924 : decode cL_law 924 = .ok (.lcmp, 1) := by decide +kernel
theorem dL_law_925 : decode cL_law 925 = .ok (.ifCond .eq 5, 3) := by decide +kernel
theorem dL_law_928 : decode cL_law 928 = .ok (.iconst 0, 1) := by decide +kernel
theorem dL_law_929 : decode cL_law 929 = .ok (.ireturn, 1) := by decide +kernel
theorem dL_law_930 : decode cL_law 930 = .ok (.goto 207, 3) := by decide +kernel
theorem dL_law_933 : decode cL_law 933 = .ok (.aload_n 1, 1) := by decide +kernel
theorem dL_law_934 : decode cL_law 934 = .ok (.aload_n 0, 1) := by decide +kernel
theorem dL_law_935 : decode cL_law 935 = .ok (.iload 4, 2) := by decide +kernel
theorem dL_law_937 : decode cL_law 937 = .ok (.iconst 1, 1) := by decide +kernel
theorem dL_law_938 : decode cL_law 938 = .ok (.iadd, 1) := by decide +kernel
theorem dL_law_939 : decode cL_law 939 = .ok (.iaload, 1) := by decide +kernel
theorem dL_law_940 : decode cL_law 940 = .ok (.aload_n 0, 1) := by decide +kernel
theorem dL_law_941 : decode cL_law 941 = .ok (.iload 4, 2) := by decide +kernel
theorem dL_law_943 : decode cL_law 943 = .ok (.iconst 2, 1) := by decide +kernel
theorem dL_law_944 : decode cL_law 944 = .ok (.iadd, 1) := by decide +kernel
theorem dL_law_945 : decode cL_law 945 = .ok (.iaload, 1) := by decide +kernel
theorem dL_law_946 : decode cL_law 946 = .ok (.aload_n 0, 1) := by decide +kernel
theorem dL_law_947 : decode cL_law 947 = .ok (.iload 4, 2) := by decide +kernel
theorem dL_law_949 : decode cL_law 949 = .ok (.iconst 3, 1) := by decide +kernel
theorem dL_law_950 : decode cL_law 950 = .ok (.iadd, 1) := by decide +kernel
theorem dL_law_951 : decode cL_law 951 = .ok (.iaload, 1) := by decide +kernel
theorem dL_law_952 : decode cL_law 952 = .ok (.aload_n 3, 1) := by decide +kernel
theorem dL_law_953 : decode cL_law 953 = .ok (.invokestatic 114, 3) := by decide +kernel
theorem dL_law_956 : decode cL_law 956 = .ok (.istore 5, 2) := by decide +kernel
theorem dL_law_958 : decode cL_law 958 = .ok (.aload_n 2, 1) := by decide +kernel
theorem dL_law_959 : decode cL_law 959 = .ok (.aload_n 0, 1) := by decide +kernel
theorem dL_law_960 : decode cL_law 960 = .ok (.iload 4, 2) := by decide +kernel
theorem dL_law_962 : decode cL_law 962 = .ok (.iconst 1, 1) := by decide +kernel
theorem dL_law_963 : decode cL_law 963 = .ok (.iadd, 1) := by decide +kernel
theorem dL_law_964 : decode cL_law 964 = .ok (.iaload, 1) := by decide +kernel
theorem dL_law_965 : decode cL_law 965 = .ok (.aload_n 0, 1) := by decide +kernel
theorem dL_law_966 : decode cL_law 966 = .ok (.iload 4, 2) := by decide +kernel
theorem dL_law_968 : decode cL_law 968 = .ok (.iconst 2, 1) := by decide +kernel
theorem dL_law_969 : decode cL_law 969 = .ok (.iadd, 1) := by decide +kernel
theorem dL_law_970 : decode cL_law 970 = .ok (.iaload, 1) := by decide +kernel
theorem dL_law_971 : decode cL_law 971 = .ok (.aload_n 0, 1) := by decide +kernel
theorem dL_law_972 : decode cL_law 972 = .ok (.iload 4, 2) := by decide +kernel
theorem dL_law_974 : decode cL_law 974 = .ok (.iconst 3, 1) := by decide +kernel
theorem dL_law_975 : decode cL_law 975 = .ok (.iadd, 1) := by decide +kernel
theorem dL_law_976 : decode cL_law 976 = .ok (.iaload, 1) := by decide +kernel
theorem dL_law_977 : decode cL_law 977 = .ok (.invokevirtual 116, 3) := by decide +kernel
theorem dL_law_980 : decode cL_law 980 = .ok (.istore 6, 2) := by decide +kernel
theorem dL_law_982 : decode cL_law 982 = .ok (.aload_n 2, 1) := by decide +kernel
theorem dL_law_983 : decode cL_law 983 = .ok (.invokevirtual 74, 3) := by decide +kernel
theorem dL_law_986 : decode cL_law 986 = .ok (.iload 5, 2) := by decide +kernel
theorem dL_law_988 : decode cL_law 988 = .ok (.if_icmp .eq 5, 3) := by decide +kernel
theorem dL_law_991 : decode cL_law 991 = .ok (.iconst 0, 1) := by decide +kernel
theorem dL_law_992 : decode cL_law 992 = .ok (.ireturn, 1) := by decide +kernel
theorem dL_law_993 : decode cL_law 993 = .ok (.iload 5, 2) := by decide +kernel
theorem dL_law_995 : decode cL_law 995 = .ok (.ifCond .ne 15, 3) := by decide +kernel
theorem dL_law_998 : decode cL_law 998 = .ok (.aload_n 3, 1) := by decide +kernel
theorem dL_law_999 : decode cL_law 999 = .ok (.iconst 0, 1) := by decide +kernel
theorem dL_law_1000 : decode cL_law 1000 = .ok (.laload, 1) := by decide +kernel
theorem dL_law_1001 : decode cL_law 1001 = .ok (.iload 6, 2) := by decide +kernel
theorem dL_law_1003 : decode cL_law 1003 = .ok (.i2l, 1) := by decide +kernel
theorem dL_law_1004 : decode cL_law 1004 = .ok (.lcmp, 1) := by decide +kernel
theorem dL_law_1005 : decode cL_law 1005 = .ok (.ifCond .eq 5, 3) := by decide +kernel
theorem dL_law_1008 : decode cL_law 1008 = .ok (.iconst 0, 1) := by decide +kernel
theorem dL_law_1009 : decode cL_law 1009 = .ok (.ireturn, 1) := by decide +kernel
theorem dL_law_1010 : decode cL_law 1010 = .ok (.goto 127, 3) := by decide +kernel
theorem dL_law_1013 : decode cL_law 1013 = .ok (.aload_n 1, 1) := by decide +kernel
theorem dL_law_1014 : decode cL_law 1014 = .ok (.aload_n 0, 1) := by decide +kernel
theorem dL_law_1015 : decode cL_law 1015 = .ok (.iload 4, 2) := by decide +kernel
theorem dL_law_1017 : decode cL_law 1017 = .ok (.iconst 1, 1) := by decide +kernel
theorem dL_law_1018 : decode cL_law 1018 = .ok (.iadd, 1) := by decide +kernel
theorem dL_law_1019 : decode cL_law 1019 = .ok (.iaload, 1) := by decide +kernel
theorem dL_law_1020 : decode cL_law 1020 = .ok (.aload_n 0, 1) := by decide +kernel
theorem dL_law_1021 : decode cL_law 1021 = .ok (.iload 4, 2) := by decide +kernel
theorem dL_law_1023 : decode cL_law 1023 = .ok (.iconst 2, 1) := by decide +kernel
theorem dL_law_1024 : decode cL_law 1024 = .ok (.iadd, 1) := by decide +kernel
theorem dL_law_1025 : decode cL_law 1025 = .ok (.iaload, 1) := by decide +kernel
theorem dL_law_1026 : decode cL_law 1026 = .ok (.aload_n 3, 1) := by decide +kernel
theorem dL_law_1027 : decode cL_law 1027 = .ok (.invokestatic 117, 3) := by decide +kernel
theorem dL_law_1030 : decode cL_law 1030 = .ok (.istore 5, 2) := by decide +kernel
theorem dL_law_1032 : decode cL_law 1032 = .ok (.aload_n 2, 1) := by decide +kernel
theorem dL_law_1033 : decode cL_law 1033 = .ok (.aload_n 0, 1) := by decide +kernel
theorem dL_law_1034 : decode cL_law 1034 = .ok (.iload 4, 2) := by decide +kernel
theorem dL_law_1036 : decode cL_law 1036 = .ok (.iconst 1, 1) := by decide +kernel
theorem dL_law_1037 : decode cL_law 1037 = .ok (.iadd, 1) := by decide +kernel
theorem dL_law_1038 : decode cL_law 1038 = .ok (.iaload, 1) := by decide +kernel
theorem dL_law_1039 : decode cL_law 1039 = .ok (.aload_n 0, 1) := by decide +kernel
theorem dL_law_1040 : decode cL_law 1040 = .ok (.iload 4, 2) := by decide +kernel
theorem dL_law_1042 : decode cL_law 1042 = .ok (.iconst 2, 1) := by decide +kernel
theorem dL_law_1043 : decode cL_law 1043 = .ok (.iadd, 1) := by decide +kernel
theorem dL_law_1044 : decode cL_law 1044 = .ok (.iaload, 1) := by decide +kernel
theorem dL_law_1045 : decode cL_law 1045 = .ok (.invokevirtual 119, 3) := by decide +kernel
theorem dL_law_1048 : decode cL_law 1048 = .ok (.istore 6, 2) := by decide +kernel
theorem dL_law_1050 : decode cL_law 1050 = .ok (.aload_n 2, 1) := by decide +kernel
theorem dL_law_1051 : decode cL_law 1051 = .ok (.invokevirtual 74, 3) := by decide +kernel
theorem dL_law_1054 : decode cL_law 1054 = .ok (.iload 5, 2) := by decide +kernel
theorem dL_law_1056 : decode cL_law 1056 = .ok (.if_icmp .eq 5, 3) := by decide +kernel
theorem dL_law_1059 : decode cL_law 1059 = .ok (.iconst 0, 1) := by decide +kernel
theorem dL_law_1060 : decode cL_law 1060 = .ok (.ireturn, 1) := by decide +kernel
theorem dL_law_1061 : decode cL_law 1061 = .ok (.iload 5, 2) := by decide +kernel
theorem dL_law_1063 : decode cL_law 1063 = .ok (.ifCond .ne 15, 3) := by decide +kernel
theorem dL_law_1066 : decode cL_law 1066 = .ok (.aload_n 3, 1) := by decide +kernel
theorem dL_law_1067 : decode cL_law 1067 = .ok (.iconst 0, 1) := by decide +kernel
theorem dL_law_1068 : decode cL_law 1068 = .ok (.laload, 1) := by decide +kernel
theorem dL_law_1069 : decode cL_law 1069 = .ok (.iload 6, 2) := by decide +kernel
theorem dL_law_1071 : decode cL_law 1071 = .ok (.i2l, 1) := by decide +kernel
theorem dL_law_1072 : decode cL_law 1072 = .ok (.lcmp, 1) := by decide +kernel
theorem dL_law_1073 : decode cL_law 1073 = .ok (.ifCond .eq 5, 3) := by decide +kernel
theorem dL_law_1076 : decode cL_law 1076 = .ok (.iconst 0, 1) := by decide +kernel
theorem dL_law_1077 : decode cL_law 1077 = .ok (.ireturn, 1) := by decide +kernel
theorem dL_law_1078 : decode cL_law 1078 = .ok (.goto 59, 3) := by decide +kernel
theorem dL_law_1081 : decode cL_law 1081 = .ok (.aload_n 1, 1) := by decide +kernel
theorem dL_law_1082 : decode cL_law 1082 = .ok (.aload_n 0, 1) := by decide +kernel
theorem dL_law_1083 : decode cL_law 1083 = .ok (.iload 4, 2) := by decide +kernel
theorem dL_law_1085 : decode cL_law 1085 = .ok (.iconst 1, 1) := by decide +kernel
theorem dL_law_1086 : decode cL_law 1086 = .ok (.iadd, 1) := by decide +kernel
theorem dL_law_1087 : decode cL_law 1087 = .ok (.iaload, 1) := by decide +kernel
theorem dL_law_1088 : decode cL_law 1088 = .ok (.aload_n 3, 1) := by decide +kernel
theorem dL_law_1089 : decode cL_law 1089 = .ok (.invokestatic 120, 3) := by decide +kernel
theorem dL_law_1092 : decode cL_law 1092 = .ok (.istore 5, 2) := by decide +kernel
theorem dL_law_1094 : decode cL_law 1094 = .ok (.aload_n 2, 1) := by decide +kernel
theorem dL_law_1095 : decode cL_law 1095 = .ok (.aload_n 0, 1) := by decide +kernel
theorem dL_law_1096 : decode cL_law 1096 = .ok (.iload 4, 2) := by decide +kernel
theorem dL_law_1098 : decode cL_law 1098 = .ok (.iconst 1, 1) := by decide +kernel
theorem dL_law_1099 : decode cL_law 1099 = .ok (.iadd, 1) := by decide +kernel
theorem dL_law_1100 : decode cL_law 1100 = .ok (.iaload, 1) := by decide +kernel
theorem dL_law_1101 : decode cL_law 1101 = .ok (.invokevirtual 122, 3) := by decide +kernel
theorem dL_law_1104 : decode cL_law 1104 = .ok (.istore 6, 2) := by decide +kernel
theorem dL_law_1106 : decode cL_law 1106 = .ok (.aload_n 2, 1) := by decide +kernel
theorem dL_law_1107 : decode cL_law 1107 = .ok (.invokevirtual 74, 3) := by decide +kernel
theorem dL_law_1110 : decode cL_law 1110 = .ok (.iload 5, 2) := by decide +kernel
theorem dL_law_1112 : decode cL_law 1112 = .ok (.if_icmp .eq 5, 3) := by decide +kernel
theorem dL_law_1115 : decode cL_law 1115 = .ok (.iconst 0, 1) := by decide +kernel
theorem dL_law_1116 : decode cL_law 1116 = .ok (.ireturn, 1) := by decide +kernel
theorem dL_law_1117 : decode cL_law 1117 = .ok (.iload 5, 2) := by decide +kernel
theorem dL_law_1119 : decode cL_law 1119 = .ok (.ifCond .ne 15, 3) := by decide +kernel
theorem dL_law_1122 : decode cL_law 1122 = .ok (.aload_n 3, 1) := by decide +kernel
theorem dL_law_1123 : decode cL_law 1123 = .ok (.iconst 0, 1) := by decide +kernel
theorem dL_law_1124 : decode cL_law 1124 = .ok (.laload, 1) := by decide +kernel
theorem dL_law_1125 : decode cL_law 1125 = .ok (.iload 6, 2) := by decide +kernel
theorem dL_law_1127 : decode cL_law 1127 = .ok (.i2l, 1) := by decide +kernel
theorem dL_law_1128 : decode cL_law 1128 = .ok (.lcmp, 1) := by decide +kernel
theorem dL_law_1129 : decode cL_law 1129 = .ok (.ifCond .eq 5, 3) := by decide +kernel
theorem dL_law_1132 : decode cL_law 1132 = .ok (.iconst 0, 1) := by decide +kernel
theorem dL_law_1133 : decode cL_law 1133 = .ok (.ireturn, 1) := by decide +kernel
theorem dL_law_1134 : decode cL_law 1134 = .ok (.goto 3, 3) := by decide +kernel
theorem dL_law_1137 : decode cL_law 1137 = .ok (.iinc 4 7, 3) := by decide +kernel
theorem dL_law_1140 : decode cL_law 1140 = .ok (.goto (-1117), 3) := by decide +kernel
theorem dL_law_1143 : decode cL_law 1143 = .ok (.iconst 1, 1) := by decide +kernel
theorem dL_law_1144 : decode cL_law 1144 = .ok (.ireturn, 1) := by decide +kernel
end
section
/-! the forms of contracts used here, and rows that call by them -/
/-- links to nest mates' private methods -/
def xnL : List (String × Nat × MethodName × String) := [(RX0, 86, yX3_periodOf, RX3), (RX0, 82, yX3_lengthOf, RX3), (RX0, 56, yX3_placeOf, RX3), (RX1, 23, yX3_pieceOf, RX3), (RX1, 26, yX3_sideOf, RX3), (RX0, 89, yX3_pieceOf, RX3), (RX0, 92, yX3_sideOf, RX3)]
def xN (U : State) : Prop := ∀ q ∈ xnL, va_Nw (.methodLinkNest q.1 q.2.1 q.2.2.1 q.2.2.2) U
theorem xN.warm {s U : State} (hW : s.WarmedH U.vm) (h : xN s) : xN U := fun q hq => va_Nw.warmM hW (h q hq)
/-- what a method's start knows of the state: its cells, the classes, the nest -/
def xB (D : va_G) (ws : va_W) (tys : List (ClassId × FieldType)) (U : State) : Prop := va_P D vwCl ws U.heap ∧ va_K D vwCl tys U ∧ xN U
theorem xB.calling {D : va_G} {ws : va_W} {tys : List (ClassId × FieldType)} {U : State} {g : JFrame} {mk : MethodId} {a : Array Value} (h : xB D ws tys U) : xB D ws tys (U.calling g mk a) :=
  ⟨h.1, va_K.moved (u := U) (U := U.calling g mk a) (Vm.Alike.refl U.vm) h.2.1, fun q hq => va_Nw.same (by rfl) (u := U) (U := U.calling g mk a) rfl (h.2.2 q hq)⟩
theorem xB.at {D : va_G} {ws : va_W} {tys : List (ClassId × FieldType)} {s U : State} {H : Heap} (hP : va_P D vwCl ws H) (hK : va_K D vwCl tys s) (hN : xN s) (hU : U.heap = H) (hW : s.WarmedH U.vm) : xB D ws tys U :=
  ⟨by rw [hU]; exact hP, va_K.moved hW.alike hK, hN.warm hW⟩
abbrev xrm (f k : Nat) : Room := { frames := f, cells := 0, slots := 0, locals := k }
/-- a method that reads: the answer r, the heap as it was -/
def xRO (l : Launch) (y : MethodName) (bytes : ByteArray) (maxL : Nat) (ret : Option FieldType) (rm : Room) (av : List Value) (D : va_G) (ws : va_W) (tys : List (ClassId × FieldType)) (r : Int32) : Prop :=
  Met l y (.code y bytes maxL ret :: wBIG) rm (va_Pc av (xB D ws tys)) (QcRead r) 0 0 (fun _ => False)
/-- the addresses of a world -/
def xA (ws : va_W) (q : Nat) : Prop := ∃ (k : Nat) (e : va_E), ws[k]? = some (q, e)
/-- a method that writes, and makes nothing: the answer r, the world ws' behind it -/
def xQw (r : Option Value) (D : va_G) (ws ws' : va_W) : Array Value → State → Outcome → State → Prop := fun _ st o t => o = .returned r ∧ va_P D vwCl ws' t.heap ∧ va_F (xA ws) st t
def xWR (l : Launch) (y : MethodName) (bytes : ByteArray) (maxL : Nat) (ret : Option FieldType) (rm : Room) (av : List Value) (D : va_G) (ws : va_W) (tys : List (ClassId × FieldType)) (r : Option Value) (ws' : va_W) : Prop :=
  Met l y (.code y bytes maxL ret :: wBIG) rm (va_Pc av (fun U => xB D ws tys U ∧ va_D (fun _ => True) ws)) (xQw r D ws ws') 0 0 (xA ws)
/-- the words of a call -/
def xcD (y : MethodName) (n : Nat) : Prop := y.cls ≠ "java/lang/invoke/MethodHandle" ∧ y.cls ≠ "java/lang/invoke/VarHandle" ∧ (parseMethodDescriptor y.desc).map (fun d => d.parameters.length) = some n
def xcV (own C : String) (index : Nat) (y : MethodName) (bytes : ByteArray) (maxL : Nat) (ret : Option FieldType) (n : Nat) : Prop :=
  Cond.code y bytes maxL ret ∈ wBIG ∧ Cond.methodLink own index y ∈ wBIG ∧ Cond.instanceMethod y ∈ wBIG ∧ Cond.selects C y y ∈ wBIG ∧ Cond.initialized C ∈ wBIG ∧ y.cls = C ∧ xcD y n
def xcS (own : String) (index : Nat) (y : MethodName) (bytes : ByteArray) (maxL : Nat) (ret : Option FieldType) (n : Nat) : Prop :=
  Cond.code y bytes maxL ret ∈ wBIG ∧ Cond.methodLink own index y ∈ wBIG ∧ Cond.static y ∈ wBIG ∧ Cond.initialized y.cls ∈ wBIG ∧ xcD y n
def xcN (own : String) (index : Nat) (y : MethodName) (bytes : ByteArray) (maxL : Nat) (ret : Option FieldType) (n : Nat) (host : String) : Prop :=
  Cond.code y bytes maxL ret ∈ wBIG ∧ (own, index, y, host) ∈ xnL ∧ Cond.static y ∈ wBIG ∧ Cond.initialized y.cls ∈ wBIG ∧ xcD y n
theorem xw_all {args : Array Value} {s : State} {cw : Cond} (ht : ∀ w ∈ wBIG, w.before args s = true) (hc : cw ∈ wBIG) : ∀ w ∈ cw :: wBIG, ∀ (a' : Array Value) (U : State), s.WarmedH U.vm → w.before a' U = true := by
  intro w hw a' U hW
  rcases List.mem_cons.mp hw with h | h
  · rw [h]; exact wbig_at ht hW _ hc
  · exact wbig_at ht hW _ h
theorem xcD.sig {y : MethodName} {n : Nat} (h : xcD y n) : ∀ sig, parseMethodDescriptor y.desc = some sig → n = sig.parameters.length := by
  intro sig hs
  have h2 := h.2.2
  rw [hs] at h2
  exact (Option.some.inj h2).symm
section XC
variable {R : Room} {s : State} {args : Array Value} {own C : String} {index maxL n mc ms : Nat} {y : MethodName} {bytes : ByteArray} {ret : Option FieldType} {rm : Room}
theorem xcV.cw (k : xcV own C index y bytes maxL ret n) (ht : ∀ w ∈ wBIG, w.before args s = true) (hrc : rm.cells = mc) (hrs : rm.slots = ms) (hR : rm.frames + 1 ≤ R.frames ∧ 8 + (maxL + 11) + rm.locals ≤ R.locals) :
    CallW R s args own C index y bytes maxL ret (.code y bytes maxL ret :: wBIG) rm mc ms n := by
  obtain ⟨h1, h2, h3, h4, h5, h6, h7⟩ := k
  exact ⟨⟨hrc, hrs, hR.1, hR.2, xw_all ht h1, List.mem_cons_self, ht _ h1, by rw [h6]; exact ht _ h5, ⟨h7.1, h7.2.1⟩, h7.sig, ht _ h2⟩, ht _ h3, ht _ h4⟩
theorem xcS.cw (k : xcS own index y bytes maxL ret n) (ht : ∀ w ∈ wBIG, w.before args s = true) (hrc : rm.cells = mc) (hrs : rm.slots = ms) (hR : rm.frames + 1 ≤ R.frames ∧ 8 + (maxL + 11) + rm.locals ≤ R.locals) :
    CallB R s args own index y bytes maxL ret (.code y bytes maxL ret :: wBIG) rm mc ms n ∧ (Cond.static y).before args s = true := by
  obtain ⟨h1, h2, h3, h4, h7⟩ := k
  exact ⟨⟨hrc, hrs, hR.1, hR.2, xw_all ht h1, List.mem_cons_self, ht _ h1, ht _ h4, ⟨h7.1, h7.2.1⟩, h7.sig, ht _ h2⟩, ht _ h3⟩
theorem xcN.cw {host : String} (k : xcN own index y bytes maxL ret n host) (ht : ∀ w ∈ wBIG, w.before args s = true) (hN : xN s) (hrc : rm.cells = mc) (hrs : rm.slots = ms) (hR : rm.frames + 1 ≤ R.frames ∧ 8 + (maxL + 11) + rm.locals ≤ R.locals) :
    va_CN R s args own index y host bytes maxL ret (.code y bytes maxL ret :: wBIG) rm mc ms n ∧ (Cond.static y).before args s = true ∧ True := by
  obtain ⟨h1, h2, h3, h4, h7⟩ := k
  exact ⟨⟨⟨hrc, hrs, hR.1, hR.2, xw_all ht h1, List.mem_cons_self⟩, ht _ h1, ht _ h4, ⟨h7.1, h7.2.1⟩, h7.sig, va_Nw.use rfl (hN _ h2)⟩, ht _ h3, trivial⟩
end XC
section XR
variable {p : Program} {l : Launch} {e : Env} {R : Room} {s : State} {m : MethodId} {args : Array Value} {below : List Frame} {meth : Method} {c : Code} {H : Heap} {locs : List Loc} {cells slots : Nat} {Q : State → Prop}
variable {cc : ByteArray} {pc nL : Nat} {ls : Array Slot} {st0 rest As : List Value} {own C : String} {index maxL n f q : Nat} {y : MethodName} {bytes : ByteArray} {ret : Option FieldType} {D : va_G} {wsub : va_W} {tys : List (ClassId × FieldType)} {r : Int32} {b : Nat}
theorem xr_go {a : Array Value} (hr : va_Run p l e R s m args below meth c H locs cells slots 0 0 (F0 m pc ls st0) rest (QcRead r a) (fun _ => False))
    (kk : W p l e R s m args below meth c H locs cells slots Q (F0 m (pc + 3) ls (.int r :: rest))) : W p l e R s m args below meth c H locs cells slots Q (F0 m pc ls st0) := by
  intro T hT X
  obtain ⟨v, st₀, t, T', L, h0, X', hL, e1, -, ⟨hv, hh⟩, st⟩ := hr T hT X
  cases hv
  obtain ⟨t2, a1, b1⟩ := kk T' (by rw [e1, hh, h0]) (Stand.forget X' (fun q h => (hL q h).elim))
  exact ⟨t2, st t2 a1, b1⟩
/-- a call of a reading method: by its object -/
theorem xrV (hx : p.tables.exec = Jvm.exec) (hb : c.code = cc) (hml : c.maxLocals = nL) (hown : s.vm.findClass own = some m.cls) (ht : ∀ w ∈ wBIG, w.before args s = true) (hN : xN s)
    (k : xcV own C index y bytes maxL ret n) (hM : xRO l y bytes maxL ret (xrm f q) (.ref b :: As) D wsub tys r) (hR : f + 1 ≤ R.frames ∧ 8 + (maxL + 11) + q ≤ R.locals)
    (hP : va_P D vwCl wsub H) (hK : va_K D vwCl tys s) {ci : Nat} {fs : List Value} {qc : vw_C} (he : wsub[0]? = some (b, .inr (ci, fs))) (hc : vwCl[ci]? = some qc) (hqc : qc.1 = C)
    (hn : As.length = n) (hsize : ls.size = nL) (hst : st0 = As.reverse ++ .ref b :: rest) (hcat : (rest.map fun v => v.category).sum ≤ 8) (hdg : decode cc pc = .ok (.invokevirtual index, 3)) (hf : cells ≤ R.cells ∧ slots ≤ R.slots)
    (kk : W p l e R s m args below meth c H locs cells slots Q (F0 m (pc + 3) ls (.int r :: rest))) : W p l e R s m args below meth c H locs cells slots Q (F0 m pc ls st0) := by
  subst hqc
  refine xr_go (va_runV (As := As) (rest := rest) ⟨hx, hb, hml, hown, ht⟩ hM (k.cw ht rfl rfl hR) ⟨?_, va_recv hK hP hc he, fun U hU hW => ⟨rfl, xB.at hP hK hN hU hW⟩⟩ rfl hn hsize hst (lv_room hcat) hdg hf) kk
  exact fun a U g mk h => ⟨h.1, h.2.calling⟩
/-- .. a static one of the own class -/
theorem xrS (hx : p.tables.exec = Jvm.exec) (hb : c.code = cc) (hml : c.maxLocals = nL) (hown : s.vm.findClass own = some m.cls) (ht : ∀ w ∈ wBIG, w.before args s = true) (hN : xN s)
    (k : xcS own index y bytes maxL ret n) (hM : xRO l y bytes maxL ret (xrm f q) As D wsub tys r) (hR : f + 1 ≤ R.frames ∧ 8 + (maxL + 11) + q ≤ R.locals)
    (hP : va_P D vwCl wsub H) (hK : va_K D vwCl tys s)
    (hn : As.length = n) (hsize : ls.size = nL) (hst : st0 = As.reverse ++ rest) (hcat : (rest.map fun v => v.category).sum ≤ 8) (hdg : decode cc pc = .ok (.invokestatic index, 3)) (hf : cells ≤ R.cells ∧ slots ≤ R.slots)
    (kk : W p l e R s m args below meth c H locs cells slots Q (F0 m (pc + 3) ls (.int r :: rest))) : W p l e R s m args below meth c H locs cells slots Q (F0 m pc ls st0) := by
  refine xr_go (va_runS (As := As) (rest := rest) ⟨hx, hb, hml, hown, ht⟩ hM (k.cw ht rfl rfl hR) ⟨?_, fun U hU hW => ⟨rfl, xB.at hP hK hN hU hW⟩⟩ rfl hn hsize hst (lv_room hcat) hdg hf) kk
  exact fun a U g mk h => ⟨h.1, h.2.calling⟩
/-- .. a static one of a nest mate -/
theorem xrN {host : String} (hx : p.tables.exec = Jvm.exec) (hb : c.code = cc) (hml : c.maxLocals = nL) (hown : s.vm.findClass own = some m.cls) (ht : ∀ w ∈ wBIG, w.before args s = true) (hN : xN s)
    (k : xcN own index y bytes maxL ret n host) (hM : xRO l y bytes maxL ret (xrm f q) As D wsub tys r) (hR : f + 1 ≤ R.frames ∧ 8 + (maxL + 11) + q ≤ R.locals)
    (hP : va_P D vwCl wsub H) (hK : va_K D vwCl tys s)
    (hn : As.length = n) (hsize : ls.size = nL) (hst : st0 = As.reverse ++ rest) (hcat : (rest.map fun v => v.category).sum ≤ 8) (hdg : decode cc pc = .ok (.invokestatic index, 3)) (hf : cells ≤ R.cells ∧ slots ≤ R.slots)
    (kk : W p l e R s m args below meth c H locs cells slots Q (F0 m (pc + 3) ls (.int r :: rest))) : W p l e R s m args below meth c H locs cells slots Q (F0 m pc ls st0) := by
  refine xr_go (va_runSN (As := As) (rest := rest) ⟨hx, hb, hml, hown, ht⟩ hM (k.cw ht hN rfl rfl hR) ⟨?_, fun U hU hW => ⟨rfl, xB.at hP hK hN hU hW⟩⟩ rfl hn hsize hst (lv_room hcat) hdg hf) kk
  exact fun a U g mk h => ⟨h.1, h.2.calling⟩
/-- the end of a reading body -/
theorem xr_iret {v : Int32} (hx : p.tables.exec = Jvm.exec) (hb : c.code = cc) (hr : meth.sig.returnType = some .int) (hlocks : meth.locks = false) (hv : v = r) (hdg : decode cc pc = .ok (.ireturn, 1)) :
    W p l e R s m args below meth c s.heap [] 0 0 (MQ below (QcRead r) args s 0 0 (fun _ => False)) (F0 m pc ls [.int v]) :=
  W.iret hx hb hr (fun t ht _ => ⟨by rw [hv], ht⟩) (fun q h => nomatch h) hdg hlocks
theorem xr_zret {v : Int32} (hx : p.tables.exec = Jvm.exec) (hb : c.code = cc) (hr : meth.sig.returnType = some .boolean) (hlocks : meth.locks = false) (hn : narrow .boolean (.int v) = .int v) (hv : v = r) (hdg : decode cc pc = .ok (.ireturn, 1)) :
    W p l e R s m args below meth c s.heap [] 0 0 (MQ below (QcRead r) args s 0 0 (fun _ => False)) (F0 m pc ls [.int v]) :=
  W.zret hx hb hr hn (fun t ht _ => ⟨by rw [hv], ht⟩) (fun q h => nomatch h) hdg hlocks
theorem xRO.of {rm : Room} {av : List Value} (hy : plainName y.cls = true) (hlen : (lg_sl av).length ≤ maxL)
    (body : ∀ (p : Program) (e : Env) (s : State) (m : MethodId) (args : Array Value) (below : List Frame) (meth : Method) (c : Code), p.tables.exec = Jvm.exec → c.code = bytes → meth.sig.returnType = ret → c.maxLocals = maxL → s.vm.findClass y.cls = some m.cls → meth.locks = false →
      (∀ w ∈ wBIG, w.before args s = true) → xN s → va_P D vwCl wsub s.heap → va_K D vwCl tys s → ∀ ls : Array Slot, lv_has ls maxL (lv_args 0 av) →
      W p l e rm s m args below meth c s.heap [] 0 0 (MQ below (QcRead r) args s 0 0 (fun _ => False)) (F0 m 0 ls [])) : xRO l y bytes maxL ret rm av D wsub tys r := by
  refine Met.ofW (cc := bytes) (maxL := maxL) (ret := ret) hy rfl ?_
  intro p e s m args below meth c s₁ B hml hv
  obtain ⟨rfl, hP, hK, hN⟩ := hv
  have hts := atoms_spec (ws := .code y bytes maxL ret :: wBIG) B.pre
  have hl := lv_entry av (n := maxL) hlen
  rw [lg_entry_eq]
  exact body p e s m _ below meth c B.exec B.bytes B.returns hml (findClass_of_methodNamed B.named) B.notSynchronized (fun w h => hts w (List.mem_cons_of_mem _ h)) hN hP hK _ hl
theorem xWR.of {rm : Room} {av : List Value} {ws' : va_W} {ro : Option Value} (hy : plainName y.cls = true) (hlen : (lg_sl av).length ≤ maxL)
    (body : ∀ (p : Program) (e : Env) (s : State) (m : MethodId) (args : Array Value) (below : List Frame) (meth : Method) (c : Code), p.tables.exec = Jvm.exec → c.code = bytes → meth.sig.returnType = ret → c.maxLocals = maxL → s.vm.findClass y.cls = some m.cls → meth.locks = false →
      (∀ w ∈ wBIG, w.before args s = true) → xN s → va_P D vwCl wsub s.heap → va_K D vwCl tys s → va_D (xA wsub) wsub → va_S (xA wsub) s.heap s.heap [] → ∀ ls : Array Slot, lv_has ls maxL (lv_args 0 av) →
      W p l e rm s m args below meth c s.heap [] 0 0 (MQ below (xQw ro D wsub ws') args s 0 0 (xA wsub)) (F0 m 0 ls [])) : xWR l y bytes maxL ret rm av D wsub tys ro ws' := by
  refine Met.ofW (cc := bytes) (maxL := maxL) (ret := ret) hy rfl ?_
  intro p e s m args below meth c s₁ B hml hv
  obtain ⟨rfl, ⟨hP, hK, hN⟩, hD⟩ := hv
  have hts := atoms_spec (ws := .code y bytes maxL ret :: wBIG) B.pre
  have hl := lv_entry av (n := maxL) hlen
  rw [lg_entry_eq]
  exact body p e s m _ below meth c B.exec B.bytes B.returns hml (findClass_of_methodNamed B.named) B.notSynchronized (fun w h => hts w (List.mem_cons_of_mem _ h)) hN hP hK ⟨hD.1, fun k q hk => ⟨k, q.2, hk⟩⟩ va_S.rf _ hl
/-- the end of a writing body -/
theorem xw_iret {v : Int32} {ws' : va_W} (hx : p.tables.exec = Jvm.exec) (hb : c.code = cc) (hr : meth.sig.returnType = some .int) (hlocks : meth.locks = false) (hS : va_S (xA wsub) s.heap H locs) (hP : va_P D vwCl ws' H) (hv : v = r) (hdg : decode cc pc = .ok (.ireturn, 1)) :
    W p l e R s m args below meth c H locs 0 0 (MQ below (xQw (some (.int r)) D wsub ws') args s 0 0 (xA wsub)) (F0 m pc ls [.int v]) :=
  W.iret hx hb hr (fun t ht _ => ⟨by rw [hv], by rw [ht]; exact hP, hS.F ht⟩) hS.2.2 hdg hlocks
theorem xw_zret {v : Int32} {ws' : va_W} (hx : p.tables.exec = Jvm.exec) (hb : c.code = cc) (hr : meth.sig.returnType = some .boolean) (hlocks : meth.locks = false) (hn : narrow .boolean (.int v) = .int v) (hS : va_S (xA wsub) s.heap H locs) (hP : va_P D vwCl ws' H) (hv : v = r) (hdg : decode cc pc = .ok (.ireturn, 1)) :
    W p l e R s m args below meth c H locs 0 0 (MQ below (xQw (some (.int r)) D wsub ws') args s 0 0 (xA wsub)) (F0 m pc ls [.int v]) :=
  W.zret hx hb hr hn (fun t ht _ => ⟨by rw [hv], by rw [ht]; exact hP, hS.F ht⟩) hS.2.2 hdg hlocks
theorem xw_vret {ws' : va_W} (hx : p.tables.exec = Jvm.exec) (hb : c.code = cc) (hr : meth.sig.returnType = none) (hlocks : meth.locks = false) (hS : va_S (xA wsub) s.heap H locs) (hP : va_P D vwCl ws' H) (hdg : decode cc pc = .ok (.return_, 1)) :
    W p l e R s m args below meth c H locs 0 0 (MQ below (xQw none D wsub ws') args s 0 0 (xA wsub)) (F0 m pc ls []) :=
  W.vret hx hb hr (fun t ht _ => ⟨rfl, by rw [ht]; exact hP, hS.F ht⟩) hS.2.2 hdg hlocks
/-- arrays by places that are whole numbers -/
theorem xa_iald {ws : va_W} {a : Nat} (hx : p.tables.exec = Jvm.exec) (hb : c.code = cc) (hK : va_K D vwCl tys s) (hP : va_P D vwCl ws H) (q0 t0 : Nat) {cA : ClassId} {N : Nat} {fn : Nat → Int32} (ha : ws[q0]? = some (a, .inl (cA, N, .inl fn))) (ht : tys[t0]? = some (cA, .int)) {i : Nat} (hi : i < N) (hN : N < 2 ^ 31) (hdg : decode cc pc = .ok (.iaload, 1))
    (kk : W p l e R s m args below meth c H locs cells slots Q (F0 m (pc + 1) ls (.int (fn i) :: rest))) : W p l e R s m args below meth c H locs cells slots Q (F0 m pc ls (.int (nI i) :: .ref a :: rest)) := by
  refine va_iald hx hb hK hP q0 t0 ha ht (vp_in_nI hi hN) hdg ?_
  rw [nI_clamp (by omega)]; exact kk
theorem xa_zald {ws : va_W} {a : Nat} (hx : p.tables.exec = Jvm.exec) (hb : c.code = cc) (hK : va_K D vwCl tys s) (hP : va_P D vwCl ws H) (q0 t0 : Nat) {cA : ClassId} {N : Nat} {fn : Nat → Int32} (ha : ws[q0]? = some (a, .inl (cA, N, .inl fn))) (ht : tys[t0]? = some (cA, .boolean)) {i : Nat} (hi : i < N) (hN : N < 2 ^ 31) (hdg : decode cc pc = .ok (.baload, 1))
    (kk : W p l e R s m args below meth c H locs cells slots Q (F0 m (pc + 1) ls (.int (fn i) :: rest))) : W p l e R s m args below meth c H locs cells slots Q (F0 m pc ls (.int (nI i) :: .ref a :: rest)) := by
  refine va_zald hx hb hK hP q0 t0 ha ht (vp_in_nI hi hN) hdg ?_
  rw [nI_clamp (by omega)]; exact kk
theorem xa_iast {ws : va_W} {a : Nat} {A : Nat → Prop} {H0 : Heap} (hx : p.tables.exec = Jvm.exec) (hb : c.code = cc) (hK : va_K D vwCl tys s) (hP : va_P D vwCl ws H) (hD : va_D A ws) (hS : va_S A H0 H locs) (q0 t0 : Nat) {cA : ClassId} {N : Nat} {fn : Nat → Int32} (ha : ws[q0]? = some (a, .inl (cA, N, .inl fn))) (ht : tys[t0]? = some (cA, .int)) {i : Nat} {x : Int32} (hi : i < N) (hN : N < 2 ^ 31) (hdg : decode cc pc = .ok (.iastore, 1))
    (kk : ∀ (H1 : Heap) (locs1 : List Loc), va_P D vwCl (ws.set q0 (a, .inl (cA, N, .inl (upd fn i x)))) H1 → va_D A (ws.set q0 (a, .inl (cA, N, .inl (upd fn i x)))) → va_S A H0 H1 locs1 → W p l e R s m args below meth c H1 locs1 cells slots Q (F0 m (pc + 1) ls rest)) : W p l e R s m args below meth c H locs cells slots Q (F0 m pc ls (.int x :: .int (nI i) :: .ref a :: rest)) := by
  refine va_iast hx hb hK hP hD hS q0 t0 ha ht (vp_in_nI hi hN) hdg ?_
  rw [nI_clamp (by omega)]; exact kk
theorem xa_zast {ws : va_W} {a : Nat} {A : Nat → Prop} {H0 : Heap} (hx : p.tables.exec = Jvm.exec) (hb : c.code = cc) (hK : va_K D vwCl tys s) (hP : va_P D vwCl ws H) (hD : va_D A ws) (hS : va_S A H0 H locs) (q0 t0 : Nat) {cA : ClassId} {N : Nat} {fn : Nat → Int32} (ha : ws[q0]? = some (a, .inl (cA, N, .inl fn))) (ht : tys[t0]? = some (cA, .boolean)) {i : Nat} {x : Int32} (hi : i < N) (hN : N < 2 ^ 31) (hz : vp_nar .boolean x = x) (hdg : decode cc pc = .ok (.bastore, 1))
    (kk : ∀ (H1 : Heap) (locs1 : List Loc), va_P D vwCl (ws.set q0 (a, .inl (cA, N, .inl (upd fn i x)))) H1 → va_D A (ws.set q0 (a, .inl (cA, N, .inl (upd fn i x)))) → va_S A H0 H1 locs1 → W p l e R s m args below meth c H1 locs1 cells slots Q (F0 m (pc + 1) ls rest)) : W p l e R s m args below meth c H locs cells slots Q (F0 m pc ls (.int x :: .int (nI i) :: .ref a :: rest)) := by
  refine va_zast hx hb hK hP hD hS q0 t0 ha ht (vp_in_nI hi hN) hdg ?_
  rw [nI_clamp (by omega), hz]; exact kk
end XR
/-- a truth as Java's int -/
def bI (b : Bool) : Int32 := if b then 1 else 0
theorem bI_nar (b : Bool) : narrow .boolean (.int (bI b)) = .int (bI b) := by cases b <;> rfl
theorem bI_vp (b : Bool) : vp_nar .boolean (bI b) = bI b := by cases b <;> rfl
theorem bI_eq0 (b : Bool) : bI b = 0 ↔ b = false := by cases b <;> decide
theorem bI_1 {b : Bool} (h : b = true) : nI 1 = bI b := by rw [h]; rfl
theorem bI_0 {b : Bool} (h : b = false) : nI 0 = bI b := by rw [h]; rfl
theorem bI_t {b : Bool} (h : ¬ bI b = 0) : b = true := by cases b with | false => exact absurd rfl h | true => rfl
theorem bI_f {b : Bool} (h : bI b = 0) : b = false := (bI_eq0 b).mp h
section XT
variable {p : Program} {l : Launch} {e : Env} {R : Room} {s : State} {m : MethodId} {args : Array Value} {below : List Frame} {meth : Method} {c : Code} {H : Heap} {locs : List Loc} {cells slots : Nat} {Q : State → Prop}
variable {cc : ByteArray} {pc nL : Nat} {ls : Array Slot} {st0 rest As : List Value} {own C : String} {index maxL n f q : Nat} {y : MethodName} {bytes : ByteArray} {ret : Option FieldType} {D : va_G} {wsub : va_W} {tys : List (ClassId × FieldType)} {b : Nat}
theorem xtop {x y : Int32} (h : x = y) (k : W p l e R s m args below meth c H locs cells slots Q (F0 m pc ls (.int y :: rest))) : W p l e R s m args below meth c H locs cells slots Q (F0 m pc ls (.int x :: rest)) := by
  rw [h]; exact k
theorem xtop2 {v : Value} {x y : Int32} (h : x = y) (k : W p l e R s m args below meth c H locs cells slots Q (F0 m pc ls (v :: .int y :: rest))) : W p l e R s m args below meth c H locs cells slots Q (F0 m pc ls (v :: .int x :: rest)) := by
  rw [h]; exact k
theorem xr_min (hexec : p.tables.exec = Jvm.exec) (hb : c.code = cc) (hml : c.maxLocals = ls.size) (hown : s.vm.findClass own = some m.cls) (hlink : (Cond.methodLink own index ⟨"java/lang/Math", "min", "(II)I"⟩).before args s = true) (hstat : (Cond.static ⟨"java/lang/Math", "min", "(II)I"⟩).before args s = true) (hini : (Cond.initialized "java/lang/Math").before args s = true) (hcode : (Cond.code ⟨"java/lang/Math", "min", "(II)I"⟩ prog_11_method_69_code 2 (some .int)).before args s = true)
    (hframes : 1 ≤ R.frames) (hlocals : (rest.map fun v => v.category).sum + 13 ≤ R.locals) (hc : cells ≤ R.cells) (hs : slots ≤ R.slots) {x y : Int32} (hdg : decode cc pc = .ok (.invokestatic index, 3))
    (kk : W p l e R s m args below meth c H locs cells slots Q (F0 m (pc + 3) ls (.int (if y < x then y else x) :: rest))) : W p l e R s m args below meth c H locs cells slots Q (F0 m pc ls (.int y :: .int x :: rest)) := by
  have e1 : prog_11_method_69_code = Lib.Math.min.code := by decide +kernel
  rw [e1] at hcode
  exact va_mmin hexec hb hml hown hlink hstat hini hcode hframes hlocals hc hs hdg kk
theorem xtab_out {x : Int32} (h1 : ¬ x = nI 1) (h2 : ¬ x = nI 2) (h3 : ¬ x = nI 3) (h4 : ¬ x = nI 4) : x.toInt < 1 ∨ 4 < x.toInt := by
  have a1 := lv_neT h1 (a := 1) (by decide)
  have a2 := lv_neT h2 (a := 2) (by decide)
  have a3 := lv_neT h3 (a := 3) (by decide)
  have a4 := lv_neT h4 (a := 4) (by decide)
  omega
theorem xD_of {A : Nat → Prop} {ws wc w1 : va_W} (hD : va_D A ws) (isC : List Nat) (hC : isC.map (fun i => ws[i]?) = wc.map some) (hnC : va_nd isC = true) (ha : w1.map (·.1) = wc.map (·.1)) : va_D (xA wc) wc ∧ (∀ (k : Nat) (q : Nat × va_E), wc[k]? = some q → A q.1) ∧ va_D (xA wc) w1 := by
  have h1 := hD.sub isC hnC hC
  have hk : ∀ (k : Nat) (q : Nat × va_E), w1[k]? = some q → ∃ e2, wc[k]? = some (q.1, e2) := by
    intro k q hq
    have h2 : (w1.map (·.1))[k]? = some q.1 := by rw [List.getElem?_map, hq]; rfl
    rw [ha, List.getElem?_map] at h2
    cases hw : wc[k]? with
    | none => rw [hw] at h2; cases h2
    | some z =>
      rw [hw] at h2
      have h3 : z.1 = q.1 := Option.some.inj h2
      exact ⟨z.2, by rw [← h3]⟩
  refine ⟨⟨h1.1, fun k q h => ⟨k, q.2, h⟩⟩, h1.2, ⟨fun i j a d hi hj had => ?_, fun k q h => ?_⟩⟩
  · obtain ⟨x1, hx1⟩ := hk i a hi
    obtain ⟨x2, hx2⟩ := hk j d hj
    exact h1.1 i j _ _ hx1 hx2 had
  · obtain ⟨x1, hx1⟩ := hk k q h
    exact ⟨k, x1, hx1⟩
/-- behind a writing call: the caller's other cells, the callee's world, in the order perm -/
theorem xjoin {A : Nat → Prop} {ws wc wr w1 ws2 : va_W} {H1 : Heap} (hP : va_P D vwCl ws H) (hD : va_D A ws) (isC isR perm : List Nat) (hC : isC.map (fun i => ws[i]?) = wc.map some) (hR : isR.map (fun i => ws[i]?) = wr.map some) (hnC : va_nd isC = true) (hn : va_nd isR = true) (hdis : ∀ i ∈ isR, i ∉ isC)
    (ha : w1.map (·.1) = wc.map (·.1)) (hp : perm.map (fun i => (wr ++ w1)[i]?) = ws2.map some) (hnp : va_nd perm = true)
    (hk : ∀ q : Nat, q < H.size → ¬ xA wc q → H1[q]? = H[q]?) (hP1 : va_P D vwCl w1 H1) : va_P D vwCl ws2 H1 ∧ va_D A ws2 := by
  obtain ⟨d1, d2, d3⟩ := xD_of hD isC hC hnC ha
  have hD9 : va_D (fun q => A q ∨ H.size ≤ q) ws := hD.weaken (fun _ _ _ h => Or.inl h)
  obtain ⟨g1, g2⟩ := va_join hP hD9 isC isR hC hR hn hdis (fun q h1 h2 => hk q h1 (fun z => h2 (Or.inl z))) (fun q h => by
    rcases h with ⟨k, e1, h⟩ | h
    · exact Or.inl (d2 k _ h)
    · exact Or.inr h) hP1 (d3.weaken (fun _ _ _ h => Or.inl h))
  have hR2 := hD.sub isR hn hR
  have g3 : va_D A (wr ++ w1) := by
    refine ⟨g2.1, fun k q h => ?_⟩
    rcases List.mem_append.mp (List.mem_of_getElem? h) with h | h
    · obtain ⟨i, hi⟩ := List.getElem?_of_mem h
      exact hR2.2 i q hi
    · obtain ⟨i, hi⟩ := List.getElem?_of_mem h
      obtain ⟨j, e1, hj⟩ := d3.2 i q hi
      exact d2 j (q.1, e1) hj
  have hp2 : perm.filterMap (fun i => (wr ++ w1)[i]?) = ws2 := by
    have e1 : ∀ (ps : List Nat) (w : va_W), ps.map (fun i => (wr ++ w1)[i]?) = w.map some → ps.filterMap (fun i => (wr ++ w1)[i]?) = w := by
      intro ps
      induction ps with
      | nil => intro w h; cases w with
        | nil => rfl
        | cons a b => cases h
      | cons i ps ih => intro w h; cases w with
        | nil => cases h
        | cons a b =>
          rw [List.map_cons, List.map_cons] at h
          injection h with h1 h2
          rw [List.filterMap_cons, h1, ih b h2]
    exact e1 perm ws2 hp
  exact ⟨g1.sub perm hp2, g3.sub perm hnp hp⟩
theorem xw_go {A : Nat → Prop} {H0 : Heap} {a : Array Value} {ro : Option Value} {ws wc w1 : va_W} (hr : va_Run p l e R s m args below meth c H locs cells slots 0 0 (F0 m pc ls st0) rest (xQw ro D wc w1 a) (xA wc)) (hS : va_S A H0 H locs) (hwc : ∀ q, xA wc q → A q)
    (kk : ∀ (H1 : Heap) (locs1 : List Loc), va_P D vwCl w1 H1 → (∀ q : Nat, q < H.size → ¬ xA wc q → H1[q]? = H[q]?) → va_S A H0 H1 locs1 → W p l e R s m args below meth c H1 locs1 cells slots Q (F0 m (pc + 3) ls (ro.toList ++ rest))) : W p l e R s m args below meth c H locs cells slots Q (F0 m pc ls st0) := by
  intro T hT X
  obtain ⟨v, st₀, t, T', L, h0, X', hL, e1, -, ⟨hv, hp, hz, hk⟩, st⟩ := hr T hT X
  cases hv
  rw [h0] at hz hk
  obtain ⟨t2, a1, b1⟩ := kk T'.heap (locs ++ L) (by rw [e1]; exact hp) (fun q h1 h2 => by rw [e1]; exact hk q h1 h2)
    ⟨Nat.le_trans hS.1 (by rw [e1]; exact hz), fun q h1 h2 => by rw [e1, hk q (Nat.lt_of_lt_of_le h1 hS.1) (fun z => h2 (hwc q z))]; exact hS.2.1 q h1 h2, fun q hq => by
      rcases List.mem_append.mp hq with h | h
      · exact hS.2.2 q h
      · exact hwc _ (hL q h)⟩ T' rfl X'
  exact ⟨t2, st t2 a1, b1⟩
/-- a call of a writing method by its object -/
theorem xwV {A : Nat → Prop} {H0 : Heap} {ro : Option Value} {ws wc wr w1 ws2 : va_W} (hx : p.tables.exec = Jvm.exec) (hb : c.code = cc) (hml : c.maxLocals = nL) (hown : s.vm.findClass own = some m.cls) (ht : ∀ w ∈ wBIG, w.before args s = true) (hN : xN s)
    (k : xcV own C index y bytes maxL ret n) (hM : xWR l y bytes maxL ret (xrm f q) (.ref b :: As) D wc tys ro w1) (hR : f + 1 ≤ R.frames ∧ 8 + (maxL + 11) + q ≤ R.locals)
    (hP : va_P D vwCl ws H) (hD : va_D A ws) (hS : va_S A H0 H locs) (hK : va_K D vwCl tys s)
    (isC isR perm : List Nat) (hC : isC.map (fun i => ws[i]?) = wc.map some) (hRr : isR.map (fun i => ws[i]?) = wr.map some) (hnC : va_nd isC = true) (hnR : va_nd isR = true) (hdis : ∀ i ∈ isR, i ∉ isC) (ha : w1.map (·.1) = wc.map (·.1)) (hp : perm.map (fun i => (wr ++ w1)[i]?) = ws2.map some) (hnp : va_nd perm = true)
    {ci : Nat} {fs : List Value} {qc : vw_C} (he : wc[0]? = some (b, .inr (ci, fs))) (hc : vwCl[ci]? = some qc) (hqc : qc.1 = C)
    (hn : As.length = n) (hsize : ls.size = nL) (hst : st0 = As.reverse ++ .ref b :: rest) (hcat : (rest.map fun v => v.category).sum ≤ 8) (hdg : decode cc pc = .ok (.invokevirtual index, 3)) (hf : cells ≤ R.cells ∧ slots ≤ R.slots)
    (kk : ∀ (H1 : Heap) (locs1 : List Loc), va_P D vwCl ws2 H1 → va_D A ws2 → va_S A H0 H1 locs1 → W p l e R s m args below meth c H1 locs1 cells slots Q (F0 m (pc + 3) ls (ro.toList ++ rest))) : W p l e R s m args below meth c H locs cells slots Q (F0 m pc ls st0) := by
  subst hqc
  obtain ⟨d1, d2, d3⟩ := xD_of hD isC hC hnC ha
  have hPc : va_P D vwCl wc H := by
    intro j z hz
    have h1 : (isC.map (fun i => ws[i]?))[j]? = some (some z) := by rw [hC, List.getElem?_map, hz]; rfl
    rw [List.getElem?_map] at h1
    cases hi : isC[j]? with
    | none => rw [hi] at h1; cases h1
    | some i => rw [hi] at h1; exact hP i z (Option.some.inj h1)
  refine xw_go (ws := ws) (va_runV (As := As) (rest := rest) ⟨hx, hb, hml, hown, ht⟩ hM (k.cw ht rfl rfl hR) ⟨fun a U g mk h => ⟨h.1, h.2.1.calling, h.2.2⟩, va_recv hK hPc hc he, fun U hU hW => ⟨rfl, xB.at hPc hK hN hU hW, d1.weaken (fun _ _ _ _ => trivial)⟩⟩ rfl hn hsize hst (lv_room hcat) hdg hf) hS (fun q ⟨j, e1, h⟩ => d2 j _ h) (fun H1 locs1 h1 h2 h3 => ?_)
  obtain ⟨g1, g2⟩ := xjoin hP hD isC isR perm hC hRr hnC hnR hdis ha hp hnp h2 h1
  exact kk H1 locs1 g1 g2 h3
end XT
theorem xx_xor (a b : Nat) : nI a ^^^ nI b = nI (a ^^^ b) := (Int32.toBitVec_inj).mp (by
  show (nI a).toBitVec ^^^ (nI b).toBitVec = (nI (a ^^^ b)).toBitVec
  apply BitVec.eq_of_toNat_eq
  simp [nI, BitVec.toNat_xor, Nat.xor_mod_two_pow])
end
section
/-! the closures' cells and what is read off them (the landed side) -/
abbrev KF : Type := Nat → Int32
abbrev KS : Type := KF × KF × KF × KF × KF × KF × KF × KF × KF × Nat
abbrev kKd (S : KS) : KF := S.1
abbrev kPc (S : KS) : KF := S.2.1
abbrev kSd (S : KS) : KF := S.2.2.1
abbrev kSt (S : KS) : KF := S.2.2.2.1
abbrev kEn (S : KS) : KF := S.2.2.2.2.1
abbrev kXs (S : KS) : KF := S.2.2.2.2.2.1
abbrev kAn (S : KS) : KF := S.2.2.2.2.2.2.1
abbrev kWd (S : KS) : KF := S.2.2.2.2.2.2.2.1
abbrev kIc (S : KS) : KF := S.2.2.2.2.2.2.2.2.1
abbrev kN (S : KS) : Nat := S.2.2.2.2.2.2.2.2.2
abbrev tyL (cI cZ : ClassId) : List (ClassId × FieldType) := [(cI, .int), (cZ, .boolean)]
abbrev wK (a : Nat → Nat) (cI cZ : ClassId) (S : KS) : va_W :=
  [(a 0, .inr (0, [.ref (a 1), .ref (a 2), .ref (a 3), .ref (a 4), .ref (a 5), .ref (a 6), .ref (a 7), .ref (a 8), .ref (a 9), .int (nI (kN S))])),
   (a 1, .inl (cI, 100, .inl (kKd S))), (a 2, .inl (cI, 100, .inl (kPc S))), (a 3, .inl (cI, 100, .inl (kSd S))), (a 4, .inl (cI, 100, .inl (kSt S))), (a 5, .inl (cI, 100, .inl (kEn S))),
   (a 6, .inl (cI, 100, .inl (kXs S))), (a 7, .inl (cI, 100, .inl (kAn S))), (a 8, .inl (cI, 100, .inl (kWd S))), (a 9, .inl (cZ, 20, .inl (kIc S)))]
/-- what every state that comes has: numbers in their ranges -/
def kOk (S : KS) : Prop := kN S ≤ 100 ∧ (∀ i, i < 20 → kIc S i = 0 ∨ kIc S i = 1) ∧
  ∀ c, c < kN S → (kKd S c = nI 2 → ∃ i, i < 20 ∧ kXs S c = nI i) ∧ (kKd S c = nI 4 → ¬ kXs S c / nI 100 = 0) ∧ (∃ i, i < 60 ∧ kPc S c = nI i)
/-- x % y as the machine has it -/
abbrev rI (x y : Int32) : Int32 := x - x / y * y
abbrev mopK (S : KS) (c : Nat) (t : Int32) : Int32 := rI (t - kSt S c) (kXs S c / nI 100)
def holdsK (S : KS) (c : Nat) (t : Int32) : Bool :=
  if t < kSt S c then false else if t < kEn S c then
    (if kKd S c = nI 1 then decide (kAn S c = nI 1) else if kKd S c = nI 2 then decide (kIc S (kXs S c).toNatClampNeg = 1) else
     if kKd S c = nI 4 then !decide (rI (kXs S c) (nI 100) ≤ mopK S c t) else true) else false
def coversK (S : KS) (c pl : Nat) : Bool := decide (kPc S c = nI (pl / 2)) && !decide (kSd S c &&& nI (pl % 2 + 1) = 0)
def onK (S : KS) (c pl : Nat) (t : Int32) : Bool := coversK S c pl && holdsK S c t
def anyN (P : Nat → Bool) : Nat → Bool | 0 => false | n + 1 => anyN P n || P n
theorem anyN_of {P : Nat → Bool} {n c : Nat} (h : c < n) (hp : P c = true) : anyN P n = true := by
  induction n with
  | zero => omega
  | succ n ih =>
    rw [anyN]
    rcases Nat.lt_or_ge c n with q | q
    · rw [ih q]; rfl
    · have e : c = n := by omega
      subst e
      rw [hp, Bool.or_true]
theorem anyN_iff {P : Nat → Bool} {n : Nat} : anyN P n = true ↔ ∃ c, c < n ∧ P c = true := by
  induction n with
  | zero => exact ⟨fun h => by simp [anyN] at h, fun ⟨c, h, _⟩ => by omega⟩
  | succ n ih =>
    rw [anyN, Bool.or_eq_true, ih]
    constructor
    · rintro (⟨c, h1, h2⟩ | h)
      · exact ⟨c, by omega, h2⟩
      · exact ⟨n, by omega, h⟩
    · rintro ⟨c, h1, h2⟩
      rcases Nat.lt_or_ge c n with q | q
      · exact Or.inl ⟨c, q, h2⟩
      · have e : c = n := by omega
        subst e
        exact Or.inr h2
theorem anyN_congr {P P' : Nat → Bool} {n : Nat} (h : ∀ c, c < n → P c = P' c) : anyN P n = anyN P' n := by
  induction n with
  | zero => rfl
  | succ n ih => rw [anyN, anyN, ih (fun c hc => h c (by omega)), h n (by omega)]
def cntN (P : Nat → Bool) : Nat → Nat | 0 => 0 | n + 1 => cntN P n + (if P n then 1 else 0)
theorem cntN_le (P : Nat → Bool) (n : Nat) : cntN P n ≤ n := by
  induction n with
  | zero => exact Nat.le_refl _
  | succ n ih => rw [cntN]; split <;> omega
theorem cntN_congr {P P' : Nat → Bool} {n : Nat} (h : ∀ c, c < n → P c = P' c) : cntN P n = cntN P' n := by
  induction n with
  | zero => rfl
  | succ n ih => rw [cntN, cntN, ih (fun c hc => h c (by omega)), h n (by omega)]
/-- the first place where P holds, else -1 -/
def fstN (P : Nat → Bool) : Nat → Nat → Int32 | _, 0 => -1 | c, k + 1 => if P c then nI c else fstN P (c + 1) k
theorem fstN_congr {P P' : Nat → Bool} {k : Nat} : ∀ {c : Nat}, (∀ d, c ≤ d → d < c + k → P d = P' d) → fstN P c k = fstN P' c k := by
  induction k with
  | zero => intro c _; rfl
  | succ k ih =>
    intro c h
    rw [fstN, fstN, h c (Nat.le_refl _) (by omega), ih (fun d h1 h2 => h d (by omega) (by omega))]
def minN (P : Nat → Bool) (v : Nat → Int32) : Nat → Int32 | 0 => nI 100 | n + 1 => if P n then (if v n < minN P v n then v n else minN P v n) else minN P v n
theorem minN_congr {P P' : Nat → Bool} {v v' : Nat → Int32} {n : Nat} (h : ∀ c, c < n → P c = P' c) (hv : ∀ c, c < n → v c = v' c) : minN P v n = minN P' v' n := by
  induction n with
  | zero => rfl
  | succ n ih => rw [minN, minN, ih (fun c hc => h c (by omega)) (fun c hc => hv c (by omega)), h n (by omega), hv n (by omega)]
def closedK (S : KS) (pl : Nat) (t : Int32) : Bool := anyN (fun c => !decide (kKd S c = nI 5) && onK S c pl t) (kN S)
def aheadK (S : KS) (d c : Nat) : Bool := if kEn S d < kEn S c then true else decide (kEn S d = kEn S c) && decide (d < c)
def rankK (S : KS) (c pl : Nat) (t : Int32) : Nat := cntN (fun d => aheadK S d c && onK S d pl t) (kN S)
def holdingK (S : KS) (pl : Nat) (t i : Int32) : Int32 := fstN (fun c => onK S c pl t && decide (nI (rankK S c pl t) = i)) 0 (kN S)
def percentK (S : KS) (pl : Nat) (t : Int32) : Int32 := minN (fun c => decide (kKd S c = nI 5) && onK S c pl t) (kXs S) (kN S)
abbrev mnI (x y : Int32) : Int32 := if y < x then y else x
def changeK (S : KS) (c : Nat) (t : Int32) : Int32 :=
  if t < kEn S c then (if kSt S c ≤ t then (if kKd S c = nI 4 then
    mnI (t - mopK S c t + (if rI (kXs S c) (nI 100) ≤ mopK S c t then kXs S c / nI 100 else rI (kXs S c) (nI 100))) (kEn S c) else kEn S c) else kSt S c) else nI 100000
def nextK (S : KS) (t : Int32) : Nat → Int32 | 0 => nI 100000 | n + 1 => mnI (nextK S t n) (changeK S n t)
def nextOnK (S : KS) (pl : Nat) (t : Int32) : Nat → Int32 | 0 => nI 100000 | n + 1 => if coversK S n pl then mnI (nextOnK S pl t n) (changeK S n t) else nextOnK S pl t n

/-! writes -/
def addK (S : KS) (k pi si f t x : Int32) : KS := (upd (kKd S) (kN S) k, upd (kPc S) (kN S) pi, upd (kSd S) (kN S) si, upd (kSt S) (kN S) f, upd (kEn S) (kN S) t, upd (kXs S) (kN S) x, upd (kAn S) (kN S) (nI 0), upd (kWd S) (kN S) (-1 : Int32), kIc S, kN S + 1)
def ansK (S : KS) (c : Nat) (v : Int32) : KS := (kKd S, kPc S, kSd S, kSt S, kEn S, kXs S, upd (kAn S) c v, kWd S, kIc S, kN S)
def incK (S : KS) (i : Nat) (v : Int32) : KS := (kKd S, kPc S, kSd S, kSt S, kEn S, kXs S, kAn S, kWd S, upd (kIc S) i v, kN S)
def endK (S : KS) (c : Nat) (v : Int32) : KS := (kKd S, kPc S, kSd S, kSt S, upd (kEn S) c v, kXs S, kAn S, kWd S, kIc S, kN S)
def wrdK (S : KS) (c : Nat) (v : Int32) : KS := (kKd S, kPc S, kSd S, kSt S, kEn S, kXs S, kAn S, upd (kWd S) c v, kIc S, kN S)
def giveK (S : KS) (c : Nat) (v : Int32) : KS := if kKd S c = nI 3 ∧ kWd S c = (-1 : Int32) then wrdK S c v else S
def gaveK (S : KS) (c : Nat) (v : Int32) : Bool := !decide (kKd S c = nI 3) || !decide (kWd (giveK S c v) c = v)
/-- cells whose contents agree below their length are one -/
theorem xcell_congr {cA : ClassId} {n : Nat} {f g : Nat → Int32} (h : ∀ j, j < n → f j = g j) : vp_cell cA (n, .inl f) = vp_cell cA (n, .inl g) := by
  rw [vp_cell_i, vp_cell_i]
  unfold arrV
  congr 1
  apply Array.ext
  · simp
  · intro i h1 h2
    simp at h1 h2 ⊢
    exact h i h1
theorem xP_congr {D : va_G} {w1 w2 : va_W} {b : Nat} {cA : ClassId} {n : Nat} {f g : Nat → Int32} {H : Heap} (h : ∀ j, j < n → f j = g j) (hP : va_P D vwCl (w1 ++ (b, .inl (cA, n, .inl f)) :: w2) H) : va_P D vwCl (w1 ++ (b, .inl (cA, n, .inl g)) :: w2) H := by
  intro k q hq
  rcases Nat.lt_trichotomy k w1.length with hk | hk | hk
  · rw [List.getElem?_append_left hk] at hq
    exact hP k q (by rw [List.getElem?_append_left hk]; exact hq)
  · subst hk
    rw [List.getElem?_append_right (Nat.le_refl _), Nat.sub_self] at hq
    have e1 : (b, (.inl (cA, n, .inl g) : va_E)) = q := Option.some.inj hq
    subst e1
    have h1 := hP w1.length (b, .inl (cA, n, .inl f)) (by rw [List.getElem?_append_right (Nat.le_refl _), Nat.sub_self]; rfl)
    have h2 : H[b]? = some (vp_cell cA (n, .inl f)) := h1
    show H[b]? = some (vp_cell cA (n, .inl g))
    rw [h2, xcell_congr h]
  · rw [List.getElem?_append_right (Nat.le_of_lt hk)] at hq
    obtain ⟨j, hj⟩ : ∃ j, k - w1.length = j + 1 := ⟨k - w1.length - 1, by omega⟩
    rw [hj, List.getElem?_cons_succ] at hq
    exact hP k q (by rw [List.getElem?_append_right (Nat.le_of_lt hk), hj, List.getElem?_cons_succ]; exact hq)
theorem xD_addr {A : Nat → Prop} {w1 w2 : va_W} (h : va_D A w1) (ha : w2.map (·.1) = w1.map (·.1)) : va_D A w2 := by
  have hk : ∀ (k : Nat) (q : Nat × va_E), w2[k]? = some q → ∃ e2, w1[k]? = some (q.1, e2) := by
    intro k q hq
    have h2 : (w2.map (·.1))[k]? = some q.1 := by rw [List.getElem?_map, hq]; rfl
    rw [ha, List.getElem?_map] at h2
    cases hw : w1[k]? with
    | none => rw [hw] at h2; cases h2
    | some z =>
      rw [hw] at h2
      have h3 : z.1 = q.1 := Option.some.inj h2
      exact ⟨z.2, by rw [← h3]⟩
  refine ⟨fun i j a d hi hj had => ?_, fun k q hq => ?_⟩
  · obtain ⟨x1, hx1⟩ := hk i a hi
    obtain ⟨x2, hx2⟩ := hk j d hj
    exact h.1 i j _ _ hx1 hx2 had
  · obtain ⟨x1, hx1⟩ := hk k q hq
    exact h.2 k (q.1, x1) hx1
def zfil (rw0 : KF) (i : Nat) : KF := fun j => if j < i then nI 0 else rw0 j
theorem zfil_s (rw0 : KF) (i : Nat) : upd (zfil rw0 i) i (nI 0) = zfil rw0 (i + 1) := by
  funext j
  unfold upd zfil
  by_cases h : j = i
  · rw [if_pos h, if_pos (by omega)]
  · rw [if_neg h]
    by_cases h2 : j < i
    · rw [if_pos h2, if_pos (by omega)]
    · rw [if_neg h2, if_neg (by omega)]
def rowK (S : KS) (t : Int32) (c : Nat) : KF := fun pl => bI (anyN (fun d => !decide (kKd S d = nI 5) && onK S d pl t) c)
def markK (S : KS) (c : Nat) (r : KF) : KF := fun pl => if coversK S c pl then nI 1 else r pl
theorem rowK_s (S : KS) (t : Int32) (c : Nat) : rowK S t (c + 1) = if (!decide (kKd S c = nI 5) && holdsK S c t) = true then markK S c (rowK S t c) else rowK S t c := by
  funext pl
  unfold rowK
  rw [anyN, onK]
  by_cases h : (!decide (kKd S c = nI 5) && holdsK S c t) = true
  · rw [if_pos h]
    rw [Bool.and_eq_true] at h
    rw [h.1, h.2, Bool.true_and, Bool.and_true]
    unfold markK
    cases hc : coversK S c pl with
    | true => rw [Bool.or_true]; rfl
    | false => rw [Bool.or_false]; rfl
  · rw [if_neg h]
    rw [Bool.not_eq_true, Bool.and_eq_false_iff] at h
    rcases h with h | h
    · rw [h, Bool.false_and, Bool.or_false]
    · rw [h, Bool.and_false, Bool.and_false, Bool.or_false]
theorem markK_of {S : KS} {c pi : Nat} (hp : kPc S c = nI pi) (hpi : pi < 60) (r : KF) (j : Nat) (hj : j < 120) :
    markK S c r j = (if kSd S c &&& nI 2 = 0 then (if kSd S c &&& nI 1 = 0 then r else upd r (2 * pi + 0) (nI 1)) else upd (if kSd S c &&& nI 1 = 0 then r else upd r (2 * pi + 0) (nI 1)) (2 * pi + 1) (nI 1)) j := by
  have e : coversK S c j = (decide (pi = j / 2) && !decide (kSd S c &&& nI (j % 2 + 1) = 0)) := by
    unfold coversK
    rw [hp]
    congr 1
    exact decide_eq_decide.mpr (nI_eq (by omega) (by omega))
  unfold markK
  rw [e]
  by_cases h3 : pi = j / 2
  · rcases (show j % 2 = 0 ∨ j % 2 = 1 by omega) with h | h
    · have e1 : j = 2 * pi + 0 := by omega
      have e2 : ¬ j = 2 * pi + 1 := by omega
      rw [h, decide_eq_true h3, Bool.true_and]
      by_cases h1 : kSd S c &&& nI 1 = 0 <;> by_cases h2 : kSd S c &&& nI 2 = 0
      · rw [if_pos h2, if_pos h1, decide_eq_true h1]; rfl
      · rw [if_neg h2, if_pos h1, decide_eq_true h1, pk_un e2]; rfl
      · rw [if_pos h2, if_neg h1, decide_eq_false h1, e1, pk_us]; rfl
      · rw [if_neg h2, if_neg h1, decide_eq_false h1, pk_un e2, e1, pk_us]; rfl
    · have e1 : ¬ j = 2 * pi + 0 := by omega
      have e2 : j = 2 * pi + 1 := by omega
      rw [h, decide_eq_true h3, Bool.true_and]
      by_cases h1 : kSd S c &&& nI 1 = 0 <;> by_cases h2 : kSd S c &&& nI 2 = 0
      · rw [if_pos h2, if_pos h1, decide_eq_true h2]; rfl
      · rw [if_neg h2, if_pos h1, decide_eq_false h2, e2, pk_us]; rfl
      · rw [if_pos h2, if_neg h1, decide_eq_true h2, pk_un e1]; rfl
      · rw [if_neg h2, if_neg h1, decide_eq_false h2, e2, pk_us]; rfl
  · have e1 : ¬ j = 2 * pi + 0 := by omega
    have e2 : ¬ j = 2 * pi + 1 := by omega
    rw [decide_eq_false h3, Bool.false_and]
    by_cases h1 : kSd S c &&& nI 1 = 0 <;> by_cases h2 : kSd S c &&& nI 2 = 0
    · rw [if_pos h2, if_pos h1]; rfl
    · rw [if_neg h2, if_pos h1, pk_un e2]; rfl
    · rw [if_pos h2, if_neg h1, pk_un e1]; rfl
    · rw [if_neg h2, if_neg h1, pk_un e2, pk_un e1]; rfl
end
section
/-! routes, notices, the whole object -/
abbrev nF (f : Nat → Nat) : KF := fun j => nI (f j)
abbrev bF (f : Nat → Bool) : KF := fun j => bI (f j)
def updN (f : Nat → Nat) (k x : Nat) : Nat → Nat := fun j => if j = k then x else f j
def updB (f : Nat → Bool) (k : Nat) (x : Bool) : Nat → Bool := fun j => if j = k then x else f j
theorem nF_upd (f : Nat → Nat) (k x : Nat) : upd (nF f) k (nI x) = nF (updN f k x) := by
  funext j; unfold upd nF updN; by_cases h : j = k
  · rw [if_pos h, if_pos h]
  · rw [if_neg h, if_neg h]
theorem bF_upd (f : Nat → Bool) (k : Nat) (x : Bool) : upd (bF f) k (bI x) = bF (updB f k x) := by
  funext j; unfold upd bF updB; by_cases h : j = k
  · rw [if_pos h, if_pos h]
  · rw [if_neg h, if_neg h]
theorem bI_inj {x y : Bool} : bI x = bI y ↔ x = y := by cases x <;> cases y <;> decide
abbrev RS : Type := (Nat → Nat) × (Nat → Nat)
abbrev rP (R : RS) : Nat → Nat := R.1
abbrev rL (R : RS) : Nat → Nat := R.2
def rOk (R : RS) : Prop := ∀ u, u < 10 → rL R u ≤ 12 ∧ ∀ k, k < rL R u → rP R (u * 12 + k) < 120
abbrev NS : Type := KF × Nat
abbrev nRw (N : NS) : KF := N.1
abbrev nT (N : NS) : Nat := N.2
abbrev wR (b : Nat → Nat) (cI : ClassId) (R : RS) : va_W := [(b 0, .inr (2, [.ref (b 1), .ref (b 2)])), (b 1, .inl (cI, 120, .inl (nF (rP R)))), (b 2, .inl (cI, 10, .inl (nF (rL R))))]
abbrev wNt (b : Nat → Nat) (cI : ClassId) (N : NS) : va_W := [(b 0, .inr (1, [.ref (b 1), .int (nI (nT N))])), (b 1, .inl (cI, 500, .inl (nRw N)))]
def hasR (R : RS) (u pl : Nat) : Bool := anyN (fun k => decide (rP R (u * 12 + k) = pl)) (rL R u)
def stepR (R : RS) (u pl : Nat) : RS := (updN (rP R) (u * 12 + rL R u) pl, updN (rL R) u (rL R u + 1))
def emptyR (R : RS) (u : Nat) : RS := (rP R, updN (rL R) u 0)
abbrev fstT (t : Nat) : Nat := t % 100 * 5
def noteN (N : NS) (u pl : Nat) (b : Bool) (mm : Int32) : NS :=
  (upd (upd (upd (upd (upd (nRw N) (fstT (nT N)) (nI u)) (fstT (nT N) + 1) (nI (pl / 2))) (fstT (nT N) + 2) (nI (pl % 2 + 1))) (fstT (nT N) + 3) (bI b)) (fstT (nT N) + 4) mm, nT N + 1)
def tellN (R : RS) (pl : Nat) (b : Bool) (mm : Int32) (N : NS) : Nat → NS
  | 0 => N
  | u + 1 => if hasR R u pl then noteN (tellN R pl b mm N u) u pl b mm else tellN R pl b mm N u
def lookN (R : RS) (was now : Nat → Bool) (mm : Int32) (N : NS) : Nat → NS
  | 0 => N
  | i + 1 => if was i = now i then lookN R was now mm N i else tellN R i (now i) mm (lookN R was now mm N i) 10
theorem tellN_le (R : RS) (pl : Nat) (b : Bool) (mm : Int32) (N : NS) (u : Nat) : nT N ≤ nT (tellN R pl b mm N u) ∧ nT (tellN R pl b mm N u) ≤ nT N + u := by
  induction u with
  | zero => exact ⟨Nat.le_refl _, Nat.le_refl _⟩
  | succ u ih =>
    rw [tellN]
    by_cases h : hasR R u pl = true
    · rw [if_pos h]; show nT N ≤ nT (tellN R pl b mm N u) + 1 ∧ nT (tellN R pl b mm N u) + 1 ≤ nT N + (u + 1); omega
    · rw [if_neg h]; omega
theorem lookN_le (R : RS) (was now : Nat → Bool) (mm : Int32) (N : NS) (i : Nat) : nT N ≤ nT (lookN R was now mm N i) ∧ nT (lookN R was now mm N i) ≤ nT N + 10 * i := by
  induction i with
  | zero => exact ⟨Nat.le_refl _, Nat.le_refl _⟩
  | succ i ih =>
    rw [lookN]
    by_cases h : was i = now i
    · rw [if_pos h]; omega
    · rw [if_neg h]
      have h1 := tellN_le R i (now i) mm (lookN R was now mm N i) 10
      omega
theorem lookN_same (R : RS) (was now : Nat → Bool) (mm : Int32) (N : NS) (i : Nat) (h : ∀ j, j < i → was j = now j) : lookN R was now mm N i = N := by
  induction i with
  | zero => rfl
  | succ i ih => rw [lookN, if_pos (h i (by omega))]; exact ih (fun j hj => h j (by omega))
/-- told so far: now below i, was from i on -/
def toldB (was now : Nat → Bool) (i : Nat) : Nat → Bool := fun j => if j < i then now j else was j
theorem toldB_s (was now : Nat → Bool) (i : Nat) : updB (toldB was now i) i (now i) = toldB was now (i + 1) := by
  funext j; unfold updB toldB
  by_cases h : j = i
  · rw [if_pos h, if_pos (by omega), h]
  · rw [if_neg h]
    by_cases h2 : j < i
    · rw [if_pos h2, if_pos (by omega)]
    · rw [if_neg h2, if_neg (by omega)]
theorem toldB_e {was now : Nat → Bool} {i : Nat} (e : was i = now i) : toldB was now i = toldB was now (i + 1) := by
  funext j; unfold toldB
  by_cases h : j = i
  · subst h; rw [if_neg (by omega), if_pos (by omega), e]
  · by_cases h2 : j < i
    · rw [if_pos h2, if_pos (by omega)]
    · rw [if_neg h2, if_neg (by omega)]
theorem toldB_at (was now : Nat → Bool) (i : Nat) : toldB was now i i = was i := by unfold toldB; rw [if_neg (by omega)]
/-- the whole object's state: closures, routes, notices, told, marked, the clock -/
abbrev CS : Type := KS × RS × NS × (Nat → Bool) × (Nat → Bool) × Nat
abbrev cK (C : CS) : KS := C.1
abbrev cR (C : CS) : RS := C.2.1
abbrev cN (C : CS) : NS := C.2.2.1
abbrev cW (C : CS) : Nat → Bool := C.2.2.2.1
abbrev cM (C : CS) : Nat → Bool := C.2.2.2.2.1
abbrev cT (C : CS) : Nat := C.2.2.2.2.2
abbrev wC (a : Nat → Nat) (cI cZ : ClassId) (C : CS) : va_W :=
  [(a 17, .inr (3, [.ref (a 0), .ref (a 10), .ref (a 13), .ref (a 15), .ref (a 16), .int (nI (cT C))])),
   (a 0, .inr (0, [.ref (a 1), .ref (a 2), .ref (a 3), .ref (a 4), .ref (a 5), .ref (a 6), .ref (a 7), .ref (a 8), .ref (a 9), .int (nI (kN (cK C)))])),
   (a 1, .inl (cI, 100, .inl (kKd (cK C)))), (a 2, .inl (cI, 100, .inl (kPc (cK C)))), (a 3, .inl (cI, 100, .inl (kSd (cK C)))), (a 4, .inl (cI, 100, .inl (kSt (cK C)))), (a 5, .inl (cI, 100, .inl (kEn (cK C)))),
   (a 6, .inl (cI, 100, .inl (kXs (cK C)))), (a 7, .inl (cI, 100, .inl (kAn (cK C)))), (a 8, .inl (cI, 100, .inl (kWd (cK C)))), (a 9, .inl (cZ, 20, .inl (kIc (cK C)))),
   (a 10, .inr (2, [.ref (a 11), .ref (a 12)])), (a 11, .inl (cI, 120, .inl (nF (rP (cR C))))), (a 12, .inl (cI, 10, .inl (nF (rL (cR C))))),
   (a 13, .inr (1, [.ref (a 14), .int (nI (nT (cN C)))])), (a 14, .inl (cI, 500, .inl (nRw (cN C)))),
   (a 15, .inl (cZ, 120, .inl (bF (cW C)))), (a 16, .inl (cZ, 120, .inl (bF (cM C))))]
/-- what is closed at the minute t -/
abbrev clB (S : KS) (t : Nat) : Nat → Bool := fun pl => closedK S pl (nI t)
def setCN (C : CS) (N : NS) : CS := (cK C, cR C, N, cW C, cM C, cT C)
def setCM (C : CS) (f : Nat → Bool) : CS := (cK C, cR C, cN C, cW C, f, cT C)
/-- behind tellChanges -/
def tellC (C : CS) : CS := (cK C, cR C, lookN (cR C) (cW C) (clB (cK C) (cT C)) (nI (cT C)) (cN C) 120, toldB (cW C) (clB (cK C) (cT C)) 120, clB (cK C) (cT C), cT C)
end
section
/-- as xRO.of, for a method of the JDK's -/
theorem xRO.ofF {l : Launch} {y : MethodName} {bytes : ByteArray} {maxL : Nat} {ret : Option FieldType} {D : va_G} {wsub : va_W} {tys : List (ClassId × FieldType)} {r : Int32} {rm : Room} {av : List Value} (hy : plainFor y = true) (hlen : (lg_sl av).length ≤ maxL)
    (body : ∀ (p : Program) (e : Env) (s : State) (m : MethodId) (args : Array Value) (below : List Frame) (meth : Method) (c : Code), p.tables.exec = Jvm.exec → c.code = bytes → meth.sig.returnType = ret → c.maxLocals = maxL → s.vm.findClass y.cls = some m.cls → meth.locks = false →
      (∀ w ∈ wBIG, w.before args s = true) → xN s → va_P D vwCl wsub s.heap → va_K D vwCl tys s → ∀ ls : Array Slot, lv_has ls maxL (lv_args 0 av) →
      W p l e rm s m args below meth c s.heap [] 0 0 (MQ below (QcRead r) args s 0 0 (fun _ => False)) (F0 m 0 ls [])) : xRO l y bytes maxL ret rm av D wsub tys r := by
  refine va_MetF (cc := bytes) (maxL := maxL) (ret := ret) hy rfl ?_
  intro p e s m args below meth c s₁ B hml hv
  obtain ⟨rfl, hP, hK, hN⟩ := hv
  have hts := atoms_spec (ws := .code y bytes maxL ret :: wBIG) B.pre
  have hl := lv_entry av (n := maxL) hlen
  rw [lg_entry_eq]
  exact body p e s m _ below meth c B.exec B.bytes B.returns hml (findClass_of_methodNamed B.named) B.notSynchronized (fun w h => hts w (List.mem_cons_of_mem _ h)) hN hP hK _ hl
end
section
theorem kN_X0_86 : xcN RX0 86 yX3_periodOf cX3_periodOf 1 (some .int) 1 RX3 := ⟨wd256, by decide +kernel, wd255, wd21, ⟨by decide +kernel, by decide +kernel, by decide +kernel⟩⟩
theorem kV_X0_79 : xcV RX0 RX0 79 yX0_minuteOfPeriod cX0_minuteOfPeriod 3 (some .int) 2 := ⟨wd302, wd299, wd301, wd3, wd22, rfl, ⟨by decide +kernel, by decide +kernel, by decide +kernel⟩⟩
theorem kN_X0_82 : xcN RX0 82 yX3_lengthOf cX3_lengthOf 1 (some .int) 1 RX3 := ⟨wd259, by decide +kernel, wd258, wd21, ⟨by decide +kernel, by decide +kernel, by decide +kernel⟩⟩
theorem kN_X0_89 : xcN RX0 89 yX3_pieceOf cX3_pieceOf 1 (some .int) 1 RX3 := ⟨wd336, by decide +kernel, wd335, wd21, ⟨by decide +kernel, by decide +kernel, by decide +kernel⟩⟩
theorem kN_X0_92 : xcN RX0 92 yX3_sideOf cX3_sideOf 1 (some .int) 1 RX3 := ⟨wd339, by decide +kernel, wd338, wd21, ⟨by decide +kernel, by decide +kernel, by decide +kernel⟩⟩
theorem kV_X0_76 : xcV RX0 RX0 76 yX0_covers cX0_covers 3 (some .boolean) 2 := ⟨wd484, wd481, wd483, wd9, wd22, rfl, ⟨by decide +kernel, by decide +kernel, by decide +kernel⟩⟩
theorem kV_X0_48 : xcV RX0 RX0 48 yX0_holds cX0_holds 3 (some .boolean) 2 := ⟨wd298, wd295, wd297, wd2, wd22, rfl, ⟨by decide +kernel, by decide +kernel, by decide +kernel⟩⟩
theorem kV_X0_44 : xcV RX0 RX0 44 yX0_holdsOn cX0_holdsOn 4 (some .boolean) 3 := ⟨wd480, wd477, wd479, wd8, wd22, rfl, ⟨by decide +kernel, by decide +kernel, by decide +kernel⟩⟩
theorem kV_X0_69 : xcV RX0 RX0 69 yX0_endsAheadOf cX0_endsAheadOf 3 (some .boolean) 2 := ⟨wd526, wd523, wd525, wd11, wd22, rfl, ⟨by decide +kernel, by decide +kernel, by decide +kernel⟩⟩
theorem kV_X0_65 : xcV RX0 RX0 65 yX0_rankOf cX0_rankOf 6 (some .int) 3 := ⟨wd522, wd519, wd521, wd10, wd22, rfl, ⟨by decide +kernel, by decide +kernel, by decide +kernel⟩⟩
theorem kV_X0_73 : xcV RX0 RX0 73 yX0_changeOf cX0_changeOf 6 (some .int) 2 := ⟨wd462, wd459, wd461, wd7, wd22, rfl, ⟨by decide +kernel, by decide +kernel, by decide +kernel⟩⟩
set_option maxHeartbeats 4000000 in
set_option maxRecDepth 100000 in
theorem r_X3_pieceOf (l : Launch) (D : va_G) (pl : Nat) (h : pl < 120) : xRO l yX3_pieceOf cX3_pieceOf 1 (some .int) (xrm 0 0) [.int (nI pl)] D [] [] (nI (pl / 2)) := by
  refine xRO.of (by decide) (Nat.le_of_ble_eq_true rfl) ?_
  intro p e s m args below meth cd hx hb hr hml hown hlocks ht hN hP hK ls hl
  have hl : lv_has ls 1 [(0, .int (nI pl))] := hl
  have hown : s.vm.findClass RX3 = some m.cls := hown
  refine lv_iload_n hx hb dX3_pieceOf_0 rfl (lv_at hl 0 rfl) ?_
  refine lv_iconst (v := nI 2) hx hb dX3_pieceOf_1 (by decide) ?_
  refine lv_idiv hx hb dX3_pieceOf_2 (by decide) ?_
  exact xr_iret (v := (nI pl) / (nI 2)) hx hb hr hlocks (pk_div (by omega) (by decide) (by decide)) dX3_pieceOf_3
set_option maxHeartbeats 4000000 in
set_option maxRecDepth 100000 in
theorem r_X3_sideOf (l : Launch) (D : va_G) (pl : Nat) (h : pl < 120) : xRO l yX3_sideOf cX3_sideOf 1 (some .int) (xrm 0 0) [.int (nI pl)] D [] [] (nI (pl % 2 + 1)) := by
  refine xRO.of (by decide) (Nat.le_of_ble_eq_true rfl) ?_
  intro p e s m args below meth cd hx hb hr hml hown hlocks ht hN hP hK ls hl
  have hl : lv_has ls 1 [(0, .int (nI pl))] := hl
  have hown : s.vm.findClass RX3 = some m.cls := hown
  refine lv_iload_n hx hb dX3_sideOf_0 rfl (lv_at hl 0 rfl) ?_
  refine lv_iconst (v := nI 2) hx hb dX3_sideOf_1 (by decide) ?_
  refine lv_irem hx hb dX3_sideOf_2 (by decide) ?_
  refine xtop (y := nI (pl % 2)) (pk_rem (by omega) (by decide) (by decide)) ?_
  refine lv_iconst (v := nI 1) hx hb dX3_sideOf_3 (by decide) ?_
  refine lv_iadd hx hb dX3_sideOf_4 ?_
  exact xr_iret (v := (nI (pl % 2)) + (nI 1)) hx hb hr hlocks (nI_add _ _) dX3_sideOf_5
set_option maxHeartbeats 4000000 in
set_option maxRecDepth 100000 in
theorem r_X3_placeOf (l : Launch) (D : va_G) (pi si : Nat) : xRO l yX3_placeOf cX3_placeOf 2 (some .int) (xrm 0 0) [.int (nI pi), .int (nI (si + 1))] D [] [] (nI (2 * pi + si)) := by
  refine xRO.of (by decide) (Nat.le_of_ble_eq_true rfl) ?_
  intro p e s m args below meth cd hx hb hr hml hown hlocks ht hN hP hK ls hl
  have hl : lv_has ls 2 [(0, .int (nI pi)), (1, .int (nI (si + 1)))] := hl
  have hown : s.vm.findClass RX3 = some m.cls := hown
  refine lv_iconst (v := nI 2) hx hb dX3_placeOf_0 (by decide) ?_
  refine lv_iload_n hx hb dX3_placeOf_1 rfl (lv_at hl 0 rfl) ?_
  refine lv_imul hx hb dX3_placeOf_2 ?_
  refine lv_iload_n hx hb dX3_placeOf_3 rfl (lv_at hl 1 rfl) ?_
  refine lv_iadd hx hb dX3_placeOf_4 ?_
  refine lv_iconst (v := nI 1) hx hb dX3_placeOf_5 (by decide) ?_
  refine lv_isub hx hb dX3_placeOf_6 ?_
  exact xr_iret (v := (((nI 2) * (nI pi)) + (nI (si + 1))) - (nI 1)) hx hb hr hlocks (by rw [pk_mul, nI_add, show 2 * pi + (si + 1) = (2 * pi + si) + 1 from rfl]; exact nI_pred _) dX3_placeOf_7
set_option maxHeartbeats 4000000 in
set_option maxRecDepth 100000 in
theorem r_X3_periodOf (l : Launch) (D : va_G) (x : Int32) : xRO l yX3_periodOf cX3_periodOf 1 (some .int) (xrm 0 0) [.int (x)] D [] [] (x / nI 100) := by
  refine xRO.of (by decide) (Nat.le_of_ble_eq_true rfl) ?_
  intro p e s m args below meth cd hx hb hr hml hown hlocks ht hN hP hK ls hl
  have hl : lv_has ls 1 [(0, .int (x))] := hl
  have hown : s.vm.findClass RX3 = some m.cls := hown
  refine lv_iload_n hx hb dX3_periodOf_0 rfl (lv_at hl 0 rfl) ?_
  refine lv_bipush (v := nI 100) hx hb dX3_periodOf_1 (by decide) ?_
  refine lv_idiv hx hb dX3_periodOf_3 (by decide) ?_
  exact xr_iret (v := (x) / (nI 100)) hx hb hr hlocks (rfl) dX3_periodOf_4
set_option maxHeartbeats 4000000 in
set_option maxRecDepth 100000 in
theorem r_X3_lengthOf (l : Launch) (D : va_G) (x : Int32) : xRO l yX3_lengthOf cX3_lengthOf 1 (some .int) (xrm 0 0) [.int (x)] D [] [] (rI x (nI 100)) := by
  refine xRO.of (by decide) (Nat.le_of_ble_eq_true rfl) ?_
  intro p e s m args below meth cd hx hb hr hml hown hlocks ht hN hP hK ls hl
  have hl : lv_has ls 1 [(0, .int (x))] := hl
  have hown : s.vm.findClass RX3 = some m.cls := hown
  refine lv_iload_n hx hb dX3_lengthOf_0 rfl (lv_at hl 0 rfl) ?_
  refine lv_bipush (v := nI 100) hx hb dX3_lengthOf_1 (by decide) ?_
  refine lv_irem hx hb dX3_lengthOf_3 (by decide) ?_
  exact xr_iret (v := rI (x) (nI 100)) hx hb hr hlocks (rfl) dX3_lengthOf_4
set_option maxHeartbeats 4000000 in
set_option maxRecDepth 100000 in
theorem r_X0_minuteOfPeriod (l : Launch) (D : va_G) (a : Nat → Nat) (cI cZ : ClassId) (S : KS) (hO : kOk S) (c : Nat) (hc : c < kN S) (t : Int32) (hk : ¬ kXs S c / nI 100 = 0) : xRO l yX0_minuteOfPeriod cX0_minuteOfPeriod 3 (some .int) (xrm 1 20) [.ref (a 0), .int (nI c), .int (t)] D (wK a cI cZ S) (tyL cI cZ) (mopK S c t) := by
  refine xRO.of (by decide) (Nat.le_of_ble_eq_true rfl) ?_
  intro p e s m args below meth cd hx hb hr hml hown hlocks ht hN hP hK ls hl
  have hl : lv_has ls 3 [(0, .ref (a 0)), (1, .int (nI c)), (2, .int (t))] := hl
  have hown : s.vm.findClass RX0 = some m.cls := hown
  have hn := hO.1
  refine lv_iload_n hx hb dX0_minuteOfPeriod_0 rfl (lv_at hl 2 rfl) ?_
  refine lv_aload_n hx hb dX0_minuteOfPeriod_1 rfl (lv_at hl 0 rfl) ?_
  refine va_get (D := D) (ci := 0) (v := .ref (a 4)) (C := RX0) (T := TX0) (N := 10) hx hb ht inX0 hown hK hP 0 rfl rfl 3 (by decide) (ht _ wd51) (fun _ h9 => h9) rfl dX0_minuteOfPeriod_2 ?_
  refine lv_iload_n hx hb dX0_minuteOfPeriod_5 rfl (lv_at hl 1 rfl) ?_
  refine xa_iald hx hb hK hP 4 0 (i := c) rfl rfl (by omega) (by decide) dX0_minuteOfPeriod_6 ?_
  refine lv_isub hx hb dX0_minuteOfPeriod_7 ?_
  refine lv_aload_n hx hb dX0_minuteOfPeriod_8 rfl (lv_at hl 0 rfl) ?_
  refine va_get (D := D) (ci := 0) (v := .ref (a 6)) (C := RX0) (T := TX0) (N := 10) hx hb ht inX0 hown hK hP 0 rfl rfl 5 (by decide) (ht _ wd53) (fun _ h9 => h9) rfl dX0_minuteOfPeriod_9 ?_
  refine lv_iload_n hx hb dX0_minuteOfPeriod_12 rfl (lv_at hl 1 rfl) ?_
  refine xa_iald hx hb hK hP 6 0 (i := c) rfl rfl (by omega) (by decide) dX0_minuteOfPeriod_13 ?_
  refine xrN (As := [.int (kXs S c)]) (rest := [.int ((t) - (kSt S c))]) hx hb hml hown ht hN kN_X0_86 (r_X3_periodOf l D (kXs S c)) ⟨by decide, by decide⟩ (fun k q h => by simp at h) (hK.sub (tys' := []) [] rfl) rfl hl.1 rfl (Nat.le_of_ble_eq_true rfl) dX0_minuteOfPeriod_14 ⟨Nat.zero_le _, Nat.zero_le _⟩ ?_
  refine lv_irem hx hb dX0_minuteOfPeriod_17 hk ?_
  exact xr_iret (v := rI ((t) - (kSt S c)) (kXs S c / nI 100)) hx hb hr hlocks (rfl) dX0_minuteOfPeriod_18
set_option maxHeartbeats 4000000 in
set_option maxRecDepth 100000 in
theorem r_X0_holds (l : Launch) (D : va_G) (a : Nat → Nat) (cI cZ : ClassId) (S : KS) (hO : kOk S) (c : Nat) (hc : c < kN S) (t : Int32) : xRO l yX0_holds cX0_holds 3 (some .boolean) (xrm 2 42) [.ref (a 0), .int (nI c), .int (t)] D (wK a cI cZ S) (tyL cI cZ) (bI (holdsK S c t)) := by
  refine xRO.of (by decide) (Nat.le_of_ble_eq_true rfl) ?_
  intro p e s m args below meth cd hx hb hr hml hown hlocks ht hN hP hK ls hl
  have hl : lv_has ls 3 [(0, .ref (a 0)), (1, .int (nI c)), (2, .int (t))] := hl
  have hown : s.vm.findClass RX0 = some m.cls := hown
  have hn := hO.1
  refine lv_iload_n hx hb dX0_holds_0 rfl (lv_at hl 2 rfl) ?_
  refine lv_aload_n hx hb dX0_holds_1 rfl (lv_at hl 0 rfl) ?_
  refine va_get (D := D) (ci := 0) (v := .ref (a 4)) (C := RX0) (T := TX0) (N := 10) hx hb ht inX0 hown hK hP 0 rfl rfl 3 (by decide) (ht _ wd51) (fun _ h9 => h9) rfl dX0_holds_2 ?_
  refine lv_iload_n hx hb dX0_holds_5 rfl (lv_at hl 1 rfl) ?_
  refine xa_iald hx hb hK hP 4 0 (i := c) rfl rfl (by omega) (by decide) dX0_holds_6 ?_
  refine lv_icmp_lt (tgt := 20) hx hb dX0_holds_7 (by decide) (fun h_7 => ?_) (fun h_7 => ?_)
  · skip
    refine lv_iconst (v := nI 0) hx hb dX0_holds_20 (by decide) ?_
    exact xr_zret (v := nI 0) hx hb hr hlocks (by first | rfl | exact bI_nar _) (bI_0 (by unfold holdsK; first | (rw [if_pos h_7]; done) | (rw [if_neg h_7, if_neg h_17]; done))) dX0_holds_21
  · skip
    refine lv_iload_n hx hb dX0_holds_10 rfl (lv_at hl 2 rfl) ?_
    refine lv_aload_n hx hb dX0_holds_11 rfl (lv_at hl 0 rfl) ?_
    refine va_get (D := D) (ci := 0) (v := .ref (a 5)) (C := RX0) (T := TX0) (N := 10) hx hb ht inX0 hown hK hP 0 rfl rfl 4 (by decide) (ht _ wd52) (fun _ h9 => h9) rfl dX0_holds_12 ?_
    refine lv_iload_n hx hb dX0_holds_15 rfl (lv_at hl 1 rfl) ?_
    refine xa_iald hx hb hK hP 5 0 (i := c) rfl rfl (by omega) (by decide) dX0_holds_16 ?_
    refine lv_icmp_lt (tgt := 22) hx hb dX0_holds_17 (by decide) (fun h_17 => ?_) (fun h_17 => ?_)
    · skip
      refine lv_aload_n hx hb dX0_holds_22 rfl (lv_at hl 0 rfl) ?_
      refine va_get (D := D) (ci := 0) (v := .ref (a 1)) (C := RX0) (T := TX0) (N := 10) hx hb ht inX0 hown hK hP 0 rfl rfl 0 (by decide) (ht _ wd48) (fun _ h9 => h9) rfl dX0_holds_23 ?_
      refine lv_iload_n hx hb dX0_holds_26 rfl (lv_at hl 1 rfl) ?_
      refine xa_iald hx hb hK hP 1 0 (i := c) rfl rfl (by omega) (by decide) dX0_holds_27 ?_
      by_cases h_28_1 : (kKd S c) = nI 1
      · refine xtop (y := nI 1) h_28_1 ?_
        refine lv_tableIn (tgt := 60) (off := 32) hx hb dX0_holds_28 (by decide) (by decide) (by decide) (by decide) ?_
        refine lv_aload_n hx hb dX0_holds_60 rfl (lv_at hl 0 rfl) ?_
        refine va_get (D := D) (ci := 0) (v := .ref (a 7)) (C := RX0) (T := TX0) (N := 10) hx hb ht inX0 hown hK hP 0 rfl rfl 6 (by decide) (ht _ wd54) (fun _ h9 => h9) rfl dX0_holds_61 ?_
        refine lv_iload_n hx hb dX0_holds_64 rfl (lv_at hl 1 rfl) ?_
        refine xa_iald hx hb hK hP 7 0 (i := c) rfl rfl (by omega) (by decide) dX0_holds_65 ?_
        refine lv_iconst (v := nI 1) hx hb dX0_holds_66 (by decide) ?_
        refine lv_icmp_ne (tgt := 74) hx hb dX0_holds_67 (by decide) (fun h_67 => ?_) (fun h_67 => ?_)
        · skip
          refine lv_iconst (v := nI 0) hx hb dX0_holds_74 (by decide) ?_
          exact xr_zret (v := nI 0) hx hb hr hlocks (by first | rfl | exact bI_nar _) (bI_0 (by unfold holdsK; rw [if_neg h_7, if_pos h_17, if_pos h_28_1, decide_eq_false h_67])) dX0_holds_75
        · skip
          refine lv_iconst (v := nI 1) hx hb dX0_holds_70 (by decide) ?_
          refine lv_goto (tgt := 75) hx hb dX0_holds_71 (by decide) ?_
          exact xr_zret (v := nI 1) hx hb hr hlocks (by first | rfl | exact bI_nar _) (bI_1 (by unfold holdsK; rw [if_neg h_7, if_pos h_17, if_pos h_28_1, decide_eq_true h_67])) dX0_holds_75
      by_cases h_28_2 : (kKd S c) = nI 2
      · refine xtop (y := nI 2) h_28_2 ?_
        refine lv_tableIn (tgt := 76) (off := 48) hx hb dX0_holds_28 (by decide) (by decide) (by decide) (by decide) ?_
        obtain ⟨i, hi, ei⟩ := (hO.2.2 c hc).1 h_28_2
        refine lv_aload_n hx hb dX0_holds_76 rfl (lv_at hl 0 rfl) ?_
        refine va_get (D := D) (ci := 0) (v := .ref (a 9)) (C := RX0) (T := TX0) (N := 10) hx hb ht inX0 hown hK hP 0 rfl rfl 8 (by decide) (ht _ wd56) (fun _ h9 => h9) rfl dX0_holds_77 ?_
        refine lv_aload_n hx hb dX0_holds_80 rfl (lv_at hl 0 rfl) ?_
        refine va_get (D := D) (ci := 0) (v := .ref (a 6)) (C := RX0) (T := TX0) (N := 10) hx hb ht inX0 hown hK hP 0 rfl rfl 5 (by decide) (ht _ wd53) (fun _ h9 => h9) rfl dX0_holds_81 ?_
        refine lv_iload_n hx hb dX0_holds_84 rfl (lv_at hl 1 rfl) ?_
        refine xa_iald hx hb hK hP 6 0 (i := c) rfl rfl (by omega) (by decide) dX0_holds_85 ?_
        refine xtop (y := nI i) ei ?_
        refine xa_zald hx hb hK hP 9 1 (i := i) rfl rfl (by omega) (by decide) dX0_holds_86 ?_
        exact xr_zret (v := kIc S i) hx hb hr hlocks (by rcases hO.2.1 i hi with z | z <;> rw [z] <;> rfl) (by unfold holdsK; rw [if_neg h_7, if_pos h_17, if_neg h_28_1, if_pos h_28_2, ei, nI_clamp (by omega)]; rcases hO.2.1 i hi with z | z <;> rw [z] <;> rfl) dX0_holds_87
      by_cases h_28_3 : (kKd S c) = nI 3
      · refine xtop (y := nI 3) h_28_3 ?_
        refine lv_tableIn (tgt := 112) (off := 84) hx hb dX0_holds_28 (by decide) (by decide) (by decide) (by decide) ?_
        refine lv_iconst (v := nI 1) hx hb dX0_holds_112 (by decide) ?_
        exact xr_zret (v := nI 1) hx hb hr hlocks (by first | rfl | exact bI_nar _) (bI_1 (by unfold holdsK; rw [if_neg h_7, if_pos h_17, if_neg h_28_1, if_neg h_28_2]; first | (rw [if_neg h_28_4]; done) | (rw [h_28_3]; rfl))) dX0_holds_113
      by_cases h_28_4 : (kKd S c) = nI 4
      · refine xtop (y := nI 4) h_28_4 ?_
        refine lv_tableIn (tgt := 88) (off := 60) hx hb dX0_holds_28 (by decide) (by decide) (by decide) (by decide) ?_
        refine lv_aload_n hx hb dX0_holds_88 rfl (lv_at hl 0 rfl) ?_
        refine lv_iload_n hx hb dX0_holds_89 rfl (lv_at hl 1 rfl) ?_
        refine lv_iload_n hx hb dX0_holds_90 rfl (lv_at hl 2 rfl) ?_
        refine xrV (As := [.int (nI c), .int (t)]) (rest := []) hx hb hml hown ht hN kV_X0_79 (r_X0_minuteOfPeriod l D a cI cZ S hO c hc t ((hO.2.2 c hc).2.1 h_28_4)) ⟨by decide, by decide⟩ hP hK rfl rfl rfl rfl hl.1 rfl (Nat.le_of_ble_eq_true rfl) dX0_holds_91 ⟨Nat.zero_le _, Nat.zero_le _⟩ ?_
        refine lv_aload_n hx hb dX0_holds_94 rfl (lv_at hl 0 rfl) ?_
        refine va_get (D := D) (ci := 0) (v := .ref (a 6)) (C := RX0) (T := TX0) (N := 10) hx hb ht inX0 hown hK hP 0 rfl rfl 5 (by decide) (ht _ wd53) (fun _ h9 => h9) rfl dX0_holds_95 ?_
        refine lv_iload_n hx hb dX0_holds_98 rfl (lv_at hl 1 rfl) ?_
        refine xa_iald hx hb hK hP 6 0 (i := c) rfl rfl (by omega) (by decide) dX0_holds_99 ?_
        refine xrN (As := [.int (kXs S c)]) (rest := [.int (mopK S c t)]) hx hb hml hown ht hN kN_X0_82 (r_X3_lengthOf l D (kXs S c)) ⟨by decide, by decide⟩ (fun k q h => by simp at h) (hK.sub (tys' := []) [] rfl) rfl hl.1 rfl (Nat.le_of_ble_eq_true rfl) dX0_holds_100 ⟨Nat.zero_le _, Nat.zero_le _⟩ ?_
        refine lv_icmp_ge (tgt := 110) hx hb dX0_holds_103 (by decide) (fun h_103 => ?_) (fun h_103 => ?_)
        · skip
          refine lv_iconst (v := nI 0) hx hb dX0_holds_110 (by decide) ?_
          exact xr_zret (v := nI 0) hx hb hr hlocks (by first | rfl | exact bI_nar _) (bI_0 (by unfold holdsK; rw [if_neg h_7, if_pos h_17, if_neg h_28_1, if_neg h_28_2, if_pos h_28_4, decide_eq_true h_103]; rfl)) dX0_holds_111
        · skip
          refine lv_iconst (v := nI 1) hx hb dX0_holds_106 (by decide) ?_
          refine lv_goto (tgt := 111) hx hb dX0_holds_107 (by decide) ?_
          exact xr_zret (v := nI 1) hx hb hr hlocks (by first | rfl | exact bI_nar _) (bI_1 (by unfold holdsK; rw [if_neg h_7, if_pos h_17, if_neg h_28_1, if_neg h_28_2, if_pos h_28_4, decide_eq_false h_103]; rfl)) dX0_holds_111
      refine lv_tableOut (tgt := 112) hx hb dX0_holds_28 (xtab_out h_28_1 h_28_2 h_28_3 h_28_4) (by decide) ?_
      refine lv_iconst (v := nI 1) hx hb dX0_holds_112 (by decide) ?_
      exact xr_zret (v := nI 1) hx hb hr hlocks (by first | rfl | exact bI_nar _) (bI_1 (by unfold holdsK; rw [if_neg h_7, if_pos h_17, if_neg h_28_1, if_neg h_28_2]; first | (rw [if_neg h_28_4]; done) | (rw [h_28_3]; rfl))) dX0_holds_113
    · skip
      refine lv_iconst (v := nI 0) hx hb dX0_holds_20 (by decide) ?_
      exact xr_zret (v := nI 0) hx hb hr hlocks (by first | rfl | exact bI_nar _) (bI_0 (by unfold holdsK; first | (rw [if_pos h_7]; done) | (rw [if_neg h_7, if_neg h_17]; done))) dX0_holds_21
set_option maxHeartbeats 4000000 in
set_option maxRecDepth 100000 in
theorem r_X0_covers (l : Launch) (D : va_G) (a : Nat → Nat) (cI cZ : ClassId) (S : KS) (hO : kOk S) (c : Nat) (hc : c < kN S) (pl : Nat) (hp : pl < 120) : xRO l yX0_covers cX0_covers 3 (some .boolean) (xrm 1 20) [.ref (a 0), .int (nI c), .int (nI pl)] D (wK a cI cZ S) (tyL cI cZ) (bI (coversK S c pl)) := by
  refine xRO.of (by decide) (Nat.le_of_ble_eq_true rfl) ?_
  intro p e s m args below meth cd hx hb hr hml hown hlocks ht hN hP hK ls hl
  have hl : lv_has ls 3 [(0, .ref (a 0)), (1, .int (nI c)), (2, .int (nI pl))] := hl
  have hown : s.vm.findClass RX0 = some m.cls := hown
  have hn := hO.1
  refine lv_aload_n hx hb dX0_covers_0 rfl (lv_at hl 0 rfl) ?_
  refine va_get (D := D) (ci := 0) (v := .ref (a 2)) (C := RX0) (T := TX0) (N := 10) hx hb ht inX0 hown hK hP 0 rfl rfl 1 (by decide) (ht _ wd49) (fun _ h9 => h9) rfl dX0_covers_1 ?_
  refine lv_iload_n hx hb dX0_covers_4 rfl (lv_at hl 1 rfl) ?_
  refine xa_iald hx hb hK hP 2 0 (i := c) rfl rfl (by omega) (by decide) dX0_covers_5 ?_
  refine lv_iload_n hx hb dX0_covers_6 rfl (lv_at hl 2 rfl) ?_
  refine xrN (As := [.int (nI pl)]) (rest := [.int (kPc S c)]) hx hb hml hown ht hN kN_X0_89 (r_X3_pieceOf l D pl hp) ⟨by decide, by decide⟩ (fun k q h => by simp at h) (hK.sub (tys' := []) [] rfl) rfl hl.1 rfl (Nat.le_of_ble_eq_true rfl) dX0_covers_7 ⟨Nat.zero_le _, Nat.zero_le _⟩ ?_
  refine lv_icmp_ne (tgt := 31) hx hb dX0_covers_10 (by decide) (fun h_10 => ?_) (fun h_10 => ?_)
  · skip
    refine lv_iconst (v := nI 0) hx hb dX0_covers_31 (by decide) ?_
    exact xr_zret (v := nI 0) hx hb hr hlocks (by first | rfl | exact bI_nar _) (bI_0 (by unfold coversK; first | (rw [decide_eq_false h_10]; rfl) | (rw [decide_eq_true h_24, Bool.not_true, Bool.and_false]))) dX0_covers_32
  · skip
    refine lv_aload_n hx hb dX0_covers_13 rfl (lv_at hl 0 rfl) ?_
    refine va_get (D := D) (ci := 0) (v := .ref (a 3)) (C := RX0) (T := TX0) (N := 10) hx hb ht inX0 hown hK hP 0 rfl rfl 2 (by decide) (ht _ wd50) (fun _ h9 => h9) rfl dX0_covers_14 ?_
    refine lv_iload_n hx hb dX0_covers_17 rfl (lv_at hl 1 rfl) ?_
    refine xa_iald hx hb hK hP 3 0 (i := c) rfl rfl (by omega) (by decide) dX0_covers_18 ?_
    refine lv_iload_n hx hb dX0_covers_19 rfl (lv_at hl 2 rfl) ?_
    refine xrN (As := [.int (nI pl)]) (rest := [.int (kSd S c)]) hx hb hml hown ht hN kN_X0_92 (r_X3_sideOf l D pl hp) ⟨by decide, by decide⟩ (fun k q h => by simp at h) (hK.sub (tys' := []) [] rfl) rfl hl.1 rfl (Nat.le_of_ble_eq_true rfl) dX0_covers_20 ⟨Nat.zero_le _, Nat.zero_le _⟩ ?_
    refine lv_iand hx hb dX0_covers_23 ?_
    refine lv_if_eq (tgt := 31) hx hb dX0_covers_24 (by decide) (fun h_24 => ?_) (fun h_24 => ?_)
    · skip
      refine lv_iconst (v := nI 0) hx hb dX0_covers_31 (by decide) ?_
      exact xr_zret (v := nI 0) hx hb hr hlocks (by first | rfl | exact bI_nar _) (bI_0 (by unfold coversK; first | (rw [decide_eq_false h_10]; rfl) | (rw [decide_eq_true h_24, Bool.not_true, Bool.and_false]))) dX0_covers_32
    · skip
      refine lv_iconst (v := nI 1) hx hb dX0_covers_27 (by decide) ?_
      refine lv_goto (tgt := 32) hx hb dX0_covers_28 (by decide) ?_
      exact xr_zret (v := nI 1) hx hb hr hlocks (by first | rfl | exact bI_nar _) (bI_1 (by unfold coversK; rw [decide_eq_true h_10, decide_eq_false h_24]; rfl)) dX0_covers_32
set_option maxHeartbeats 4000000 in
set_option maxRecDepth 100000 in
theorem r_X0_holdsOn (l : Launch) (D : va_G) (a : Nat → Nat) (cI cZ : ClassId) (S : KS) (hO : kOk S) (c : Nat) (hc : c < kN S) (pl : Nat) (hp : pl < 120) (t : Int32) : xRO l yX0_holdsOn cX0_holdsOn 4 (some .boolean) (xrm 3 64) [.ref (a 0), .int (nI c), .int (nI pl), .int (t)] D (wK a cI cZ S) (tyL cI cZ) (bI (onK S c pl t)) := by
  refine xRO.of (by decide) (Nat.le_of_ble_eq_true rfl) ?_
  intro p e s m args below meth cd hx hb hr hml hown hlocks ht hN hP hK ls hl
  have hl : lv_has ls 4 [(0, .ref (a 0)), (1, .int (nI c)), (2, .int (nI pl)), (3, .int (t))] := hl
  have hown : s.vm.findClass RX0 = some m.cls := hown
  have hn := hO.1
  refine lv_aload_n hx hb dX0_holdsOn_0 rfl (lv_at hl 0 rfl) ?_
  refine lv_iload_n hx hb dX0_holdsOn_1 rfl (lv_at hl 1 rfl) ?_
  refine lv_iload_n hx hb dX0_holdsOn_2 rfl (lv_at hl 2 rfl) ?_
  refine xrV (As := [.int (nI c), .int (nI pl)]) (rest := []) hx hb hml hown ht hN kV_X0_76 (r_X0_covers l D a cI cZ S hO c hc pl hp) ⟨by decide, by decide⟩ hP hK rfl rfl rfl rfl hl.1 rfl (Nat.le_of_ble_eq_true rfl) dX0_holdsOn_3 ⟨Nat.zero_le _, Nat.zero_le _⟩ ?_
  refine lv_if_eq (tgt := 22) hx hb dX0_holdsOn_6 (by decide) (fun h_6 => ?_) (fun h_6 => ?_)
  · skip
    refine lv_iconst (v := nI 0) hx hb dX0_holdsOn_22 (by decide) ?_
    exact xr_zret (v := nI 0) hx hb hr hlocks (by first | rfl | exact bI_nar _) (bI_0 (by unfold onK; first | (rw [bI_f h_6]; rfl) | (rw [bI_f h_15, Bool.and_false]))) dX0_holdsOn_23
  · skip
    refine lv_aload_n hx hb dX0_holdsOn_9 rfl (lv_at hl 0 rfl) ?_
    refine lv_iload_n hx hb dX0_holdsOn_10 rfl (lv_at hl 1 rfl) ?_
    refine lv_iload_n hx hb dX0_holdsOn_11 rfl (lv_at hl 3 rfl) ?_
    refine xrV (As := [.int (nI c), .int (t)]) (rest := []) hx hb hml hown ht hN kV_X0_48 (r_X0_holds l D a cI cZ S hO c hc t) ⟨by decide, by decide⟩ hP hK rfl rfl rfl rfl hl.1 rfl (Nat.le_of_ble_eq_true rfl) dX0_holdsOn_12 ⟨Nat.zero_le _, Nat.zero_le _⟩ ?_
    refine lv_if_eq (tgt := 22) hx hb dX0_holdsOn_15 (by decide) (fun h_15 => ?_) (fun h_15 => ?_)
    · skip
      refine lv_iconst (v := nI 0) hx hb dX0_holdsOn_22 (by decide) ?_
      exact xr_zret (v := nI 0) hx hb hr hlocks (by first | rfl | exact bI_nar _) (bI_0 (by unfold onK; first | (rw [bI_f h_6]; rfl) | (rw [bI_f h_15, Bool.and_false]))) dX0_holdsOn_23
    · skip
      refine lv_iconst (v := nI 1) hx hb dX0_holdsOn_18 (by decide) ?_
      refine lv_goto (tgt := 23) hx hb dX0_holdsOn_19 (by decide) ?_
      exact xr_zret (v := nI 1) hx hb hr hlocks (by first | rfl | exact bI_nar _) (bI_1 (by unfold onK; rw [bI_t h_6, bI_t h_15]; rfl)) dX0_holdsOn_23
set_option maxHeartbeats 4000000 in
set_option maxRecDepth 100000 in
theorem r_X0_isClosedAt (l : Launch) (D : va_G) (a : Nat → Nat) (cI cZ : ClassId) (S : KS) (hO : kOk S) (pl : Nat) (hp : pl < 120) (t : Int32) : xRO l yX0_isClosedAt cX0_isClosedAt 4 (some .boolean) (xrm 4 87) [.ref (a 0), .int (nI pl), .int (t)] D (wK a cI cZ S) (tyL cI cZ) (bI (closedK S pl t)) := by
  refine xRO.of (by decide) (Nat.le_of_ble_eq_true rfl) ?_
  intro p e s m args below meth cd hx hb hr hml hown hlocks ht hN hP hK ls hl
  have hl : lv_has ls 4 [(0, .ref (a 0)), (1, .int (nI pl)), (2, .int (t))] := hl
  have hown : s.vm.findClass RX0 = some m.cls := hown
  have hn := hO.1
  have L2 : ∀ (n : Nat) (c : Nat), kN S < c + n → c ≤ kN S → anyN (fun c => !decide (kKd S c = nI 5) && onK S c pl t) c = false → ∀ ls : Array Slot, lv_has ls 4 [(0, .ref (a 0)), (1, .int (nI pl)), (2, .int (t)), (3, .int (nI c))] → W p l e (xrm 4 87) s m args below meth cd s.heap [] 0 0 (MQ below (QcRead (bI (closedK S pl t))) args s 0 0 (fun _ => False)) (F0 m 2 ls []) := by
    intro n
    induction n with
    | zero =>
      intro c hfuel hi hv
      exact absurd hfuel (by omega)
    | succ n ih2 =>
      intro c hfuel hi hv ls hl
      refine lv_iload_n hx hb dX0_isClosedAt_2 rfl (lv_at hl 3 rfl) ?_
      refine lv_aload_n hx hb dX0_isClosedAt_3 rfl (lv_at hl 0 rfl) ?_
      refine va_get (D := D) (ci := 0) (v := .int (nI (kN S))) (C := RX0) (T := TX0) (N := 10) hx hb ht inX0 hown hK hP 0 rfl rfl 9 (by decide) (ht _ wd57) (fun _ h9 => h9) rfl dX0_isClosedAt_4 ?_
      refine lv_icmp_ge (tgt := 38) hx hb dX0_isClosedAt_7 (by decide) (fun h_7 => ?_) (fun h_7 => ?_)
      · skip
        have h_7 : (kN S) ≤ c := (nI_leI (by omega) (by omega)).mp h_7
        refine lv_iconst (v := nI 0) hx hb dX0_isClosedAt_38 (by decide) ?_
        exact xr_zret (v := nI 0) hx hb hr hlocks (by first | rfl | exact bI_nar _) (bI_0 (by rw [closedK, show kN S = c by omega]; exact hv)) dX0_isClosedAt_39
      · skip
        have h_7 : ¬ ((kN S) ≤ c) := fun z => h_7 ((nI_leI (by omega) (by omega)).mpr z)
        refine lv_aload_n hx hb dX0_isClosedAt_10 rfl (lv_at hl 0 rfl) ?_
        refine va_get (D := D) (ci := 0) (v := .ref (a 1)) (C := RX0) (T := TX0) (N := 10) hx hb ht inX0 hown hK hP 0 rfl rfl 0 (by decide) (ht _ wd48) (fun _ h9 => h9) rfl dX0_isClosedAt_11 ?_
        refine lv_iload_n hx hb dX0_isClosedAt_14 rfl (lv_at hl 3 rfl) ?_
        refine xa_iald hx hb hK hP 1 0 (i := c) rfl rfl (by omega) (by decide) dX0_isClosedAt_15 ?_
        refine lv_iconst (v := nI 5) hx hb dX0_isClosedAt_16 (by decide) ?_
        refine lv_icmp_eq (tgt := 32) hx hb dX0_isClosedAt_17 (by decide) (fun h_17 => ?_) (fun h_17 => ?_)
        · skip
          refine lv_iinc (v := nI (c + 1)) (lv' := [(3, .int (nI (c + 1))), (0, .ref (a 0)), (1, .int (nI pl)), (2, .int (t))]) hx hb dX0_isClosedAt_32 hl (k := 3) rfl (nI_1 _) (by decide) rfl (fun ls hl => ?_)
          refine lv_goto (tgt := 2) hx hb dX0_isClosedAt_35 (by decide) ?_
          exact ih2 (c + 1) (by omega) (by omega) (by rw [anyN, hv]; first | (rw [decide_eq_true h_17]; rfl) | (rw [bI_f h_27, Bool.and_false]; rfl)) ls (lv_sub hl [1, 2, 3, 0] rfl)
        · skip
          refine lv_aload_n hx hb dX0_isClosedAt_20 rfl (lv_at hl 0 rfl) ?_
          refine lv_iload_n hx hb dX0_isClosedAt_21 rfl (lv_at hl 3 rfl) ?_
          refine lv_iload_n hx hb dX0_isClosedAt_22 rfl (lv_at hl 1 rfl) ?_
          refine lv_iload_n hx hb dX0_isClosedAt_23 rfl (lv_at hl 2 rfl) ?_
          refine xrV (As := [.int (nI c), .int (nI pl), .int (t)]) (rest := []) hx hb hml hown ht hN kV_X0_44 (r_X0_holdsOn l D a cI cZ S hO c (by omega) pl hp t) ⟨by decide, by decide⟩ hP hK rfl rfl rfl rfl hl.1 rfl (Nat.le_of_ble_eq_true rfl) dX0_isClosedAt_24 ⟨Nat.zero_le _, Nat.zero_le _⟩ ?_
          refine lv_if_eq (tgt := 32) hx hb dX0_isClosedAt_27 (by decide) (fun h_27 => ?_) (fun h_27 => ?_)
          · skip
            refine lv_iinc (v := nI (c + 1)) (lv' := [(3, .int (nI (c + 1))), (0, .ref (a 0)), (1, .int (nI pl)), (2, .int (t))]) hx hb dX0_isClosedAt_32 hl (k := 3) rfl (nI_1 _) (by decide) rfl (fun ls hl => ?_)
            refine lv_goto (tgt := 2) hx hb dX0_isClosedAt_35 (by decide) ?_
            exact ih2 (c + 1) (by omega) (by omega) (by rw [anyN, hv]; first | (rw [decide_eq_true h_17]; rfl) | (rw [bI_f h_27, Bool.and_false]; rfl)) ls (lv_sub hl [1, 2, 3, 0] rfl)
          · skip
            refine lv_iconst (v := nI 1) hx hb dX0_isClosedAt_30 (by decide) ?_
            exact xr_zret (v := nI 1) hx hb hr hlocks (by first | rfl | exact bI_nar _) (bI_1 (anyN_of (c := c) (by omega) (by rw [decide_eq_false h_17, bI_t h_27]; rfl))) dX0_isClosedAt_31
  refine lv_iconst (v := nI 0) hx hb dX0_isClosedAt_0 (by decide) ?_
  refine lv_istore_n (lv' := [(3, .int (nI 0)), (0, .ref (a 0)), (1, .int (nI pl)), (2, .int (t))]) hx hb dX0_isClosedAt_1 rfl hl (by decide) rfl (fun ls hl => ?_)
  exact L2 (kN S + 1) 0 (by omega) (by omega) rfl ls (lv_sub hl [1, 2, 3, 0] rfl)
set_option maxHeartbeats 4000000 in
set_option maxRecDepth 100000 in
theorem r_X0_endsAheadOf (l : Launch) (D : va_G) (a : Nat → Nat) (cI cZ : ClassId) (S : KS) (hO : kOk S) (d c : Nat) (hd : d < kN S) (hc : c < kN S) : xRO l yX0_endsAheadOf cX0_endsAheadOf 3 (some .boolean) (xrm 0 0) [.ref (a 0), .int (nI d), .int (nI c)] D (wK a cI cZ S) (tyL cI cZ) (bI (aheadK S d c)) := by
  refine xRO.of (by decide) (Nat.le_of_ble_eq_true rfl) ?_
  intro p e s m args below meth cd hx hb hr hml hown hlocks ht hN hP hK ls hl
  have hl : lv_has ls 3 [(0, .ref (a 0)), (1, .int (nI d)), (2, .int (nI c))] := hl
  have hown : s.vm.findClass RX0 = some m.cls := hown
  have hn := hO.1
  refine lv_aload_n hx hb dX0_endsAheadOf_0 rfl (lv_at hl 0 rfl) ?_
  refine va_get (D := D) (ci := 0) (v := .ref (a 5)) (C := RX0) (T := TX0) (N := 10) hx hb ht inX0 hown hK hP 0 rfl rfl 4 (by decide) (ht _ wd52) (fun _ h9 => h9) rfl dX0_endsAheadOf_1 ?_
  refine lv_iload_n hx hb dX0_endsAheadOf_4 rfl (lv_at hl 1 rfl) ?_
  refine xa_iald hx hb hK hP 5 0 (i := d) rfl rfl (by omega) (by decide) dX0_endsAheadOf_5 ?_
  refine lv_aload_n hx hb dX0_endsAheadOf_6 rfl (lv_at hl 0 rfl) ?_
  refine va_get (D := D) (ci := 0) (v := .ref (a 5)) (C := RX0) (T := TX0) (N := 10) hx hb ht inX0 hown hK hP 0 rfl rfl 4 (by decide) (ht _ wd52) (fun _ h9 => h9) rfl dX0_endsAheadOf_7 ?_
  refine lv_iload_n hx hb dX0_endsAheadOf_10 rfl (lv_at hl 2 rfl) ?_
  refine xa_iald hx hb hK hP 5 0 (i := c) rfl rfl (by omega) (by decide) dX0_endsAheadOf_11 ?_
  refine lv_icmp_lt (tgt := 35) hx hb dX0_endsAheadOf_12 (by decide) (fun h_12 => ?_) (fun h_12 => ?_)
  · skip
    refine lv_iconst (v := nI 1) hx hb dX0_endsAheadOf_35 (by decide) ?_
    refine lv_goto (tgt := 40) hx hb dX0_endsAheadOf_36 (by decide) ?_
    exact xr_zret (v := nI 1) hx hb hr hlocks (by first | rfl | exact bI_nar _) (bI_1 (by unfold aheadK; first | (rw [if_pos h_12]; done) | (rw [if_neg h_12, decide_eq_true h_27, decide_eq_true (show d < c by omega)]; rfl))) dX0_endsAheadOf_40
  · skip
    refine lv_aload_n hx hb dX0_endsAheadOf_15 rfl (lv_at hl 0 rfl) ?_
    refine va_get (D := D) (ci := 0) (v := .ref (a 5)) (C := RX0) (T := TX0) (N := 10) hx hb ht inX0 hown hK hP 0 rfl rfl 4 (by decide) (ht _ wd52) (fun _ h9 => h9) rfl dX0_endsAheadOf_16 ?_
    refine lv_iload_n hx hb dX0_endsAheadOf_19 rfl (lv_at hl 1 rfl) ?_
    refine xa_iald hx hb hK hP 5 0 (i := d) rfl rfl (by omega) (by decide) dX0_endsAheadOf_20 ?_
    refine lv_aload_n hx hb dX0_endsAheadOf_21 rfl (lv_at hl 0 rfl) ?_
    refine va_get (D := D) (ci := 0) (v := .ref (a 5)) (C := RX0) (T := TX0) (N := 10) hx hb ht inX0 hown hK hP 0 rfl rfl 4 (by decide) (ht _ wd52) (fun _ h9 => h9) rfl dX0_endsAheadOf_22 ?_
    refine lv_iload_n hx hb dX0_endsAheadOf_25 rfl (lv_at hl 2 rfl) ?_
    refine xa_iald hx hb hK hP 5 0 (i := c) rfl rfl (by omega) (by decide) dX0_endsAheadOf_26 ?_
    refine lv_icmp_ne (tgt := 39) hx hb dX0_endsAheadOf_27 (by decide) (fun h_27 => ?_) (fun h_27 => ?_)
    · skip
      refine lv_iconst (v := nI 0) hx hb dX0_endsAheadOf_39 (by decide) ?_
      exact xr_zret (v := nI 0) hx hb hr hlocks (by first | rfl | exact bI_nar _) (bI_0 (by unfold aheadK; rw [if_neg h_12]; first | (rw [decide_eq_false h_27]; rfl) | (rw [decide_eq_false (show ¬ d < c by omega), Bool.and_false]))) dX0_endsAheadOf_40
    · skip
      refine lv_iload_n hx hb dX0_endsAheadOf_30 rfl (lv_at hl 1 rfl) ?_
      refine lv_iload_n hx hb dX0_endsAheadOf_31 rfl (lv_at hl 2 rfl) ?_
      refine lv_icmp_ge (tgt := 39) hx hb dX0_endsAheadOf_32 (by decide) (fun h_32 => ?_) (fun h_32 => ?_)
      · skip
        have h_32 : c ≤ d := (nI_leI (by omega) (by omega)).mp h_32
        refine lv_iconst (v := nI 0) hx hb dX0_endsAheadOf_39 (by decide) ?_
        exact xr_zret (v := nI 0) hx hb hr hlocks (by first | rfl | exact bI_nar _) (bI_0 (by unfold aheadK; rw [if_neg h_12]; first | (rw [decide_eq_false h_27]; rfl) | (rw [decide_eq_false (show ¬ d < c by omega), Bool.and_false]))) dX0_endsAheadOf_40
      · skip
        have h_32 : ¬ (c ≤ d) := fun z => h_32 ((nI_leI (by omega) (by omega)).mpr z)
        refine lv_iconst (v := nI 1) hx hb dX0_endsAheadOf_35 (by decide) ?_
        refine lv_goto (tgt := 40) hx hb dX0_endsAheadOf_36 (by decide) ?_
        exact xr_zret (v := nI 1) hx hb hr hlocks (by first | rfl | exact bI_nar _) (bI_1 (by unfold aheadK; first | (rw [if_pos h_12]; done) | (rw [if_neg h_12, decide_eq_true h_27, decide_eq_true (show d < c by omega)]; rfl))) dX0_endsAheadOf_40
set_option maxHeartbeats 4000000 in
set_option maxRecDepth 100000 in
theorem r_X0_rankOf (l : Launch) (D : va_G) (a : Nat → Nat) (cI cZ : ClassId) (S : KS) (hO : kOk S) (c : Nat) (hc : c < kN S) (pl : Nat) (hp : pl < 120) (t : Int32) : xRO l yX0_rankOf cX0_rankOf 6 (some .int) (xrm 4 87) [.ref (a 0), .int (nI c), .int (nI pl), .int (t)] D (wK a cI cZ S) (tyL cI cZ) (nI (rankK S c pl t)) := by
  refine xRO.of (by decide) (Nat.le_of_ble_eq_true rfl) ?_
  intro p e s m args below meth cd hx hb hr hml hown hlocks ht hN hP hK ls hl
  have hl : lv_has ls 6 [(0, .ref (a 0)), (1, .int (nI c)), (2, .int (nI pl)), (3, .int (t))] := hl
  have hown : s.vm.findClass RX0 = some m.cls := hown
  have hn := hO.1
  have L6 : ∀ (n : Nat) (k : Nat) (d : Nat), kN S < d + n → d ≤ kN S → k = cntN (fun d => aheadK S d c && onK S d pl t) d → ∀ ls : Array Slot, lv_has ls 6 [(0, .ref (a 0)), (1, .int (nI c)), (2, .int (nI pl)), (3, .int (t)), (4, .int (nI k)), (5, .int (nI d))] → W p l e (xrm 4 87) s m args below meth cd s.heap [] 0 0 (MQ below (QcRead (nI (rankK S c pl t))) args s 0 0 (fun _ => False)) (F0 m 6 ls []) := by
    intro n
    induction n with
    | zero =>
      intro k d hfuel hi hv
      exact absurd hfuel (by omega)
    | succ n ih6 =>
      intro k d hfuel hi hv ls hl
      refine lv_iload hx hb dX0_rankOf_6 (lv_at hl 5 rfl) ?_
      refine lv_aload_n hx hb dX0_rankOf_8 rfl (lv_at hl 0 rfl) ?_
      refine va_get (D := D) (ci := 0) (v := .int (nI (kN S))) (C := RX0) (T := TX0) (N := 10) hx hb ht inX0 hown hK hP 0 rfl rfl 9 (by decide) (ht _ wd57) (fun _ h9 => h9) rfl dX0_rankOf_9 ?_
      refine lv_icmp_ge (tgt := 45) hx hb dX0_rankOf_12 (by decide) (fun h_12 => ?_) (fun h_12 => ?_)
      · skip
        have h_12 : (kN S) ≤ d := (nI_leI (by omega) (by omega)).mp h_12
        refine lv_iload hx hb dX0_rankOf_45 (lv_at hl 4 rfl) ?_
        exact xr_iret (v := nI k) hx hb hr hlocks (by rw [rankK, show kN S = d by omega, ← hv]) dX0_rankOf_47
      · skip
        have h_12 : ¬ ((kN S) ≤ d) := fun z => h_12 ((nI_leI (by omega) (by omega)).mpr z)
        refine lv_aload_n hx hb dX0_rankOf_15 rfl (lv_at hl 0 rfl) ?_
        refine lv_iload hx hb dX0_rankOf_16 (lv_at hl 5 rfl) ?_
        refine lv_iload_n hx hb dX0_rankOf_18 rfl (lv_at hl 1 rfl) ?_
        refine xrV (As := [.int (nI d), .int (nI c)]) (rest := []) hx hb hml hown ht hN kV_X0_69 (r_X0_endsAheadOf l D a cI cZ S hO d c (by omega) hc) ⟨by decide, by decide⟩ hP hK rfl rfl rfl rfl hl.1 rfl (Nat.le_of_ble_eq_true rfl) dX0_rankOf_19 ⟨Nat.zero_le _, Nat.zero_le _⟩ ?_
        refine lv_if_eq (tgt := 39) hx hb dX0_rankOf_22 (by decide) (fun h_22 => ?_) (fun h_22 => ?_)
        · skip
          refine lv_iinc (v := nI (d + 1)) (lv' := [(5, .int (nI (d + 1))), (0, .ref (a 0)), (1, .int (nI c)), (2, .int (nI pl)), (3, .int (t)), (4, .int (nI k))]) hx hb dX0_rankOf_39 hl (k := 5) rfl (nI_1 _) (by decide) rfl (fun ls hl => ?_)
          refine lv_goto (tgt := 6) hx hb dX0_rankOf_42 (by decide) ?_
          exact ih6 k (d + 1) (by omega) (by omega) (by rw [cntN, ← hv]; first | (rw [bI_f h_22]; rfl) | (rw [bI_t h_22, bI_t h_33]; rfl) | (rw [bI_f h_33, Bool.and_false]; rfl)) ls (lv_sub hl [1, 2, 3, 4, 5, 0] rfl)
        · skip
          refine lv_aload_n hx hb dX0_rankOf_25 rfl (lv_at hl 0 rfl) ?_
          refine lv_iload hx hb dX0_rankOf_26 (lv_at hl 5 rfl) ?_
          refine lv_iload_n hx hb dX0_rankOf_28 rfl (lv_at hl 2 rfl) ?_
          refine lv_iload_n hx hb dX0_rankOf_29 rfl (lv_at hl 3 rfl) ?_
          refine xrV (As := [.int (nI d), .int (nI pl), .int (t)]) (rest := []) hx hb hml hown ht hN kV_X0_44 (r_X0_holdsOn l D a cI cZ S hO d (by omega) pl hp t) ⟨by decide, by decide⟩ hP hK rfl rfl rfl rfl hl.1 rfl (Nat.le_of_ble_eq_true rfl) dX0_rankOf_30 ⟨Nat.zero_le _, Nat.zero_le _⟩ ?_
          refine lv_if_eq (tgt := 39) hx hb dX0_rankOf_33 (by decide) (fun h_33 => ?_) (fun h_33 => ?_)
          · skip
            refine lv_iinc (v := nI (d + 1)) (lv' := [(5, .int (nI (d + 1))), (0, .ref (a 0)), (1, .int (nI c)), (2, .int (nI pl)), (3, .int (t)), (4, .int (nI k))]) hx hb dX0_rankOf_39 hl (k := 5) rfl (nI_1 _) (by decide) rfl (fun ls hl => ?_)
            refine lv_goto (tgt := 6) hx hb dX0_rankOf_42 (by decide) ?_
            exact ih6 k (d + 1) (by omega) (by omega) (by rw [cntN, ← hv]; first | (rw [bI_f h_22]; rfl) | (rw [bI_t h_22, bI_t h_33]; rfl) | (rw [bI_f h_33, Bool.and_false]; rfl)) ls (lv_sub hl [1, 2, 3, 4, 5, 0] rfl)
          · skip
            refine lv_iinc (v := nI (k + 1)) (lv' := [(4, .int (nI (k + 1))), (0, .ref (a 0)), (1, .int (nI c)), (2, .int (nI pl)), (3, .int (t)), (5, .int (nI d))]) hx hb dX0_rankOf_36 hl (k := 4) rfl (nI_1 _) (by decide) rfl (fun ls hl => ?_)
            refine lv_iinc (v := nI (d + 1)) (lv' := [(5, .int (nI (d + 1))), (4, .int (nI (k + 1))), (0, .ref (a 0)), (1, .int (nI c)), (2, .int (nI pl)), (3, .int (t))]) hx hb dX0_rankOf_39 hl (k := 5) rfl (nI_1 _) (by decide) rfl (fun ls hl => ?_)
            refine lv_goto (tgt := 6) hx hb dX0_rankOf_42 (by decide) ?_
            exact ih6 (k + 1) (d + 1) (by omega) (by omega) (by rw [cntN, ← hv]; first | (rw [bI_f h_22]; rfl) | (rw [bI_t h_22, bI_t h_33]; rfl) | (rw [bI_f h_33, Bool.and_false]; rfl)) ls (lv_sub hl [2, 3, 4, 5, 1, 0] rfl)
  refine lv_iconst (v := nI 0) hx hb dX0_rankOf_0 (by decide) ?_
  refine lv_istore (lv' := [(4, .int (nI 0)), (0, .ref (a 0)), (1, .int (nI c)), (2, .int (nI pl)), (3, .int (t))]) hx hb dX0_rankOf_1 hl (by decide) rfl (fun ls hl => ?_)
  refine lv_iconst (v := nI 0) hx hb dX0_rankOf_3 (by decide) ?_
  refine lv_istore (lv' := [(5, .int (nI 0)), (4, .int (nI 0)), (0, .ref (a 0)), (1, .int (nI c)), (2, .int (nI pl)), (3, .int (t))]) hx hb dX0_rankOf_4 hl (by decide) rfl (fun ls hl => ?_)
  exact L6 (kN S + 1) 0 0 (by omega) (by omega) rfl ls (lv_sub hl [2, 3, 4, 5, 1, 0] rfl)
set_option maxHeartbeats 4000000 in
set_option maxRecDepth 100000 in
theorem r_X0_holdingAt (l : Launch) (D : va_G) (a : Nat → Nat) (cI cZ : ClassId) (S : KS) (hO : kOk S) (pl : Nat) (hp : pl < 120) (t i : Int32) : xRO l yX0_holdingAt cX0_holdingAt 5 (some .int) (xrm 5 112) [.ref (a 0), .int (nI pl), .int (t), .int (i)] D (wK a cI cZ S) (tyL cI cZ) (holdingK S pl t i) := by
  refine xRO.of (by decide) (Nat.le_of_ble_eq_true rfl) ?_
  intro p e s m args below meth cd hx hb hr hml hown hlocks ht hN hP hK ls hl
  have hl : lv_has ls 5 [(0, .ref (a 0)), (1, .int (nI pl)), (2, .int (t)), (3, .int (i))] := hl
  have hown : s.vm.findClass RX0 = some m.cls := hown
  have hn := hO.1
  have L3 : ∀ (n : Nat) (c : Nat), kN S < c + n → c ≤ kN S → holdingK S pl t i = fstN (fun c => onK S c pl t && decide (nI (rankK S c pl t) = i)) c (kN S - c) → ∀ ls : Array Slot, lv_has ls 5 [(0, .ref (a 0)), (1, .int (nI pl)), (2, .int (t)), (3, .int (i)), (4, .int (nI c))] → W p l e (xrm 5 112) s m args below meth cd s.heap [] 0 0 (MQ below (QcRead (holdingK S pl t i)) args s 0 0 (fun _ => False)) (F0 m 3 ls []) := by
    intro n
    induction n with
    | zero =>
      intro c hfuel hi hv
      exact absurd hfuel (by omega)
    | succ n ih3 =>
      intro c hfuel hi hv ls hl
      refine lv_iload hx hb dX0_holdingAt_3 (lv_at hl 4 rfl) ?_
      refine lv_aload_n hx hb dX0_holdingAt_5 rfl (lv_at hl 0 rfl) ?_
      refine va_get (D := D) (ci := 0) (v := .int (nI (kN S))) (C := RX0) (T := TX0) (N := 10) hx hb ht inX0 hown hK hP 0 rfl rfl 9 (by decide) (ht _ wd57) (fun _ h9 => h9) rfl dX0_holdingAt_6 ?_
      refine lv_icmp_ge (tgt := 44) hx hb dX0_holdingAt_9 (by decide) (fun h_9 => ?_) (fun h_9 => ?_)
      · skip
        have h_9 : (kN S) ≤ c := (nI_leI (by omega) (by omega)).mp h_9
        refine lv_iconst (v := (-1 : Int32)) hx hb dX0_holdingAt_44 (by decide) ?_
        exact xr_iret (v := (-1 : Int32)) hx hb hr hlocks (by rw [hv, show kN S - c = 0 by omega]; rfl) dX0_holdingAt_45
      · skip
        have h_9 : ¬ ((kN S) ≤ c) := fun z => h_9 ((nI_leI (by omega) (by omega)).mpr z)
        refine lv_aload_n hx hb dX0_holdingAt_12 rfl (lv_at hl 0 rfl) ?_
        refine lv_iload hx hb dX0_holdingAt_13 (lv_at hl 4 rfl) ?_
        refine lv_iload_n hx hb dX0_holdingAt_15 rfl (lv_at hl 1 rfl) ?_
        refine lv_iload_n hx hb dX0_holdingAt_16 rfl (lv_at hl 2 rfl) ?_
        refine xrV (As := [.int (nI c), .int (nI pl), .int (t)]) (rest := []) hx hb hml hown ht hN kV_X0_44 (r_X0_holdsOn l D a cI cZ S hO c (by omega) pl hp t) ⟨by decide, by decide⟩ hP hK rfl rfl rfl rfl hl.1 rfl (Nat.le_of_ble_eq_true rfl) dX0_holdingAt_17 ⟨Nat.zero_le _, Nat.zero_le _⟩ ?_
        refine lv_if_eq (tgt := 38) hx hb dX0_holdingAt_20 (by decide) (fun h_20 => ?_) (fun h_20 => ?_)
        · skip
          refine lv_iinc (v := nI (c + 1)) (lv' := [(4, .int (nI (c + 1))), (0, .ref (a 0)), (1, .int (nI pl)), (2, .int (t)), (3, .int (i))]) hx hb dX0_holdingAt_38 hl (k := 4) rfl (nI_1 _) (by decide) rfl (fun ls hl => ?_)
          refine lv_goto (tgt := 3) hx hb dX0_holdingAt_41 (by decide) ?_
          exact ih3 (c + 1) (by omega) (by omega) (by rw [hv, show kN S - c = (kN S - (c + 1)) + 1 by omega, fstN]; first | (rw [bI_f h_20]; rfl) | (rw [bI_t h_20, decide_eq_false h_32]; rfl)) ls (lv_sub hl [1, 2, 3, 4, 0] rfl)
        · skip
          refine lv_aload_n hx hb dX0_holdingAt_23 rfl (lv_at hl 0 rfl) ?_
          refine lv_iload hx hb dX0_holdingAt_24 (lv_at hl 4 rfl) ?_
          refine lv_iload_n hx hb dX0_holdingAt_26 rfl (lv_at hl 1 rfl) ?_
          refine lv_iload_n hx hb dX0_holdingAt_27 rfl (lv_at hl 2 rfl) ?_
          refine xrV (As := [.int (nI c), .int (nI pl), .int (t)]) (rest := []) hx hb hml hown ht hN kV_X0_65 (r_X0_rankOf l D a cI cZ S hO c (by omega) pl hp t) ⟨by decide, by decide⟩ hP hK rfl rfl rfl rfl hl.1 rfl (Nat.le_of_ble_eq_true rfl) dX0_holdingAt_28 ⟨Nat.zero_le _, Nat.zero_le _⟩ ?_
          refine lv_iload_n hx hb dX0_holdingAt_31 rfl (lv_at hl 3 rfl) ?_
          refine lv_icmp_ne (tgt := 38) hx hb dX0_holdingAt_32 (by decide) (fun h_32 => ?_) (fun h_32 => ?_)
          · skip
            refine lv_iinc (v := nI (c + 1)) (lv' := [(4, .int (nI (c + 1))), (0, .ref (a 0)), (1, .int (nI pl)), (2, .int (t)), (3, .int (i))]) hx hb dX0_holdingAt_38 hl (k := 4) rfl (nI_1 _) (by decide) rfl (fun ls hl => ?_)
            refine lv_goto (tgt := 3) hx hb dX0_holdingAt_41 (by decide) ?_
            exact ih3 (c + 1) (by omega) (by omega) (by rw [hv, show kN S - c = (kN S - (c + 1)) + 1 by omega, fstN]; first | (rw [bI_f h_20]; rfl) | (rw [bI_t h_20, decide_eq_false h_32]; rfl)) ls (lv_sub hl [1, 2, 3, 4, 0] rfl)
          · skip
            refine lv_iload hx hb dX0_holdingAt_35 (lv_at hl 4 rfl) ?_
            exact xr_iret (v := nI c) hx hb hr hlocks (by rw [hv, show kN S - c = (kN S - (c + 1)) + 1 by omega, fstN, bI_t h_20, decide_eq_true h_32]; rfl) dX0_holdingAt_37
  refine lv_iconst (v := nI 0) hx hb dX0_holdingAt_0 (by decide) ?_
  refine lv_istore (lv' := [(4, .int (nI 0)), (0, .ref (a 0)), (1, .int (nI pl)), (2, .int (t)), (3, .int (i))]) hx hb dX0_holdingAt_1 hl (by decide) rfl (fun ls hl => ?_)
  exact L3 (kN S + 1) 0 (by omega) (by omega) rfl ls (lv_sub hl [1, 2, 3, 4, 0] rfl)
set_option maxHeartbeats 4000000 in
set_option maxRecDepth 100000 in
theorem r_X0_percentAt (l : Launch) (D : va_G) (a : Nat → Nat) (cI cZ : ClassId) (S : KS) (hO : kOk S) (pl : Nat) (hp : pl < 120) (t : Int32) : xRO l yX0_percentAt cX0_percentAt 5 (some .int) (xrm 4 87) [.ref (a 0), .int (nI pl), .int (t)] D (wK a cI cZ S) (tyL cI cZ) (percentK S pl t) := by
  refine xRO.of (by decide) (Nat.le_of_ble_eq_true rfl) ?_
  intro p e s m args below meth cd hx hb hr hml hown hlocks ht hN hP hK ls hl
  have hl : lv_has ls 5 [(0, .ref (a 0)), (1, .int (nI pl)), (2, .int (t))] := hl
  have hown : s.vm.findClass RX0 = some m.cls := hown
  have hn := hO.1
  have L6 : ∀ (n : Nat) (v : Int32) (c : Nat), kN S < c + n → c ≤ kN S → v = minN (fun c => decide (kKd S c = nI 5) && onK S c pl t) (kXs S) c → ∀ ls : Array Slot, lv_has ls 5 [(0, .ref (a 0)), (1, .int (nI pl)), (2, .int (t)), (3, .int (v)), (4, .int (nI c))] → W p l e (xrm 4 87) s m args below meth cd s.heap [] 0 0 (MQ below (QcRead (percentK S pl t)) args s 0 0 (fun _ => False)) (F0 m 6 ls []) := by
    intro n
    induction n with
    | zero =>
      intro v c hfuel hi hv
      exact absurd hfuel (by omega)
    | succ n ih6 =>
      intro v c hfuel hi hv ls hl
      refine lv_iload hx hb dX0_percentAt_6 (lv_at hl 4 rfl) ?_
      refine lv_aload_n hx hb dX0_percentAt_8 rfl (lv_at hl 0 rfl) ?_
      refine va_get (D := D) (ci := 0) (v := .int (nI (kN S))) (C := RX0) (T := TX0) (N := 10) hx hb ht inX0 hown hK hP 0 rfl rfl 9 (by decide) (ht _ wd57) (fun _ h9 => h9) rfl dX0_percentAt_9 ?_
      refine lv_icmp_ge (tgt := 55) hx hb dX0_percentAt_12 (by decide) (fun h_12 => ?_) (fun h_12 => ?_)
      · skip
        have h_12 : (kN S) ≤ c := (nI_leI (by omega) (by omega)).mp h_12
        refine lv_iload_n hx hb dX0_percentAt_55 rfl (lv_at hl 3 rfl) ?_
        exact xr_iret (v := v) hx hb hr hlocks (by rw [percentK, show kN S = c by omega, ← hv]) dX0_percentAt_56
      · skip
        have h_12 : ¬ ((kN S) ≤ c) := fun z => h_12 ((nI_leI (by omega) (by omega)).mpr z)
        refine lv_aload_n hx hb dX0_percentAt_15 rfl (lv_at hl 0 rfl) ?_
        refine va_get (D := D) (ci := 0) (v := .ref (a 1)) (C := RX0) (T := TX0) (N := 10) hx hb ht inX0 hown hK hP 0 rfl rfl 0 (by decide) (ht _ wd48) (fun _ h9 => h9) rfl dX0_percentAt_16 ?_
        refine lv_iload hx hb dX0_percentAt_19 (lv_at hl 4 rfl) ?_
        refine xa_iald hx hb hK hP 1 0 (i := c) rfl rfl (by omega) (by decide) dX0_percentAt_21 ?_
        refine lv_iconst (v := nI 5) hx hb dX0_percentAt_22 (by decide) ?_
        refine lv_icmp_ne (tgt := 49) hx hb dX0_percentAt_23 (by decide) (fun h_23 => ?_) (fun h_23 => ?_)
        · skip
          refine lv_iinc (v := nI (c + 1)) (lv' := [(4, .int (nI (c + 1))), (0, .ref (a 0)), (1, .int (nI pl)), (2, .int (t)), (3, .int (v))]) hx hb dX0_percentAt_49 hl (k := 4) rfl (nI_1 _) (by decide) rfl (fun ls hl => ?_)
          refine lv_goto (tgt := 6) hx hb dX0_percentAt_52 (by decide) ?_
          exact ih6 _ (c + 1) (by omega) (by omega) (by rw [minN, ← hv]; first | (rw [decide_eq_false h_23]; rfl) | (rw [decide_eq_true h_23, bI_t h_34]; rfl) | (rw [bI_f h_34, Bool.and_false]; rfl)) ls (lv_sub hl [1, 2, 3, 4, 0] rfl)
        · skip
          refine lv_aload_n hx hb dX0_percentAt_26 rfl (lv_at hl 0 rfl) ?_
          refine lv_iload hx hb dX0_percentAt_27 (lv_at hl 4 rfl) ?_
          refine lv_iload_n hx hb dX0_percentAt_29 rfl (lv_at hl 1 rfl) ?_
          refine lv_iload_n hx hb dX0_percentAt_30 rfl (lv_at hl 2 rfl) ?_
          refine xrV (As := [.int (nI c), .int (nI pl), .int (t)]) (rest := []) hx hb hml hown ht hN kV_X0_44 (r_X0_holdsOn l D a cI cZ S hO c (by omega) pl hp t) ⟨by decide, by decide⟩ hP hK rfl rfl rfl rfl hl.1 rfl (Nat.le_of_ble_eq_true rfl) dX0_percentAt_31 ⟨Nat.zero_le _, Nat.zero_le _⟩ ?_
          refine lv_if_eq (tgt := 49) hx hb dX0_percentAt_34 (by decide) (fun h_34 => ?_) (fun h_34 => ?_)
          · skip
            refine lv_iinc (v := nI (c + 1)) (lv' := [(4, .int (nI (c + 1))), (0, .ref (a 0)), (1, .int (nI pl)), (2, .int (t)), (3, .int (v))]) hx hb dX0_percentAt_49 hl (k := 4) rfl (nI_1 _) (by decide) rfl (fun ls hl => ?_)
            refine lv_goto (tgt := 6) hx hb dX0_percentAt_52 (by decide) ?_
            exact ih6 _ (c + 1) (by omega) (by omega) (by rw [minN, ← hv]; first | (rw [decide_eq_false h_23]; rfl) | (rw [decide_eq_true h_23, bI_t h_34]; rfl) | (rw [bI_f h_34, Bool.and_false]; rfl)) ls (lv_sub hl [1, 2, 3, 4, 0] rfl)
          · skip
            refine lv_iload_n hx hb dX0_percentAt_37 rfl (lv_at hl 3 rfl) ?_
            refine lv_aload_n hx hb dX0_percentAt_38 rfl (lv_at hl 0 rfl) ?_
            refine va_get (D := D) (ci := 0) (v := .ref (a 6)) (C := RX0) (T := TX0) (N := 10) hx hb ht inX0 hown hK hP 0 rfl rfl 5 (by decide) (ht _ wd53) (fun _ h9 => h9) rfl dX0_percentAt_39 ?_
            refine lv_iload hx hb dX0_percentAt_42 (lv_at hl 4 rfl) ?_
            refine xa_iald hx hb hK hP 6 0 (i := c) rfl rfl (by omega) (by decide) dX0_percentAt_44 ?_
            refine xr_min hx hb (hml.trans hl.1.symm) hown (ht _ wd463) (ht _ wd464) (ht _ wd32) (ht _ wd465) (by decide) (by decide) (Nat.zero_le _) (Nat.zero_le _) dX0_percentAt_45 ?_
            refine lv_istore_n (lv' := [(3, .int (mnI (v) (kXs S c))), (0, .ref (a 0)), (1, .int (nI pl)), (2, .int (t)), (4, .int (nI c))]) hx hb dX0_percentAt_48 rfl hl (by decide) rfl (fun ls hl => ?_)
            refine lv_iinc (v := nI (c + 1)) (lv' := [(4, .int (nI (c + 1))), (3, .int (mnI (v) (kXs S c))), (0, .ref (a 0)), (1, .int (nI pl)), (2, .int (t))]) hx hb dX0_percentAt_49 hl (k := 4) rfl (nI_1 _) (by decide) rfl (fun ls hl => ?_)
            refine lv_goto (tgt := 6) hx hb dX0_percentAt_52 (by decide) ?_
            exact ih6 _ (c + 1) (by omega) (by omega) (by rw [minN, ← hv]; first | (rw [decide_eq_false h_23]; rfl) | (rw [decide_eq_true h_23, bI_t h_34]; rfl) | (rw [bI_f h_34, Bool.and_false]; rfl)) ls (lv_sub hl [2, 3, 4, 1, 0] rfl)
  refine lv_bipush (v := nI 100) hx hb dX0_percentAt_0 (by decide) ?_
  refine lv_istore_n (lv' := [(3, .int (nI 100)), (0, .ref (a 0)), (1, .int (nI pl)), (2, .int (t))]) hx hb dX0_percentAt_2 rfl hl (by decide) rfl (fun ls hl => ?_)
  refine lv_iconst (v := nI 0) hx hb dX0_percentAt_3 (by decide) ?_
  refine lv_istore (lv' := [(4, .int (nI 0)), (3, .int (nI 100)), (0, .ref (a 0)), (1, .int (nI pl)), (2, .int (t))]) hx hb dX0_percentAt_4 hl (by decide) rfl (fun ls hl => ?_)
  exact L6 (kN S + 1) (nI 100) 0 (by omega) (by omega) rfl ls (lv_sub hl [2, 3, 4, 1, 0] rfl)
set_option maxHeartbeats 4000000 in
set_option maxRecDepth 100000 in
theorem r_X0_changeOf (l : Launch) (D : va_G) (a : Nat → Nat) (cI cZ : ClassId) (S : KS) (hO : kOk S) (c : Nat) (hc : c < kN S) (t : Int32) : xRO l yX0_changeOf cX0_changeOf 6 (some .int) (xrm 2 42) [.ref (a 0), .int (nI c), .int (t)] D (wK a cI cZ S) (tyL cI cZ) (changeK S c t) := by
  refine xRO.of (by decide) (Nat.le_of_ble_eq_true rfl) ?_
  intro p e s m args below meth cd hx hb hr hml hown hlocks ht hN hP hK ls hl
  have hl : lv_has ls 6 [(0, .ref (a 0)), (1, .int (nI c)), (2, .int (t))] := hl
  have hown : s.vm.findClass RX0 = some m.cls := hown
  have hn := hO.1
  refine lv_iload_n hx hb dX0_changeOf_0 rfl (lv_at hl 2 rfl) ?_
  refine lv_aload_n hx hb dX0_changeOf_1 rfl (lv_at hl 0 rfl) ?_
  refine va_get (D := D) (ci := 0) (v := .ref (a 5)) (C := RX0) (T := TX0) (N := 10) hx hb ht inX0 hown hK hP 0 rfl rfl 4 (by decide) (ht _ wd52) (fun _ h9 => h9) rfl dX0_changeOf_2 ?_
  refine lv_iload_n hx hb dX0_changeOf_5 rfl (lv_at hl 1 rfl) ?_
  refine xa_iald hx hb hK hP 5 0 (i := c) rfl rfl (by omega) (by decide) dX0_changeOf_6 ?_
  refine lv_icmp_lt (tgt := 13) hx hb dX0_changeOf_7 (by decide) (fun h_7 => ?_) (fun h_7 => ?_)
  · skip
    refine lv_iload_n hx hb dX0_changeOf_13 rfl (lv_at hl 2 rfl) ?_
    refine lv_aload_n hx hb dX0_changeOf_14 rfl (lv_at hl 0 rfl) ?_
    refine va_get (D := D) (ci := 0) (v := .ref (a 4)) (C := RX0) (T := TX0) (N := 10) hx hb ht inX0 hown hK hP 0 rfl rfl 3 (by decide) (ht _ wd51) (fun _ h9 => h9) rfl dX0_changeOf_15 ?_
    refine lv_iload_n hx hb dX0_changeOf_18 rfl (lv_at hl 1 rfl) ?_
    refine xa_iald hx hb hK hP 4 0 (i := c) rfl rfl (by omega) (by decide) dX0_changeOf_19 ?_
    refine lv_icmp_ge (tgt := 30) hx hb dX0_changeOf_20 (by decide) (fun h_20 => ?_) (fun h_20 => ?_)
    · skip
      refine lv_aload_n hx hb dX0_changeOf_30 rfl (lv_at hl 0 rfl) ?_
      refine va_get (D := D) (ci := 0) (v := .ref (a 1)) (C := RX0) (T := TX0) (N := 10) hx hb ht inX0 hown hK hP 0 rfl rfl 0 (by decide) (ht _ wd48) (fun _ h9 => h9) rfl dX0_changeOf_31 ?_
      refine lv_iload_n hx hb dX0_changeOf_34 rfl (lv_at hl 1 rfl) ?_
      refine xa_iald hx hb hK hP 1 0 (i := c) rfl rfl (by omega) (by decide) dX0_changeOf_35 ?_
      refine lv_iconst (v := nI 4) hx hb dX0_changeOf_36 (by decide) ?_
      refine lv_icmp_eq (tgt := 47) hx hb dX0_changeOf_37 (by decide) (fun h_37 => ?_) (fun h_37 => ?_)
      · skip
        refine lv_aload_n hx hb dX0_changeOf_47 rfl (lv_at hl 0 rfl) ?_
        refine lv_iload_n hx hb dX0_changeOf_48 rfl (lv_at hl 1 rfl) ?_
        refine lv_iload_n hx hb dX0_changeOf_49 rfl (lv_at hl 2 rfl) ?_
        refine xrV (As := [.int (nI c), .int (t)]) (rest := []) hx hb hml hown ht hN kV_X0_79 (r_X0_minuteOfPeriod l D a cI cZ S hO c hc t ((hO.2.2 c hc).2.1 h_37)) ⟨by decide, by decide⟩ hP hK rfl rfl rfl rfl hl.1 rfl (Nat.le_of_ble_eq_true rfl) dX0_changeOf_50 ⟨Nat.zero_le _, Nat.zero_le _⟩ ?_
        refine lv_istore_n (lv' := [(3, .int (mopK S c t)), (0, .ref (a 0)), (1, .int (nI c)), (2, .int (t))]) hx hb dX0_changeOf_53 rfl hl (by decide) rfl (fun ls hl => ?_)
        refine lv_aload_n hx hb dX0_changeOf_54 rfl (lv_at hl 1 rfl) ?_
        refine va_get (D := D) (ci := 0) (v := .ref (a 6)) (C := RX0) (T := TX0) (N := 10) hx hb ht inX0 hown hK hP 0 rfl rfl 5 (by decide) (ht _ wd53) (fun _ h9 => h9) rfl dX0_changeOf_55 ?_
        refine lv_iload_n hx hb dX0_changeOf_58 rfl (lv_at hl 2 rfl) ?_
        refine xa_iald hx hb hK hP 6 0 (i := c) rfl rfl (by omega) (by decide) dX0_changeOf_59 ?_
        refine xrN (As := [.int (kXs S c)]) (rest := []) hx hb hml hown ht hN kN_X0_82 (r_X3_lengthOf l D (kXs S c)) ⟨by decide, by decide⟩ (fun k q h => by simp at h) (hK.sub (tys' := []) [] rfl) rfl hl.1 rfl (Nat.le_of_ble_eq_true rfl) dX0_changeOf_60 ⟨Nat.zero_le _, Nat.zero_le _⟩ ?_
        refine lv_istore (lv' := [(4, .int (rI (kXs S c) (nI 100))), (3, .int (mopK S c t)), (0, .ref (a 0)), (1, .int (nI c)), (2, .int (t))]) hx hb dX0_changeOf_63 hl (by decide) rfl (fun ls hl => ?_)
        refine lv_iload_n hx hb dX0_changeOf_65 rfl (lv_at hl 1 rfl) ?_
        refine lv_iload hx hb dX0_changeOf_66 (lv_at hl 0 rfl) ?_
        refine lv_icmp_ge (tgt := 76) hx hb dX0_changeOf_68 (by decide) (fun h_68 => ?_) (fun h_68 => ?_)
        · skip
          refine lv_aload_n hx hb dX0_changeOf_76 rfl (lv_at hl 2 rfl) ?_
          refine va_get (D := D) (ci := 0) (v := .ref (a 6)) (C := RX0) (T := TX0) (N := 10) hx hb ht inX0 hown hK hP 0 rfl rfl 5 (by decide) (ht _ wd53) (fun _ h9 => h9) rfl dX0_changeOf_77 ?_
          refine lv_iload_n hx hb dX0_changeOf_80 rfl (lv_at hl 3 rfl) ?_
          refine xa_iald hx hb hK hP 6 0 (i := c) rfl rfl (by omega) (by decide) dX0_changeOf_81 ?_
          refine xrN (As := [.int (kXs S c)]) (rest := []) hx hb hml hown ht hN kN_X0_86 (r_X3_periodOf l D (kXs S c)) ⟨by decide, by decide⟩ (fun k q h => by simp at h) (hK.sub (tys' := []) [] rfl) rfl hl.1 rfl (Nat.le_of_ble_eq_true rfl) dX0_changeOf_82 ⟨Nat.zero_le _, Nat.zero_le _⟩ ?_
          refine lv_istore (lv' := [(5, .int (kXs S c / nI 100)), (4, .int (rI (kXs S c) (nI 100))), (3, .int (mopK S c t)), (0, .ref (a 0)), (1, .int (nI c)), (2, .int (t))]) hx hb dX0_changeOf_85 hl (by decide) rfl (fun ls hl => ?_)
          refine lv_iload_n hx hb dX0_changeOf_87 rfl (lv_at hl 5 rfl) ?_
          refine lv_iload_n hx hb dX0_changeOf_88 rfl (lv_at hl 2 rfl) ?_
          refine lv_isub hx hb dX0_changeOf_89 ?_
          refine lv_iload hx hb dX0_changeOf_90 (lv_at hl 0 rfl) ?_
          refine lv_iadd hx hb dX0_changeOf_92 ?_
          refine lv_aload_n hx hb dX0_changeOf_93 rfl (lv_at hl 3 rfl) ?_
          refine va_get (D := D) (ci := 0) (v := .ref (a 5)) (C := RX0) (T := TX0) (N := 10) hx hb ht inX0 hown hK hP 0 rfl rfl 4 (by decide) (ht _ wd52) (fun _ h9 => h9) rfl dX0_changeOf_94 ?_
          refine lv_iload_n hx hb dX0_changeOf_97 rfl (lv_at hl 4 rfl) ?_
          refine xa_iald hx hb hK hP 5 0 (i := c) rfl rfl (by omega) (by decide) dX0_changeOf_98 ?_
          refine xr_min hx hb (hml.trans hl.1.symm) hown (ht _ wd463) (ht _ wd464) (ht _ wd32) (ht _ wd465) (by decide) (by decide) (Nat.zero_le _) (Nat.zero_le _) dX0_changeOf_99 ?_
          exact xr_iret (v := mnI (((t) - (mopK S c t)) + (kXs S c / nI 100)) (kEn S c)) hx hb hr hlocks (by rw [changeK, if_pos h_7, if_pos h_20, if_pos h_37]; first | (rw [if_pos h_68]; done) | (rw [if_neg h_68]; done)) dX0_changeOf_102
        · skip
          refine lv_iload hx hb dX0_changeOf_71 (lv_at hl 0 rfl) ?_
          refine lv_goto (tgt := 85) hx hb dX0_changeOf_73 (by decide) ?_
          refine lv_istore (lv' := [(5, .int (rI (kXs S c) (nI 100))), (4, .int (rI (kXs S c) (nI 100))), (3, .int (mopK S c t)), (0, .ref (a 0)), (1, .int (nI c)), (2, .int (t))]) hx hb dX0_changeOf_85 hl (by decide) rfl (fun ls hl => ?_)
          refine lv_iload_n hx hb dX0_changeOf_87 rfl (lv_at hl 5 rfl) ?_
          refine lv_iload_n hx hb dX0_changeOf_88 rfl (lv_at hl 2 rfl) ?_
          refine lv_isub hx hb dX0_changeOf_89 ?_
          refine lv_iload hx hb dX0_changeOf_90 (lv_at hl 0 rfl) ?_
          refine lv_iadd hx hb dX0_changeOf_92 ?_
          refine lv_aload_n hx hb dX0_changeOf_93 rfl (lv_at hl 3 rfl) ?_
          refine va_get (D := D) (ci := 0) (v := .ref (a 5)) (C := RX0) (T := TX0) (N := 10) hx hb ht inX0 hown hK hP 0 rfl rfl 4 (by decide) (ht _ wd52) (fun _ h9 => h9) rfl dX0_changeOf_94 ?_
          refine lv_iload_n hx hb dX0_changeOf_97 rfl (lv_at hl 4 rfl) ?_
          refine xa_iald hx hb hK hP 5 0 (i := c) rfl rfl (by omega) (by decide) dX0_changeOf_98 ?_
          refine xr_min hx hb (hml.trans hl.1.symm) hown (ht _ wd463) (ht _ wd464) (ht _ wd32) (ht _ wd465) (by decide) (by decide) (Nat.zero_le _) (Nat.zero_le _) dX0_changeOf_99 ?_
          exact xr_iret (v := mnI (((t) - (mopK S c t)) + (rI (kXs S c) (nI 100))) (kEn S c)) hx hb hr hlocks (by rw [changeK, if_pos h_7, if_pos h_20, if_pos h_37]; first | (rw [if_pos h_68]; done) | (rw [if_neg h_68]; done)) dX0_changeOf_102
      · skip
        refine lv_aload_n hx hb dX0_changeOf_40 rfl (lv_at hl 0 rfl) ?_
        refine va_get (D := D) (ci := 0) (v := .ref (a 5)) (C := RX0) (T := TX0) (N := 10) hx hb ht inX0 hown hK hP 0 rfl rfl 4 (by decide) (ht _ wd52) (fun _ h9 => h9) rfl dX0_changeOf_41 ?_
        refine lv_iload_n hx hb dX0_changeOf_44 rfl (lv_at hl 1 rfl) ?_
        refine xa_iald hx hb hK hP 5 0 (i := c) rfl rfl (by omega) (by decide) dX0_changeOf_45 ?_
        exact xr_iret (v := kEn S c) hx hb hr hlocks (by rw [changeK, if_pos h_7, if_pos h_20, if_neg h_37]) dX0_changeOf_46
    · skip
      refine lv_aload_n hx hb dX0_changeOf_23 rfl (lv_at hl 0 rfl) ?_
      refine va_get (D := D) (ci := 0) (v := .ref (a 4)) (C := RX0) (T := TX0) (N := 10) hx hb ht inX0 hown hK hP 0 rfl rfl 3 (by decide) (ht _ wd51) (fun _ h9 => h9) rfl dX0_changeOf_24 ?_
      refine lv_iload_n hx hb dX0_changeOf_27 rfl (lv_at hl 1 rfl) ?_
      refine xa_iald hx hb hK hP 4 0 (i := c) rfl rfl (by omega) (by decide) dX0_changeOf_28 ?_
      exact xr_iret (v := kSt S c) hx hb hr hlocks (by rw [changeK, if_pos h_7, if_neg h_20]) dX0_changeOf_29
  · skip
    refine lv_ldc (v := nI 100000) hx hb hown (ht _ wd458) dX0_changeOf_10 ?_
    exact xr_iret (v := nI 100000) hx hb hr hlocks (by rw [changeK, if_neg h_7]) dX0_changeOf_12
set_option maxHeartbeats 4000000 in
set_option maxRecDepth 100000 in
theorem r_X0_nextChange (l : Launch) (D : va_G) (a : Nat → Nat) (cI cZ : ClassId) (S : KS) (hO : kOk S) (t : Int32) : xRO l yX0_nextChange cX0_nextChange 4 (some .int) (xrm 3 67) [.ref (a 0), .int (t)] D (wK a cI cZ S) (tyL cI cZ) (nextK S t (kN S)) := by
  refine xRO.of (by decide) (Nat.le_of_ble_eq_true rfl) ?_
  intro p e s m args below meth cd hx hb hr hml hown hlocks ht hN hP hK ls hl
  have hl : lv_has ls 4 [(0, .ref (a 0)), (1, .int (t))] := hl
  have hown : s.vm.findClass RX0 = some m.cls := hown
  have hn := hO.1
  have L5 : ∀ (n : Nat) (v : Int32) (c : Nat), kN S < c + n → c ≤ kN S → v = nextK S t c → ∀ ls : Array Slot, lv_has ls 4 [(0, .ref (a 0)), (1, .int (t)), (2, .int (v)), (3, .int (nI c))] → W p l e (xrm 3 67) s m args below meth cd s.heap [] 0 0 (MQ below (QcRead (nextK S t (kN S))) args s 0 0 (fun _ => False)) (F0 m 5 ls []) := by
    intro n
    induction n with
    | zero =>
      intro v c hfuel hi hv
      exact absurd hfuel (by omega)
    | succ n ih5 =>
      intro v c hfuel hi hv ls hl
      refine lv_iload_n hx hb dX0_nextChange_5 rfl (lv_at hl 3 rfl) ?_
      refine lv_aload_n hx hb dX0_nextChange_6 rfl (lv_at hl 0 rfl) ?_
      refine va_get (D := D) (ci := 0) (v := .int (nI (kN S))) (C := RX0) (T := TX0) (N := 10) hx hb ht inX0 hown hK hP 0 rfl rfl 9 (by decide) (ht _ wd57) (fun _ h9 => h9) rfl dX0_nextChange_7 ?_
      refine lv_icmp_ge (tgt := 30) hx hb dX0_nextChange_10 (by decide) (fun h_10 => ?_) (fun h_10 => ?_)
      · skip
        have h_10 : (kN S) ≤ c := (nI_leI (by omega) (by omega)).mp h_10
        refine lv_iload_n hx hb dX0_nextChange_30 rfl (lv_at hl 2 rfl) ?_
        exact xr_iret (v := v) hx hb hr hlocks (by rw [show kN S = c by omega, ← hv]) dX0_nextChange_31
      · skip
        have h_10 : ¬ ((kN S) ≤ c) := fun z => h_10 ((nI_leI (by omega) (by omega)).mpr z)
        refine lv_iload_n hx hb dX0_nextChange_13 rfl (lv_at hl 2 rfl) ?_
        refine lv_aload_n hx hb dX0_nextChange_14 rfl (lv_at hl 0 rfl) ?_
        refine lv_iload_n hx hb dX0_nextChange_15 rfl (lv_at hl 3 rfl) ?_
        refine lv_iload_n hx hb dX0_nextChange_16 rfl (lv_at hl 1 rfl) ?_
        refine xrV (As := [.int (nI c), .int (t)]) (rest := [.int (v)]) hx hb hml hown ht hN kV_X0_73 (r_X0_changeOf l D a cI cZ S hO c (by omega) t) ⟨by decide, by decide⟩ hP hK rfl rfl rfl rfl hl.1 rfl (Nat.le_of_ble_eq_true rfl) dX0_nextChange_17 ⟨Nat.zero_le _, Nat.zero_le _⟩ ?_
        refine xr_min hx hb (hml.trans hl.1.symm) hown (ht _ wd463) (ht _ wd464) (ht _ wd32) (ht _ wd465) (by decide) (by decide) (Nat.zero_le _) (Nat.zero_le _) dX0_nextChange_20 ?_
        refine lv_istore_n (lv' := [(2, .int (mnI (v) (changeK S c t))), (0, .ref (a 0)), (1, .int (t)), (3, .int (nI c))]) hx hb dX0_nextChange_23 rfl hl (by decide) rfl (fun ls hl => ?_)
        refine lv_iinc (v := nI (c + 1)) (lv' := [(3, .int (nI (c + 1))), (2, .int (mnI (v) (changeK S c t))), (0, .ref (a 0)), (1, .int (t))]) hx hb dX0_nextChange_24 hl (k := 3) rfl (nI_1 _) (by decide) rfl (fun ls hl => ?_)
        refine lv_goto (tgt := 5) hx hb dX0_nextChange_27 (by decide) ?_
        exact ih5 _ (c + 1) (by omega) (by omega) (by rw [nextK, ← hv]) ls (lv_sub hl [2, 3, 1, 0] rfl)
  refine lv_ldc (v := nI 100000) hx hb hown (ht _ wd458) dX0_nextChange_0 ?_
  refine lv_istore_n (lv' := [(2, .int (nI 100000)), (0, .ref (a 0)), (1, .int (t))]) hx hb dX0_nextChange_2 rfl hl (by decide) rfl (fun ls hl => ?_)
  refine lv_iconst (v := nI 0) hx hb dX0_nextChange_3 (by decide) ?_
  refine lv_istore_n (lv' := [(3, .int (nI 0)), (2, .int (nI 100000)), (0, .ref (a 0)), (1, .int (t))]) hx hb dX0_nextChange_4 rfl hl (by decide) rfl (fun ls hl => ?_)
  exact L5 (kN S + 1) (nI 100000) 0 (by omega) (by omega) (by rw [nextK]) ls (lv_sub hl [2, 3, 1, 0] rfl)
set_option maxHeartbeats 4000000 in
set_option maxRecDepth 100000 in
theorem r_X0_nextChangeOn (l : Launch) (D : va_G) (a : Nat → Nat) (cI cZ : ClassId) (S : KS) (hO : kOk S) (pl : Nat) (hp : pl < 120) (t : Int32) : xRO l yX0_nextChangeOn cX0_nextChangeOn 5 (some .int) (xrm 3 67) [.ref (a 0), .int (nI pl), .int (t)] D (wK a cI cZ S) (tyL cI cZ) (nextOnK S pl t (kN S)) := by
  refine xRO.of (by decide) (Nat.le_of_ble_eq_true rfl) ?_
  intro p e s m args below meth cd hx hb hr hml hown hlocks ht hN hP hK ls hl
  have hl : lv_has ls 5 [(0, .ref (a 0)), (1, .int (nI pl)), (2, .int (t))] := hl
  have hown : s.vm.findClass RX0 = some m.cls := hown
  have hn := hO.1
  have L6 : ∀ (n : Nat) (v : Int32) (c : Nat), kN S < c + n → c ≤ kN S → v = nextOnK S pl t c → ∀ ls : Array Slot, lv_has ls 5 [(0, .ref (a 0)), (1, .int (nI pl)), (2, .int (t)), (3, .int (v)), (4, .int (nI c))] → W p l e (xrm 3 67) s m args below meth cd s.heap [] 0 0 (MQ below (QcRead (nextOnK S pl t (kN S))) args s 0 0 (fun _ => False)) (F0 m 6 ls []) := by
    intro n
    induction n with
    | zero =>
      intro v c hfuel hi hv
      exact absurd hfuel (by omega)
    | succ n ih6 =>
      intro v c hfuel hi hv ls hl
      refine lv_iload hx hb dX0_nextChangeOn_6 (lv_at hl 4 rfl) ?_
      refine lv_aload_n hx hb dX0_nextChangeOn_8 rfl (lv_at hl 0 rfl) ?_
      refine va_get (D := D) (ci := 0) (v := .int (nI (kN S))) (C := RX0) (T := TX0) (N := 10) hx hb ht inX0 hown hK hP 0 rfl rfl 9 (by decide) (ht _ wd57) (fun _ h9 => h9) rfl dX0_nextChangeOn_9 ?_
      refine lv_icmp_ge (tgt := 43) hx hb dX0_nextChangeOn_12 (by decide) (fun h_12 => ?_) (fun h_12 => ?_)
      · skip
        have h_12 : (kN S) ≤ c := (nI_leI (by omega) (by omega)).mp h_12
        refine lv_iload_n hx hb dX0_nextChangeOn_43 rfl (lv_at hl 3 rfl) ?_
        exact xr_iret (v := v) hx hb hr hlocks (by rw [show kN S = c by omega, ← hv]) dX0_nextChangeOn_44
      · skip
        have h_12 : ¬ ((kN S) ≤ c) := fun z => h_12 ((nI_leI (by omega) (by omega)).mpr z)
        refine lv_aload_n hx hb dX0_nextChangeOn_15 rfl (lv_at hl 0 rfl) ?_
        refine lv_iload hx hb dX0_nextChangeOn_16 (lv_at hl 4 rfl) ?_
        refine lv_iload_n hx hb dX0_nextChangeOn_18 rfl (lv_at hl 1 rfl) ?_
        refine xrV (As := [.int (nI c), .int (nI pl)]) (rest := []) hx hb hml hown ht hN kV_X0_76 (r_X0_covers l D a cI cZ S hO c (by omega) pl hp) ⟨by decide, by decide⟩ hP hK rfl rfl rfl rfl hl.1 rfl (Nat.le_of_ble_eq_true rfl) dX0_nextChangeOn_19 ⟨Nat.zero_le _, Nat.zero_le _⟩ ?_
        refine lv_if_eq (tgt := 37) hx hb dX0_nextChangeOn_22 (by decide) (fun h_22 => ?_) (fun h_22 => ?_)
        · skip
          refine lv_iinc (v := nI (c + 1)) (lv' := [(4, .int (nI (c + 1))), (0, .ref (a 0)), (1, .int (nI pl)), (2, .int (t)), (3, .int (v))]) hx hb dX0_nextChangeOn_37 hl (k := 4) rfl (nI_1 _) (by decide) rfl (fun ls hl => ?_)
          refine lv_goto (tgt := 6) hx hb dX0_nextChangeOn_40 (by decide) ?_
          exact ih6 _ (c + 1) (by omega) (by omega) (by rw [nextOnK, ← hv]; first | (rw [if_pos (bI_t h_22)]; done) | (rw [if_neg (by rw [bI_f h_22]; decide)]; done)) ls (lv_sub hl [1, 2, 3, 4, 0] rfl)
        · skip
          refine lv_iload_n hx hb dX0_nextChangeOn_25 rfl (lv_at hl 3 rfl) ?_
          refine lv_aload_n hx hb dX0_nextChangeOn_26 rfl (lv_at hl 0 rfl) ?_
          refine lv_iload hx hb dX0_nextChangeOn_27 (lv_at hl 4 rfl) ?_
          refine lv_iload_n hx hb dX0_nextChangeOn_29 rfl (lv_at hl 2 rfl) ?_
          refine xrV (As := [.int (nI c), .int (t)]) (rest := [.int (v)]) hx hb hml hown ht hN kV_X0_73 (r_X0_changeOf l D a cI cZ S hO c (by omega) t) ⟨by decide, by decide⟩ hP hK rfl rfl rfl rfl hl.1 rfl (Nat.le_of_ble_eq_true rfl) dX0_nextChangeOn_30 ⟨Nat.zero_le _, Nat.zero_le _⟩ ?_
          refine xr_min hx hb (hml.trans hl.1.symm) hown (ht _ wd463) (ht _ wd464) (ht _ wd32) (ht _ wd465) (by decide) (by decide) (Nat.zero_le _) (Nat.zero_le _) dX0_nextChangeOn_33 ?_
          refine lv_istore_n (lv' := [(3, .int (mnI (v) (changeK S c t))), (0, .ref (a 0)), (1, .int (nI pl)), (2, .int (t)), (4, .int (nI c))]) hx hb dX0_nextChangeOn_36 rfl hl (by decide) rfl (fun ls hl => ?_)
          refine lv_iinc (v := nI (c + 1)) (lv' := [(4, .int (nI (c + 1))), (3, .int (mnI (v) (changeK S c t))), (0, .ref (a 0)), (1, .int (nI pl)), (2, .int (t))]) hx hb dX0_nextChangeOn_37 hl (k := 4) rfl (nI_1 _) (by decide) rfl (fun ls hl => ?_)
          refine lv_goto (tgt := 6) hx hb dX0_nextChangeOn_40 (by decide) ?_
          exact ih6 _ (c + 1) (by omega) (by omega) (by rw [nextOnK, ← hv]; first | (rw [if_pos (bI_t h_22)]; done) | (rw [if_neg (by rw [bI_f h_22]; decide)]; done)) ls (lv_sub hl [2, 3, 4, 1, 0] rfl)
  refine lv_ldc (v := nI 100000) hx hb hown (ht _ wd458) dX0_nextChangeOn_0 ?_
  refine lv_istore_n (lv' := [(3, .int (nI 100000)), (0, .ref (a 0)), (1, .int (nI pl)), (2, .int (t))]) hx hb dX0_nextChangeOn_2 rfl hl (by decide) rfl (fun ls hl => ?_)
  refine lv_iconst (v := nI 0) hx hb dX0_nextChangeOn_3 (by decide) ?_
  refine lv_istore (lv' := [(4, .int (nI 0)), (3, .int (nI 100000)), (0, .ref (a 0)), (1, .int (nI pl)), (2, .int (t))]) hx hb dX0_nextChangeOn_4 hl (by decide) rfl (fun ls hl => ?_)
  exact L6 (kN S + 1) (nI 100000) 0 (by omega) (by omega) (by rw [nextOnK]) ls (lv_sub hl [2, 3, 4, 1, 0] rfl)
end
section
theorem kN_X0_56 : xcN RX0 56 yX3_placeOf cX3_placeOf 2 (some .int) 2 RX3 := ⟨wd311, by decide +kernel, wd310, wd21, ⟨by decide +kernel, by decide +kernel, by decide +kernel⟩⟩
theorem kV_X0_52 : xcV RX0 RX0 52 yX0_markSides cX0_markSides 3 none 2 := ⟨wd308, wd305, wd307, wd4, wd22, rfl, ⟨by decide +kernel, by decide +kernel, by decide +kernel⟩⟩
set_option maxHeartbeats 4000000 in
set_option maxRecDepth 100000 in
theorem r_X0_isFull (l : Launch) (D : va_G) (a : Nat → Nat) (cI cZ : ClassId) (S : KS) (hO : kOk S) : xRO l yX0_isFull cX0_isFull 1 (some .boolean) (xrm 0 0) [.ref (a 0)] D (wK a cI cZ S) (tyL cI cZ) (bI (decide (100 ≤ kN S))) := by
  refine xRO.of (by decide) (Nat.le_of_ble_eq_true rfl) ?_
  intro p e s m args below meth cd hx hb hr hml hown hlocks ht hN hP hK ls hl
  have hl : lv_has ls 1 [(0, .ref (a 0))] := hl
  have hown : s.vm.findClass RX0 = some m.cls := hown
  have hn := hO.1
  refine lv_aload_n hx hb dX0_isFull_0 rfl (lv_at hl 0 rfl) ?_
  refine va_get (D := D) (ci := 0) (v := .int (nI (kN S))) (C := RX0) (T := TX0) (N := 10) hx hb ht inX0 hown hK hP 0 rfl rfl 9 (by decide) (ht _ wd57) (fun _ h9 => h9) rfl dX0_isFull_1 ?_
  refine lv_bipush (v := nI 100) hx hb dX0_isFull_4 (by decide) ?_
  refine lv_icmp_lt (tgt := 13) hx hb dX0_isFull_6 (by decide) (fun h_6 => ?_) (fun h_6 => ?_)
  · skip
    have h_6 : (kN S) < 100 := (nI_ltI (by omega) (by omega)).mp h_6
    refine lv_iconst (v := nI 0) hx hb dX0_isFull_13 (by decide) ?_
    exact xr_zret (v := nI 0) hx hb hr hlocks (by first | rfl | exact bI_nar _) (bI_0 (decide_eq_false (by omega))) dX0_isFull_14
  · skip
    have h_6 : ¬ ((kN S) < 100) := fun z => h_6 ((nI_ltI (by omega) (by omega)).mpr z)
    refine lv_iconst (v := nI 1) hx hb dX0_isFull_9 (by decide) ?_
    refine lv_goto (tgt := 14) hx hb dX0_isFull_10 (by decide) ?_
    exact xr_zret (v := nI 1) hx hb hr hlocks (by first | rfl | exact bI_nar _) (bI_1 (decide_eq_true (by omega))) dX0_isFull_14
set_option maxHeartbeats 4000000 in
set_option maxRecDepth 100000 in
theorem r_X0_has (l : Launch) (D : va_G) (a : Nat → Nat) (cI cZ : ClassId) (S : KS) (hO : kOk S) (i : Int32) : xRO l yX0_has cX0_has 2 (some .boolean) (xrm 0 0) [.ref (a 0), .int (i)] D (wK a cI cZ S) (tyL cI cZ) (bI (!decide (i < 0) && !decide (nI (kN S) ≤ i))) := by
  refine xRO.of (by decide) (Nat.le_of_ble_eq_true rfl) ?_
  intro p e s m args below meth cd hx hb hr hml hown hlocks ht hN hP hK ls hl
  have hl : lv_has ls 2 [(0, .ref (a 0)), (1, .int (i))] := hl
  have hown : s.vm.findClass RX0 = some m.cls := hown
  have hn := hO.1
  refine lv_iload_n hx hb dX0_has_0 rfl (lv_at hl 1 rfl) ?_
  refine lv_if_lt (tgt := 16) hx hb dX0_has_1 (by decide) (fun h_1 => ?_) (fun h_1 => ?_)
  · skip
    refine lv_iconst (v := nI 0) hx hb dX0_has_16 (by decide) ?_
    exact xr_zret (v := nI 0) hx hb hr hlocks (by first | rfl | exact bI_nar _) (bI_0 (by first | (rw [decide_eq_true h_1]; rfl) | (rw [decide_eq_true h_9, Bool.not_true, Bool.and_false]))) dX0_has_17
  · skip
    refine lv_iload_n hx hb dX0_has_4 rfl (lv_at hl 1 rfl) ?_
    refine lv_aload_n hx hb dX0_has_5 rfl (lv_at hl 0 rfl) ?_
    refine va_get (D := D) (ci := 0) (v := .int (nI (kN S))) (C := RX0) (T := TX0) (N := 10) hx hb ht inX0 hown hK hP 0 rfl rfl 9 (by decide) (ht _ wd57) (fun _ h9 => h9) rfl dX0_has_6 ?_
    refine lv_icmp_ge (tgt := 16) hx hb dX0_has_9 (by decide) (fun h_9 => ?_) (fun h_9 => ?_)
    · skip
      refine lv_iconst (v := nI 0) hx hb dX0_has_16 (by decide) ?_
      exact xr_zret (v := nI 0) hx hb hr hlocks (by first | rfl | exact bI_nar _) (bI_0 (by first | (rw [decide_eq_true h_1]; rfl) | (rw [decide_eq_true h_9, Bool.not_true, Bool.and_false]))) dX0_has_17
    · skip
      refine lv_iconst (v := nI 1) hx hb dX0_has_12 (by decide) ?_
      refine lv_goto (tgt := 17) hx hb dX0_has_13 (by decide) ?_
      exact xr_zret (v := nI 1) hx hb hr hlocks (by first | rfl | exact bI_nar _) (bI_1 (by rw [decide_eq_false h_1, decide_eq_false h_9]; rfl)) dX0_has_17
set_option maxHeartbeats 4000000 in
set_option maxRecDepth 100000 in
theorem r_X0_awaitsAnswer (l : Launch) (D : va_G) (a : Nat → Nat) (cI cZ : ClassId) (S : KS) (hO : kOk S) (c : Nat) (hc : c < kN S) : xRO l yX0_awaitsAnswer cX0_awaitsAnswer 2 (some .boolean) (xrm 0 0) [.ref (a 0), .int (nI c)] D (wK a cI cZ S) (tyL cI cZ) (bI (decide (kKd S c = nI 1) && decide (kAn S c = 0))) := by
  refine xRO.of (by decide) (Nat.le_of_ble_eq_true rfl) ?_
  intro p e s m args below meth cd hx hb hr hml hown hlocks ht hN hP hK ls hl
  have hl : lv_has ls 2 [(0, .ref (a 0)), (1, .int (nI c))] := hl
  have hown : s.vm.findClass RX0 = some m.cls := hown
  have hn := hO.1
  refine lv_aload_n hx hb dX0_awaitsAnswer_0 rfl (lv_at hl 0 rfl) ?_
  refine va_get (D := D) (ci := 0) (v := .ref (a 1)) (C := RX0) (T := TX0) (N := 10) hx hb ht inX0 hown hK hP 0 rfl rfl 0 (by decide) (ht _ wd48) (fun _ h9 => h9) rfl dX0_awaitsAnswer_1 ?_
  refine lv_iload_n hx hb dX0_awaitsAnswer_4 rfl (lv_at hl 1 rfl) ?_
  refine xa_iald hx hb hK hP 1 0 (i := c) rfl rfl (by omega) (by decide) dX0_awaitsAnswer_5 ?_
  refine lv_iconst (v := nI 1) hx hb dX0_awaitsAnswer_6 (by decide) ?_
  refine lv_icmp_ne (tgt := 23) hx hb dX0_awaitsAnswer_7 (by decide) (fun h_7 => ?_) (fun h_7 => ?_)
  · skip
    refine lv_iconst (v := nI 0) hx hb dX0_awaitsAnswer_23 (by decide) ?_
    exact xr_zret (v := nI 0) hx hb hr hlocks (by first | rfl | exact bI_nar _) (bI_0 (by first | (rw [decide_eq_false h_7]; rfl) | (rw [decide_eq_false h_16, Bool.and_false]))) dX0_awaitsAnswer_24
  · skip
    refine lv_aload_n hx hb dX0_awaitsAnswer_10 rfl (lv_at hl 0 rfl) ?_
    refine va_get (D := D) (ci := 0) (v := .ref (a 7)) (C := RX0) (T := TX0) (N := 10) hx hb ht inX0 hown hK hP 0 rfl rfl 6 (by decide) (ht _ wd54) (fun _ h9 => h9) rfl dX0_awaitsAnswer_11 ?_
    refine lv_iload_n hx hb dX0_awaitsAnswer_14 rfl (lv_at hl 1 rfl) ?_
    refine xa_iald hx hb hK hP 7 0 (i := c) rfl rfl (by omega) (by decide) dX0_awaitsAnswer_15 ?_
    refine lv_if_ne (tgt := 23) hx hb dX0_awaitsAnswer_16 (by decide) (fun h_16 => ?_) (fun h_16 => ?_)
    · skip
      refine lv_iconst (v := nI 0) hx hb dX0_awaitsAnswer_23 (by decide) ?_
      exact xr_zret (v := nI 0) hx hb hr hlocks (by first | rfl | exact bI_nar _) (bI_0 (by first | (rw [decide_eq_false h_7]; rfl) | (rw [decide_eq_false h_16, Bool.and_false]))) dX0_awaitsAnswer_24
    · skip
      refine lv_iconst (v := nI 1) hx hb dX0_awaitsAnswer_19 (by decide) ?_
      refine lv_goto (tgt := 24) hx hb dX0_awaitsAnswer_20 (by decide) ?_
      exact xr_zret (v := nI 1) hx hb hr hlocks (by first | rfl | exact bI_nar _) (bI_1 (by rw [decide_eq_true h_7, decide_eq_true h_16]; rfl)) dX0_awaitsAnswer_24
set_option maxHeartbeats 4000000 in
set_option maxRecDepth 100000 in
theorem r_X0_canBeLifted (l : Launch) (D : va_G) (a : Nat → Nat) (cI cZ : ClassId) (S : KS) (hO : kOk S) (c : Nat) (hc : c < kN S) (t : Int32) : xRO l yX0_canBeLifted cX0_canBeLifted 3 (some .boolean) (xrm 0 0) [.ref (a 0), .int (nI c), .int (t)] D (wK a cI cZ S) (tyL cI cZ) (bI (!decide (kKd S c = nI 4) && !decide (kEn S c ≤ t))) := by
  refine xRO.of (by decide) (Nat.le_of_ble_eq_true rfl) ?_
  intro p e s m args below meth cd hx hb hr hml hown hlocks ht hN hP hK ls hl
  have hl : lv_has ls 3 [(0, .ref (a 0)), (1, .int (nI c)), (2, .int (t))] := hl
  have hown : s.vm.findClass RX0 = some m.cls := hown
  have hn := hO.1
  refine lv_aload_n hx hb dX0_canBeLifted_0 rfl (lv_at hl 0 rfl) ?_
  refine va_get (D := D) (ci := 0) (v := .ref (a 1)) (C := RX0) (T := TX0) (N := 10) hx hb ht inX0 hown hK hP 0 rfl rfl 0 (by decide) (ht _ wd48) (fun _ h9 => h9) rfl dX0_canBeLifted_1 ?_
  refine lv_iload_n hx hb dX0_canBeLifted_4 rfl (lv_at hl 1 rfl) ?_
  refine xa_iald hx hb hK hP 1 0 (i := c) rfl rfl (by omega) (by decide) dX0_canBeLifted_5 ?_
  refine lv_iconst (v := nI 4) hx hb dX0_canBeLifted_6 (by decide) ?_
  refine lv_icmp_eq (tgt := 24) hx hb dX0_canBeLifted_7 (by decide) (fun h_7 => ?_) (fun h_7 => ?_)
  · skip
    refine lv_iconst (v := nI 0) hx hb dX0_canBeLifted_24 (by decide) ?_
    exact xr_zret (v := nI 0) hx hb hr hlocks (by first | rfl | exact bI_nar _) (bI_0 (by first | (rw [decide_eq_true h_7]; rfl) | (rw [decide_eq_true h_17, Bool.not_true, Bool.and_false]))) dX0_canBeLifted_25
  · skip
    refine lv_aload_n hx hb dX0_canBeLifted_10 rfl (lv_at hl 0 rfl) ?_
    refine va_get (D := D) (ci := 0) (v := .ref (a 5)) (C := RX0) (T := TX0) (N := 10) hx hb ht inX0 hown hK hP 0 rfl rfl 4 (by decide) (ht _ wd52) (fun _ h9 => h9) rfl dX0_canBeLifted_11 ?_
    refine lv_iload_n hx hb dX0_canBeLifted_14 rfl (lv_at hl 1 rfl) ?_
    refine xa_iald hx hb hK hP 5 0 (i := c) rfl rfl (by omega) (by decide) dX0_canBeLifted_15 ?_
    refine lv_iload_n hx hb dX0_canBeLifted_16 rfl (lv_at hl 2 rfl) ?_
    refine lv_icmp_le (tgt := 24) hx hb dX0_canBeLifted_17 (by decide) (fun h_17 => ?_) (fun h_17 => ?_)
    · skip
      refine lv_iconst (v := nI 0) hx hb dX0_canBeLifted_24 (by decide) ?_
      exact xr_zret (v := nI 0) hx hb hr hlocks (by first | rfl | exact bI_nar _) (bI_0 (by first | (rw [decide_eq_true h_7]; rfl) | (rw [decide_eq_true h_17, Bool.not_true, Bool.and_false]))) dX0_canBeLifted_25
    · skip
      refine lv_iconst (v := nI 1) hx hb dX0_canBeLifted_20 (by decide) ?_
      refine lv_goto (tgt := 25) hx hb dX0_canBeLifted_21 (by decide) ?_
      exact xr_zret (v := nI 1) hx hb hr hlocks (by first | rfl | exact bI_nar _) (bI_1 (by rw [decide_eq_false h_7, decide_eq_false h_17]; rfl)) dX0_canBeLifted_25
set_option maxHeartbeats 4000000 in
set_option maxRecDepth 100000 in
theorem r_X0_add (l : Launch) (D : va_G) (a : Nat → Nat) (cI cZ : ClassId) (S : KS) (hO : kOk S) (hc : kN S < 100) (k pi si f t x : Int32) : xWR l yX0_add cX0_add 8 (some .int) (xrm 0 0) [.ref (a 0), .int (k), .int (pi), .int (si), .int (f), .int (t), .int (x)] D (wK a cI cZ S) (tyL cI cZ) (some (.int (nI (kN S)))) (wK a cI cZ (addK S k pi si f t x)) := by
  refine xWR.of (by decide) (Nat.le_of_ble_eq_true rfl) ?_
  intro p e s m args below meth cd hx hb hr hml hown hlocks ht hN hP hK hD hS ls hl
  have hl : lv_has ls 8 [(0, .ref (a 0)), (1, .int (k)), (2, .int (pi)), (3, .int (si)), (4, .int (f)), (5, .int (t)), (6, .int (x))] := hl
  have hown : s.vm.findClass RX0 = some m.cls := hown
  refine lv_aload_n hx hb dX0_add_0 rfl (lv_at hl 0 rfl) ?_
  refine va_get (D := D) (ci := 0) (v := .int (nI (kN S))) (C := RX0) (T := TX0) (N := 10) hx hb ht inX0 hown hK hP 0 rfl rfl 9 (by decide) (ht _ wd57) (fun _ h9 => h9) rfl dX0_add_1 ?_
  refine lv_istore (lv' := [(7, .int (nI (kN S))), (0, .ref (a 0)), (1, .int (k)), (2, .int (pi)), (3, .int (si)), (4, .int (f)), (5, .int (t)), (6, .int (x))]) hx hb dX0_add_4 hl (by decide) rfl (fun ls hl => ?_)
  refine lv_aload_n hx hb dX0_add_6 rfl (lv_at hl 1 rfl) ?_
  refine va_get (D := D) (ci := 0) (v := .ref (a 1)) (C := RX0) (T := TX0) (N := 10) hx hb ht inX0 hown hK hP 0 rfl rfl 0 (by decide) (ht _ wd48) (fun _ h9 => h9) rfl dX0_add_7 ?_
  refine lv_iload hx hb dX0_add_10 (lv_at hl 0 rfl) ?_
  refine lv_iload_n hx hb dX0_add_12 rfl (lv_at hl 2 rfl) ?_
  refine xa_iast hx hb hK hP hD hS 1 0 (i := (kN S)) (x := k) rfl rfl (by omega) (by decide) dX0_add_13 (fun H locs hP hD hS => ?_)
  have hP : va_P D vwCl [(a 0, .inr (0, [.ref (a 1), .ref (a 2), .ref (a 3), .ref (a 4), .ref (a 5), .ref (a 6), .ref (a 7), .ref (a 8), .ref (a 9), .int (nI (kN S))])), (a 1, .inl (cI, 100, .inl (upd (kKd S) (kN S) k))), (a 2, .inl (cI, 100, .inl (kPc S))), (a 3, .inl (cI, 100, .inl (kSd S))), (a 4, .inl (cI, 100, .inl (kSt S))), (a 5, .inl (cI, 100, .inl (kEn S))), (a 6, .inl (cI, 100, .inl (kXs S))), (a 7, .inl (cI, 100, .inl (kAn S))), (a 8, .inl (cI, 100, .inl (kWd S))), (a 9, .inl (cZ, 20, .inl (kIc S)))] H := hP
  have hD : va_D (xA (wK a cI cZ S)) [(a 0, .inr (0, [.ref (a 1), .ref (a 2), .ref (a 3), .ref (a 4), .ref (a 5), .ref (a 6), .ref (a 7), .ref (a 8), .ref (a 9), .int (nI (kN S))])), (a 1, .inl (cI, 100, .inl (upd (kKd S) (kN S) k))), (a 2, .inl (cI, 100, .inl (kPc S))), (a 3, .inl (cI, 100, .inl (kSd S))), (a 4, .inl (cI, 100, .inl (kSt S))), (a 5, .inl (cI, 100, .inl (kEn S))), (a 6, .inl (cI, 100, .inl (kXs S))), (a 7, .inl (cI, 100, .inl (kAn S))), (a 8, .inl (cI, 100, .inl (kWd S))), (a 9, .inl (cZ, 20, .inl (kIc S)))] := hD
  refine lv_aload_n hx hb dX0_add_14 rfl (lv_at hl 1 rfl) ?_
  refine va_get (D := D) (ci := 0) (v := .ref (a 2)) (C := RX0) (T := TX0) (N := 10) hx hb ht inX0 hown hK hP 0 rfl rfl 1 (by decide) (ht _ wd49) (fun _ h9 => h9) rfl dX0_add_15 ?_
  refine lv_iload hx hb dX0_add_18 (lv_at hl 0 rfl) ?_
  refine lv_iload_n hx hb dX0_add_20 rfl (lv_at hl 3 rfl) ?_
  refine xa_iast hx hb hK hP hD hS 2 0 (i := (kN S)) (x := pi) rfl rfl (by omega) (by decide) dX0_add_21 (fun H locs hP hD hS => ?_)
  have hP : va_P D vwCl [(a 0, .inr (0, [.ref (a 1), .ref (a 2), .ref (a 3), .ref (a 4), .ref (a 5), .ref (a 6), .ref (a 7), .ref (a 8), .ref (a 9), .int (nI (kN S))])), (a 1, .inl (cI, 100, .inl (upd (kKd S) (kN S) k))), (a 2, .inl (cI, 100, .inl (upd (kPc S) (kN S) pi))), (a 3, .inl (cI, 100, .inl (kSd S))), (a 4, .inl (cI, 100, .inl (kSt S))), (a 5, .inl (cI, 100, .inl (kEn S))), (a 6, .inl (cI, 100, .inl (kXs S))), (a 7, .inl (cI, 100, .inl (kAn S))), (a 8, .inl (cI, 100, .inl (kWd S))), (a 9, .inl (cZ, 20, .inl (kIc S)))] H := hP
  have hD : va_D (xA (wK a cI cZ S)) [(a 0, .inr (0, [.ref (a 1), .ref (a 2), .ref (a 3), .ref (a 4), .ref (a 5), .ref (a 6), .ref (a 7), .ref (a 8), .ref (a 9), .int (nI (kN S))])), (a 1, .inl (cI, 100, .inl (upd (kKd S) (kN S) k))), (a 2, .inl (cI, 100, .inl (upd (kPc S) (kN S) pi))), (a 3, .inl (cI, 100, .inl (kSd S))), (a 4, .inl (cI, 100, .inl (kSt S))), (a 5, .inl (cI, 100, .inl (kEn S))), (a 6, .inl (cI, 100, .inl (kXs S))), (a 7, .inl (cI, 100, .inl (kAn S))), (a 8, .inl (cI, 100, .inl (kWd S))), (a 9, .inl (cZ, 20, .inl (kIc S)))] := hD
  refine lv_aload_n hx hb dX0_add_22 rfl (lv_at hl 1 rfl) ?_
  refine va_get (D := D) (ci := 0) (v := .ref (a 3)) (C := RX0) (T := TX0) (N := 10) hx hb ht inX0 hown hK hP 0 rfl rfl 2 (by decide) (ht _ wd50) (fun _ h9 => h9) rfl dX0_add_23 ?_
  refine lv_iload hx hb dX0_add_26 (lv_at hl 0 rfl) ?_
  refine lv_iload_n hx hb dX0_add_28 rfl (lv_at hl 4 rfl) ?_
  refine xa_iast hx hb hK hP hD hS 3 0 (i := (kN S)) (x := si) rfl rfl (by omega) (by decide) dX0_add_29 (fun H locs hP hD hS => ?_)
  have hP : va_P D vwCl [(a 0, .inr (0, [.ref (a 1), .ref (a 2), .ref (a 3), .ref (a 4), .ref (a 5), .ref (a 6), .ref (a 7), .ref (a 8), .ref (a 9), .int (nI (kN S))])), (a 1, .inl (cI, 100, .inl (upd (kKd S) (kN S) k))), (a 2, .inl (cI, 100, .inl (upd (kPc S) (kN S) pi))), (a 3, .inl (cI, 100, .inl (upd (kSd S) (kN S) si))), (a 4, .inl (cI, 100, .inl (kSt S))), (a 5, .inl (cI, 100, .inl (kEn S))), (a 6, .inl (cI, 100, .inl (kXs S))), (a 7, .inl (cI, 100, .inl (kAn S))), (a 8, .inl (cI, 100, .inl (kWd S))), (a 9, .inl (cZ, 20, .inl (kIc S)))] H := hP
  have hD : va_D (xA (wK a cI cZ S)) [(a 0, .inr (0, [.ref (a 1), .ref (a 2), .ref (a 3), .ref (a 4), .ref (a 5), .ref (a 6), .ref (a 7), .ref (a 8), .ref (a 9), .int (nI (kN S))])), (a 1, .inl (cI, 100, .inl (upd (kKd S) (kN S) k))), (a 2, .inl (cI, 100, .inl (upd (kPc S) (kN S) pi))), (a 3, .inl (cI, 100, .inl (upd (kSd S) (kN S) si))), (a 4, .inl (cI, 100, .inl (kSt S))), (a 5, .inl (cI, 100, .inl (kEn S))), (a 6, .inl (cI, 100, .inl (kXs S))), (a 7, .inl (cI, 100, .inl (kAn S))), (a 8, .inl (cI, 100, .inl (kWd S))), (a 9, .inl (cZ, 20, .inl (kIc S)))] := hD
  refine lv_aload_n hx hb dX0_add_30 rfl (lv_at hl 1 rfl) ?_
  refine va_get (D := D) (ci := 0) (v := .ref (a 4)) (C := RX0) (T := TX0) (N := 10) hx hb ht inX0 hown hK hP 0 rfl rfl 3 (by decide) (ht _ wd51) (fun _ h9 => h9) rfl dX0_add_31 ?_
  refine lv_iload hx hb dX0_add_34 (lv_at hl 0 rfl) ?_
  refine lv_iload hx hb dX0_add_36 (lv_at hl 5 rfl) ?_
  refine xa_iast hx hb hK hP hD hS 4 0 (i := (kN S)) (x := f) rfl rfl (by omega) (by decide) dX0_add_38 (fun H locs hP hD hS => ?_)
  have hP : va_P D vwCl [(a 0, .inr (0, [.ref (a 1), .ref (a 2), .ref (a 3), .ref (a 4), .ref (a 5), .ref (a 6), .ref (a 7), .ref (a 8), .ref (a 9), .int (nI (kN S))])), (a 1, .inl (cI, 100, .inl (upd (kKd S) (kN S) k))), (a 2, .inl (cI, 100, .inl (upd (kPc S) (kN S) pi))), (a 3, .inl (cI, 100, .inl (upd (kSd S) (kN S) si))), (a 4, .inl (cI, 100, .inl (upd (kSt S) (kN S) f))), (a 5, .inl (cI, 100, .inl (kEn S))), (a 6, .inl (cI, 100, .inl (kXs S))), (a 7, .inl (cI, 100, .inl (kAn S))), (a 8, .inl (cI, 100, .inl (kWd S))), (a 9, .inl (cZ, 20, .inl (kIc S)))] H := hP
  have hD : va_D (xA (wK a cI cZ S)) [(a 0, .inr (0, [.ref (a 1), .ref (a 2), .ref (a 3), .ref (a 4), .ref (a 5), .ref (a 6), .ref (a 7), .ref (a 8), .ref (a 9), .int (nI (kN S))])), (a 1, .inl (cI, 100, .inl (upd (kKd S) (kN S) k))), (a 2, .inl (cI, 100, .inl (upd (kPc S) (kN S) pi))), (a 3, .inl (cI, 100, .inl (upd (kSd S) (kN S) si))), (a 4, .inl (cI, 100, .inl (upd (kSt S) (kN S) f))), (a 5, .inl (cI, 100, .inl (kEn S))), (a 6, .inl (cI, 100, .inl (kXs S))), (a 7, .inl (cI, 100, .inl (kAn S))), (a 8, .inl (cI, 100, .inl (kWd S))), (a 9, .inl (cZ, 20, .inl (kIc S)))] := hD
  refine lv_aload_n hx hb dX0_add_39 rfl (lv_at hl 1 rfl) ?_
  refine va_get (D := D) (ci := 0) (v := .ref (a 5)) (C := RX0) (T := TX0) (N := 10) hx hb ht inX0 hown hK hP 0 rfl rfl 4 (by decide) (ht _ wd52) (fun _ h9 => h9) rfl dX0_add_40 ?_
  refine lv_iload hx hb dX0_add_43 (lv_at hl 0 rfl) ?_
  refine lv_iload hx hb dX0_add_45 (lv_at hl 6 rfl) ?_
  refine xa_iast hx hb hK hP hD hS 5 0 (i := (kN S)) (x := t) rfl rfl (by omega) (by decide) dX0_add_47 (fun H locs hP hD hS => ?_)
  have hP : va_P D vwCl [(a 0, .inr (0, [.ref (a 1), .ref (a 2), .ref (a 3), .ref (a 4), .ref (a 5), .ref (a 6), .ref (a 7), .ref (a 8), .ref (a 9), .int (nI (kN S))])), (a 1, .inl (cI, 100, .inl (upd (kKd S) (kN S) k))), (a 2, .inl (cI, 100, .inl (upd (kPc S) (kN S) pi))), (a 3, .inl (cI, 100, .inl (upd (kSd S) (kN S) si))), (a 4, .inl (cI, 100, .inl (upd (kSt S) (kN S) f))), (a 5, .inl (cI, 100, .inl (upd (kEn S) (kN S) t))), (a 6, .inl (cI, 100, .inl (kXs S))), (a 7, .inl (cI, 100, .inl (kAn S))), (a 8, .inl (cI, 100, .inl (kWd S))), (a 9, .inl (cZ, 20, .inl (kIc S)))] H := hP
  have hD : va_D (xA (wK a cI cZ S)) [(a 0, .inr (0, [.ref (a 1), .ref (a 2), .ref (a 3), .ref (a 4), .ref (a 5), .ref (a 6), .ref (a 7), .ref (a 8), .ref (a 9), .int (nI (kN S))])), (a 1, .inl (cI, 100, .inl (upd (kKd S) (kN S) k))), (a 2, .inl (cI, 100, .inl (upd (kPc S) (kN S) pi))), (a 3, .inl (cI, 100, .inl (upd (kSd S) (kN S) si))), (a 4, .inl (cI, 100, .inl (upd (kSt S) (kN S) f))), (a 5, .inl (cI, 100, .inl (upd (kEn S) (kN S) t))), (a 6, .inl (cI, 100, .inl (kXs S))), (a 7, .inl (cI, 100, .inl (kAn S))), (a 8, .inl (cI, 100, .inl (kWd S))), (a 9, .inl (cZ, 20, .inl (kIc S)))] := hD
  refine lv_aload_n hx hb dX0_add_48 rfl (lv_at hl 1 rfl) ?_
  refine va_get (D := D) (ci := 0) (v := .ref (a 6)) (C := RX0) (T := TX0) (N := 10) hx hb ht inX0 hown hK hP 0 rfl rfl 5 (by decide) (ht _ wd53) (fun _ h9 => h9) rfl dX0_add_49 ?_
  refine lv_iload hx hb dX0_add_52 (lv_at hl 0 rfl) ?_
  refine lv_iload hx hb dX0_add_54 (lv_at hl 7 rfl) ?_
  refine xa_iast hx hb hK hP hD hS 6 0 (i := (kN S)) (x := x) rfl rfl (by omega) (by decide) dX0_add_56 (fun H locs hP hD hS => ?_)
  have hP : va_P D vwCl [(a 0, .inr (0, [.ref (a 1), .ref (a 2), .ref (a 3), .ref (a 4), .ref (a 5), .ref (a 6), .ref (a 7), .ref (a 8), .ref (a 9), .int (nI (kN S))])), (a 1, .inl (cI, 100, .inl (upd (kKd S) (kN S) k))), (a 2, .inl (cI, 100, .inl (upd (kPc S) (kN S) pi))), (a 3, .inl (cI, 100, .inl (upd (kSd S) (kN S) si))), (a 4, .inl (cI, 100, .inl (upd (kSt S) (kN S) f))), (a 5, .inl (cI, 100, .inl (upd (kEn S) (kN S) t))), (a 6, .inl (cI, 100, .inl (upd (kXs S) (kN S) x))), (a 7, .inl (cI, 100, .inl (kAn S))), (a 8, .inl (cI, 100, .inl (kWd S))), (a 9, .inl (cZ, 20, .inl (kIc S)))] H := hP
  have hD : va_D (xA (wK a cI cZ S)) [(a 0, .inr (0, [.ref (a 1), .ref (a 2), .ref (a 3), .ref (a 4), .ref (a 5), .ref (a 6), .ref (a 7), .ref (a 8), .ref (a 9), .int (nI (kN S))])), (a 1, .inl (cI, 100, .inl (upd (kKd S) (kN S) k))), (a 2, .inl (cI, 100, .inl (upd (kPc S) (kN S) pi))), (a 3, .inl (cI, 100, .inl (upd (kSd S) (kN S) si))), (a 4, .inl (cI, 100, .inl (upd (kSt S) (kN S) f))), (a 5, .inl (cI, 100, .inl (upd (kEn S) (kN S) t))), (a 6, .inl (cI, 100, .inl (upd (kXs S) (kN S) x))), (a 7, .inl (cI, 100, .inl (kAn S))), (a 8, .inl (cI, 100, .inl (kWd S))), (a 9, .inl (cZ, 20, .inl (kIc S)))] := hD
  refine lv_aload_n hx hb dX0_add_57 rfl (lv_at hl 1 rfl) ?_
  refine va_get (D := D) (ci := 0) (v := .ref (a 7)) (C := RX0) (T := TX0) (N := 10) hx hb ht inX0 hown hK hP 0 rfl rfl 6 (by decide) (ht _ wd54) (fun _ h9 => h9) rfl dX0_add_58 ?_
  refine lv_iload hx hb dX0_add_61 (lv_at hl 0 rfl) ?_
  refine lv_iconst (v := nI 0) hx hb dX0_add_63 (by decide) ?_
  refine xa_iast hx hb hK hP hD hS 7 0 (i := (kN S)) (x := nI 0) rfl rfl (by omega) (by decide) dX0_add_64 (fun H locs hP hD hS => ?_)
  have hP : va_P D vwCl [(a 0, .inr (0, [.ref (a 1), .ref (a 2), .ref (a 3), .ref (a 4), .ref (a 5), .ref (a 6), .ref (a 7), .ref (a 8), .ref (a 9), .int (nI (kN S))])), (a 1, .inl (cI, 100, .inl (upd (kKd S) (kN S) k))), (a 2, .inl (cI, 100, .inl (upd (kPc S) (kN S) pi))), (a 3, .inl (cI, 100, .inl (upd (kSd S) (kN S) si))), (a 4, .inl (cI, 100, .inl (upd (kSt S) (kN S) f))), (a 5, .inl (cI, 100, .inl (upd (kEn S) (kN S) t))), (a 6, .inl (cI, 100, .inl (upd (kXs S) (kN S) x))), (a 7, .inl (cI, 100, .inl (upd (kAn S) (kN S) (nI 0)))), (a 8, .inl (cI, 100, .inl (kWd S))), (a 9, .inl (cZ, 20, .inl (kIc S)))] H := hP
  have hD : va_D (xA (wK a cI cZ S)) [(a 0, .inr (0, [.ref (a 1), .ref (a 2), .ref (a 3), .ref (a 4), .ref (a 5), .ref (a 6), .ref (a 7), .ref (a 8), .ref (a 9), .int (nI (kN S))])), (a 1, .inl (cI, 100, .inl (upd (kKd S) (kN S) k))), (a 2, .inl (cI, 100, .inl (upd (kPc S) (kN S) pi))), (a 3, .inl (cI, 100, .inl (upd (kSd S) (kN S) si))), (a 4, .inl (cI, 100, .inl (upd (kSt S) (kN S) f))), (a 5, .inl (cI, 100, .inl (upd (kEn S) (kN S) t))), (a 6, .inl (cI, 100, .inl (upd (kXs S) (kN S) x))), (a 7, .inl (cI, 100, .inl (upd (kAn S) (kN S) (nI 0)))), (a 8, .inl (cI, 100, .inl (kWd S))), (a 9, .inl (cZ, 20, .inl (kIc S)))] := hD
  refine lv_aload_n hx hb dX0_add_65 rfl (lv_at hl 1 rfl) ?_
  refine va_get (D := D) (ci := 0) (v := .ref (a 8)) (C := RX0) (T := TX0) (N := 10) hx hb ht inX0 hown hK hP 0 rfl rfl 7 (by decide) (ht _ wd55) (fun _ h9 => h9) rfl dX0_add_66 ?_
  refine lv_iload hx hb dX0_add_69 (lv_at hl 0 rfl) ?_
  refine lv_iconst (v := (-1 : Int32)) hx hb dX0_add_71 (by decide) ?_
  refine xa_iast hx hb hK hP hD hS 8 0 (i := (kN S)) (x := (-1 : Int32)) rfl rfl (by omega) (by decide) dX0_add_72 (fun H locs hP hD hS => ?_)
  have hP : va_P D vwCl [(a 0, .inr (0, [.ref (a 1), .ref (a 2), .ref (a 3), .ref (a 4), .ref (a 5), .ref (a 6), .ref (a 7), .ref (a 8), .ref (a 9), .int (nI (kN S))])), (a 1, .inl (cI, 100, .inl (upd (kKd S) (kN S) k))), (a 2, .inl (cI, 100, .inl (upd (kPc S) (kN S) pi))), (a 3, .inl (cI, 100, .inl (upd (kSd S) (kN S) si))), (a 4, .inl (cI, 100, .inl (upd (kSt S) (kN S) f))), (a 5, .inl (cI, 100, .inl (upd (kEn S) (kN S) t))), (a 6, .inl (cI, 100, .inl (upd (kXs S) (kN S) x))), (a 7, .inl (cI, 100, .inl (upd (kAn S) (kN S) (nI 0)))), (a 8, .inl (cI, 100, .inl (upd (kWd S) (kN S) (-1 : Int32)))), (a 9, .inl (cZ, 20, .inl (kIc S)))] H := hP
  have hD : va_D (xA (wK a cI cZ S)) [(a 0, .inr (0, [.ref (a 1), .ref (a 2), .ref (a 3), .ref (a 4), .ref (a 5), .ref (a 6), .ref (a 7), .ref (a 8), .ref (a 9), .int (nI (kN S))])), (a 1, .inl (cI, 100, .inl (upd (kKd S) (kN S) k))), (a 2, .inl (cI, 100, .inl (upd (kPc S) (kN S) pi))), (a 3, .inl (cI, 100, .inl (upd (kSd S) (kN S) si))), (a 4, .inl (cI, 100, .inl (upd (kSt S) (kN S) f))), (a 5, .inl (cI, 100, .inl (upd (kEn S) (kN S) t))), (a 6, .inl (cI, 100, .inl (upd (kXs S) (kN S) x))), (a 7, .inl (cI, 100, .inl (upd (kAn S) (kN S) (nI 0)))), (a 8, .inl (cI, 100, .inl (upd (kWd S) (kN S) (-1 : Int32)))), (a 9, .inl (cZ, 20, .inl (kIc S)))] := hD
  refine lv_aload_n hx hb dX0_add_73 rfl (lv_at hl 1 rfl) ?_
  refine lv_dup hx hb dX0_add_74 rfl ?_
  refine va_get (D := D) (ci := 0) (v := .int (nI (kN S))) (C := RX0) (T := TX0) (N := 10) hx hb ht inX0 hown hK hP 0 rfl rfl 9 (by decide) (ht _ wd57) (fun _ h9 => h9) rfl dX0_add_75 ?_
  refine lv_iconst (v := nI 1) hx hb dX0_add_78 (by decide) ?_
  refine lv_iadd hx hb dX0_add_79 ?_
  refine xtop (y := nI (kN S + 1)) (nI_add _ _) ?_
  refine va_put (D := D) (ci := 0) (v := .int (nI (kN S + 1))) (ty := .int) (C := RX0) (T := TX0) (N := 10) hx hb ht inX0 tyX0 tyX0_ok nmX0 hown hK hP hD hS 0 rfl rfl 9 (by decide) (ht _ wd57) (fun _ h9 => h9) rfl (by decide +kernel) rfl rfl (Nat.le_of_ble_eq_true rfl) dX0_add_80 (fun H locs hP hD hS => ?_)
  have hP : va_P D vwCl [(a 0, .inr (0, [.ref (a 1), .ref (a 2), .ref (a 3), .ref (a 4), .ref (a 5), .ref (a 6), .ref (a 7), .ref (a 8), .ref (a 9), .int (nI (kN S + 1))])), (a 1, .inl (cI, 100, .inl (upd (kKd S) (kN S) k))), (a 2, .inl (cI, 100, .inl (upd (kPc S) (kN S) pi))), (a 3, .inl (cI, 100, .inl (upd (kSd S) (kN S) si))), (a 4, .inl (cI, 100, .inl (upd (kSt S) (kN S) f))), (a 5, .inl (cI, 100, .inl (upd (kEn S) (kN S) t))), (a 6, .inl (cI, 100, .inl (upd (kXs S) (kN S) x))), (a 7, .inl (cI, 100, .inl (upd (kAn S) (kN S) (nI 0)))), (a 8, .inl (cI, 100, .inl (upd (kWd S) (kN S) (-1 : Int32)))), (a 9, .inl (cZ, 20, .inl (kIc S)))] H := hP
  have hD : va_D (xA (wK a cI cZ S)) [(a 0, .inr (0, [.ref (a 1), .ref (a 2), .ref (a 3), .ref (a 4), .ref (a 5), .ref (a 6), .ref (a 7), .ref (a 8), .ref (a 9), .int (nI (kN S + 1))])), (a 1, .inl (cI, 100, .inl (upd (kKd S) (kN S) k))), (a 2, .inl (cI, 100, .inl (upd (kPc S) (kN S) pi))), (a 3, .inl (cI, 100, .inl (upd (kSd S) (kN S) si))), (a 4, .inl (cI, 100, .inl (upd (kSt S) (kN S) f))), (a 5, .inl (cI, 100, .inl (upd (kEn S) (kN S) t))), (a 6, .inl (cI, 100, .inl (upd (kXs S) (kN S) x))), (a 7, .inl (cI, 100, .inl (upd (kAn S) (kN S) (nI 0)))), (a 8, .inl (cI, 100, .inl (upd (kWd S) (kN S) (-1 : Int32)))), (a 9, .inl (cZ, 20, .inl (kIc S)))] := hD
  refine lv_iload hx hb dX0_add_83 (lv_at hl 0 rfl) ?_
  exact xw_iret (v := nI (kN S)) hx hb hr hlocks hS hP (rfl) dX0_add_85
set_option maxHeartbeats 4000000 in
set_option maxRecDepth 100000 in
theorem r_X0_setAnswer (l : Launch) (D : va_G) (a : Nat → Nat) (cI cZ : ClassId) (S : KS) (hO : kOk S) (c : Nat) (hc : c < kN S) (b : Bool) : xWR l yX0_setAnswer cX0_setAnswer 3 none (xrm 0 0) [.ref (a 0), .int (nI c), .int (bI b)] D (wK a cI cZ S) (tyL cI cZ) none (wK a cI cZ (ansK S c (if b then nI 1 else nI 2))) := by
  refine xWR.of (by decide) (Nat.le_of_ble_eq_true rfl) ?_
  intro p e s m args below meth cd hx hb hr hml hown hlocks ht hN hP hK hD hS ls hl
  have hl : lv_has ls 3 [(0, .ref (a 0)), (1, .int (nI c)), (2, .int (bI b))] := hl
  have hown : s.vm.findClass RX0 = some m.cls := hown
  have hn := hO.1
  refine lv_aload_n hx hb dX0_setAnswer_0 rfl (lv_at hl 0 rfl) ?_
  refine va_get (D := D) (ci := 0) (v := .ref (a 7)) (C := RX0) (T := TX0) (N := 10) hx hb ht inX0 hown hK hP 0 rfl rfl 6 (by decide) (ht _ wd54) (fun _ h9 => h9) rfl dX0_setAnswer_1 ?_
  refine lv_iload_n hx hb dX0_setAnswer_4 rfl (lv_at hl 1 rfl) ?_
  refine lv_iload_n hx hb dX0_setAnswer_5 rfl (lv_at hl 2 rfl) ?_
  refine lv_if_eq (tgt := 13) hx hb dX0_setAnswer_6 (by decide) (fun h_6 => ?_) (fun h_6 => ?_)
  · skip
    refine lv_iconst (v := nI 2) hx hb dX0_setAnswer_13 (by decide) ?_
    refine xa_iast hx hb hK hP hD hS 7 0 (i := c) (x := nI 2) rfl rfl (by omega) (by decide) dX0_setAnswer_14 (fun H locs hP hD hS => ?_)
    have hP : va_P D vwCl [(a 0, .inr (0, [.ref (a 1), .ref (a 2), .ref (a 3), .ref (a 4), .ref (a 5), .ref (a 6), .ref (a 7), .ref (a 8), .ref (a 9), .int (nI (kN S))])), (a 1, .inl (cI, 100, .inl (kKd S))), (a 2, .inl (cI, 100, .inl (kPc S))), (a 3, .inl (cI, 100, .inl (kSd S))), (a 4, .inl (cI, 100, .inl (kSt S))), (a 5, .inl (cI, 100, .inl (kEn S))), (a 6, .inl (cI, 100, .inl (kXs S))), (a 7, .inl (cI, 100, .inl (upd (kAn S) c (nI 2)))), (a 8, .inl (cI, 100, .inl (kWd S))), (a 9, .inl (cZ, 20, .inl (kIc S)))] H := hP
    have hD : va_D (xA (wK a cI cZ S)) [(a 0, .inr (0, [.ref (a 1), .ref (a 2), .ref (a 3), .ref (a 4), .ref (a 5), .ref (a 6), .ref (a 7), .ref (a 8), .ref (a 9), .int (nI (kN S))])), (a 1, .inl (cI, 100, .inl (kKd S))), (a 2, .inl (cI, 100, .inl (kPc S))), (a 3, .inl (cI, 100, .inl (kSd S))), (a 4, .inl (cI, 100, .inl (kSt S))), (a 5, .inl (cI, 100, .inl (kEn S))), (a 6, .inl (cI, 100, .inl (kXs S))), (a 7, .inl (cI, 100, .inl (upd (kAn S) c (nI 2)))), (a 8, .inl (cI, 100, .inl (kWd S))), (a 9, .inl (cZ, 20, .inl (kIc S)))] := hD
    exact xw_vret hx hb hr hlocks hS (by first | (rw [bI_t h_6]; exact hP) | (rw [bI_f h_6]; exact hP)) dX0_setAnswer_15
  · skip
    refine lv_iconst (v := nI 1) hx hb dX0_setAnswer_9 (by decide) ?_
    refine lv_goto (tgt := 14) hx hb dX0_setAnswer_10 (by decide) ?_
    refine xa_iast hx hb hK hP hD hS 7 0 (i := c) (x := nI 1) rfl rfl (by omega) (by decide) dX0_setAnswer_14 (fun H locs hP hD hS => ?_)
    have hP : va_P D vwCl [(a 0, .inr (0, [.ref (a 1), .ref (a 2), .ref (a 3), .ref (a 4), .ref (a 5), .ref (a 6), .ref (a 7), .ref (a 8), .ref (a 9), .int (nI (kN S))])), (a 1, .inl (cI, 100, .inl (kKd S))), (a 2, .inl (cI, 100, .inl (kPc S))), (a 3, .inl (cI, 100, .inl (kSd S))), (a 4, .inl (cI, 100, .inl (kSt S))), (a 5, .inl (cI, 100, .inl (kEn S))), (a 6, .inl (cI, 100, .inl (kXs S))), (a 7, .inl (cI, 100, .inl (upd (kAn S) c (nI 1)))), (a 8, .inl (cI, 100, .inl (kWd S))), (a 9, .inl (cZ, 20, .inl (kIc S)))] H := hP
    have hD : va_D (xA (wK a cI cZ S)) [(a 0, .inr (0, [.ref (a 1), .ref (a 2), .ref (a 3), .ref (a 4), .ref (a 5), .ref (a 6), .ref (a 7), .ref (a 8), .ref (a 9), .int (nI (kN S))])), (a 1, .inl (cI, 100, .inl (kKd S))), (a 2, .inl (cI, 100, .inl (kPc S))), (a 3, .inl (cI, 100, .inl (kSd S))), (a 4, .inl (cI, 100, .inl (kSt S))), (a 5, .inl (cI, 100, .inl (kEn S))), (a 6, .inl (cI, 100, .inl (kXs S))), (a 7, .inl (cI, 100, .inl (upd (kAn S) c (nI 1)))), (a 8, .inl (cI, 100, .inl (kWd S))), (a 9, .inl (cZ, 20, .inl (kIc S)))] := hD
    exact xw_vret hx hb hr hlocks hS (by first | (rw [bI_t h_6]; exact hP) | (rw [bI_f h_6]; exact hP)) dX0_setAnswer_15
set_option maxHeartbeats 4000000 in
set_option maxRecDepth 100000 in
theorem r_X0_setIncident (l : Launch) (D : va_G) (a : Nat → Nat) (cI cZ : ClassId) (S : KS) (hO : kOk S) (i : Nat) (hi : i < 20) (b : Bool) : xWR l yX0_setIncident cX0_setIncident 3 none (xrm 0 0) [.ref (a 0), .int (nI i), .int (bI b)] D (wK a cI cZ S) (tyL cI cZ) none (wK a cI cZ (incK S i (bI b))) := by
  refine xWR.of (by decide) (Nat.le_of_ble_eq_true rfl) ?_
  intro p e s m args below meth cd hx hb hr hml hown hlocks ht hN hP hK hD hS ls hl
  have hl : lv_has ls 3 [(0, .ref (a 0)), (1, .int (nI i)), (2, .int (bI b))] := hl
  have hown : s.vm.findClass RX0 = some m.cls := hown
  have hn := hO.1
  refine lv_aload_n hx hb dX0_setIncident_0 rfl (lv_at hl 0 rfl) ?_
  refine va_get (D := D) (ci := 0) (v := .ref (a 9)) (C := RX0) (T := TX0) (N := 10) hx hb ht inX0 hown hK hP 0 rfl rfl 8 (by decide) (ht _ wd56) (fun _ h9 => h9) rfl dX0_setIncident_1 ?_
  refine lv_iload_n hx hb dX0_setIncident_4 rfl (lv_at hl 1 rfl) ?_
  refine lv_iload_n hx hb dX0_setIncident_5 rfl (lv_at hl 2 rfl) ?_
  refine xa_zast hx hb hK hP hD hS 9 1 (i := i) (x := bI b) rfl rfl (by omega) (by decide) (by first | rfl | exact bI_vp _) dX0_setIncident_6 (fun H locs hP hD hS => ?_)
  have hP : va_P D vwCl [(a 0, .inr (0, [.ref (a 1), .ref (a 2), .ref (a 3), .ref (a 4), .ref (a 5), .ref (a 6), .ref (a 7), .ref (a 8), .ref (a 9), .int (nI (kN S))])), (a 1, .inl (cI, 100, .inl (kKd S))), (a 2, .inl (cI, 100, .inl (kPc S))), (a 3, .inl (cI, 100, .inl (kSd S))), (a 4, .inl (cI, 100, .inl (kSt S))), (a 5, .inl (cI, 100, .inl (kEn S))), (a 6, .inl (cI, 100, .inl (kXs S))), (a 7, .inl (cI, 100, .inl (kAn S))), (a 8, .inl (cI, 100, .inl (kWd S))), (a 9, .inl (cZ, 20, .inl (upd (kIc S) i (bI b))))] H := hP
  have hD : va_D (xA (wK a cI cZ S)) [(a 0, .inr (0, [.ref (a 1), .ref (a 2), .ref (a 3), .ref (a 4), .ref (a 5), .ref (a 6), .ref (a 7), .ref (a 8), .ref (a 9), .int (nI (kN S))])), (a 1, .inl (cI, 100, .inl (kKd S))), (a 2, .inl (cI, 100, .inl (kPc S))), (a 3, .inl (cI, 100, .inl (kSd S))), (a 4, .inl (cI, 100, .inl (kSt S))), (a 5, .inl (cI, 100, .inl (kEn S))), (a 6, .inl (cI, 100, .inl (kXs S))), (a 7, .inl (cI, 100, .inl (kAn S))), (a 8, .inl (cI, 100, .inl (kWd S))), (a 9, .inl (cZ, 20, .inl (upd (kIc S) i (bI b))))] := hD
  exact xw_vret hx hb hr hlocks hS hP dX0_setIncident_7
set_option maxHeartbeats 4000000 in
set_option maxRecDepth 100000 in
theorem r_X0_endAt (l : Launch) (D : va_G) (a : Nat → Nat) (cI cZ : ClassId) (S : KS) (hO : kOk S) (c : Nat) (hc : c < kN S) (t : Int32) : xWR l yX0_endAt cX0_endAt 3 none (xrm 0 0) [.ref (a 0), .int (nI c), .int (t)] D (wK a cI cZ S) (tyL cI cZ) none (wK a cI cZ (endK S c t)) := by
  refine xWR.of (by decide) (Nat.le_of_ble_eq_true rfl) ?_
  intro p e s m args below meth cd hx hb hr hml hown hlocks ht hN hP hK hD hS ls hl
  have hl : lv_has ls 3 [(0, .ref (a 0)), (1, .int (nI c)), (2, .int (t))] := hl
  have hown : s.vm.findClass RX0 = some m.cls := hown
  have hn := hO.1
  refine lv_aload_n hx hb dX0_endAt_0 rfl (lv_at hl 0 rfl) ?_
  refine va_get (D := D) (ci := 0) (v := .ref (a 5)) (C := RX0) (T := TX0) (N := 10) hx hb ht inX0 hown hK hP 0 rfl rfl 4 (by decide) (ht _ wd52) (fun _ h9 => h9) rfl dX0_endAt_1 ?_
  refine lv_iload_n hx hb dX0_endAt_4 rfl (lv_at hl 1 rfl) ?_
  refine lv_iload_n hx hb dX0_endAt_5 rfl (lv_at hl 2 rfl) ?_
  refine xa_iast hx hb hK hP hD hS 5 0 (i := c) (x := t) rfl rfl (by omega) (by decide) dX0_endAt_6 (fun H locs hP hD hS => ?_)
  have hP : va_P D vwCl [(a 0, .inr (0, [.ref (a 1), .ref (a 2), .ref (a 3), .ref (a 4), .ref (a 5), .ref (a 6), .ref (a 7), .ref (a 8), .ref (a 9), .int (nI (kN S))])), (a 1, .inl (cI, 100, .inl (kKd S))), (a 2, .inl (cI, 100, .inl (kPc S))), (a 3, .inl (cI, 100, .inl (kSd S))), (a 4, .inl (cI, 100, .inl (kSt S))), (a 5, .inl (cI, 100, .inl (upd (kEn S) c t))), (a 6, .inl (cI, 100, .inl (kXs S))), (a 7, .inl (cI, 100, .inl (kAn S))), (a 8, .inl (cI, 100, .inl (kWd S))), (a 9, .inl (cZ, 20, .inl (kIc S)))] H := hP
  have hD : va_D (xA (wK a cI cZ S)) [(a 0, .inr (0, [.ref (a 1), .ref (a 2), .ref (a 3), .ref (a 4), .ref (a 5), .ref (a 6), .ref (a 7), .ref (a 8), .ref (a 9), .int (nI (kN S))])), (a 1, .inl (cI, 100, .inl (kKd S))), (a 2, .inl (cI, 100, .inl (kPc S))), (a 3, .inl (cI, 100, .inl (kSd S))), (a 4, .inl (cI, 100, .inl (kSt S))), (a 5, .inl (cI, 100, .inl (upd (kEn S) c t))), (a 6, .inl (cI, 100, .inl (kXs S))), (a 7, .inl (cI, 100, .inl (kAn S))), (a 8, .inl (cI, 100, .inl (kWd S))), (a 9, .inl (cZ, 20, .inl (kIc S)))] := hD
  exact xw_vret hx hb hr hlocks hS hP dX0_endAt_7
set_option maxHeartbeats 4000000 in
set_option maxRecDepth 100000 in
theorem r_X0_giveWord (l : Launch) (D : va_G) (a : Nat → Nat) (cI cZ : ClassId) (S : KS) (hO : kOk S) (c : Nat) (hc : c < kN S) (v : Int32) : xWR l yX0_giveWord cX0_giveWord 3 (some .boolean) (xrm 0 0) [.ref (a 0), .int (nI c), .int (v)] D (wK a cI cZ S) (tyL cI cZ) (some (.int (bI (gaveK S c v)))) (wK a cI cZ (giveK S c v)) := by
  refine xWR.of (by decide) (Nat.le_of_ble_eq_true rfl) ?_
  intro p e s m args below meth cd hx hb hr hml hown hlocks ht hN hP hK hD hS ls hl
  have hl : lv_has ls 3 [(0, .ref (a 0)), (1, .int (nI c)), (2, .int (v))] := hl
  have hown : s.vm.findClass RX0 = some m.cls := hown
  have hn := hO.1
  refine lv_aload_n hx hb dX0_giveWord_0 rfl (lv_at hl 0 rfl) ?_
  refine va_get (D := D) (ci := 0) (v := .ref (a 1)) (C := RX0) (T := TX0) (N := 10) hx hb ht inX0 hown hK hP 0 rfl rfl 0 (by decide) (ht _ wd48) (fun _ h9 => h9) rfl dX0_giveWord_1 ?_
  refine lv_iload_n hx hb dX0_giveWord_4 rfl (lv_at hl 1 rfl) ?_
  refine xa_iald hx hb hK hP 1 0 (i := c) rfl rfl (by omega) (by decide) dX0_giveWord_5 ?_
  refine lv_iconst (v := nI 3) hx hb dX0_giveWord_6 (by decide) ?_
  refine lv_icmp_eq (tgt := 12) hx hb dX0_giveWord_7 (by decide) (fun h_7 => ?_) (fun h_7 => ?_)
  · skip
    refine lv_aload_n hx hb dX0_giveWord_12 rfl (lv_at hl 0 rfl) ?_
    refine va_get (D := D) (ci := 0) (v := .ref (a 8)) (C := RX0) (T := TX0) (N := 10) hx hb ht inX0 hown hK hP 0 rfl rfl 7 (by decide) (ht _ wd55) (fun _ h9 => h9) rfl dX0_giveWord_13 ?_
    refine lv_iload_n hx hb dX0_giveWord_16 rfl (lv_at hl 1 rfl) ?_
    refine xa_iald hx hb hK hP 8 0 (i := c) rfl rfl (by omega) (by decide) dX0_giveWord_17 ?_
    refine lv_iconst (v := (-1 : Int32)) hx hb dX0_giveWord_18 (by decide) ?_
    refine lv_icmp_ne (tgt := 29) hx hb dX0_giveWord_19 (by decide) (fun h_19 => ?_) (fun h_19 => ?_)
    · skip
      refine lv_aload_n hx hb dX0_giveWord_29 rfl (lv_at hl 0 rfl) ?_
      refine va_get (D := D) (ci := 0) (v := .ref (a 8)) (C := RX0) (T := TX0) (N := 10) hx hb ht inX0 hown hK hP 0 rfl rfl 7 (by decide) (ht _ wd55) (fun _ h9 => h9) rfl dX0_giveWord_30 ?_
      refine lv_iload_n hx hb dX0_giveWord_33 rfl (lv_at hl 1 rfl) ?_
      refine xa_iald hx hb hK hP 8 0 (i := c) rfl rfl (by omega) (by decide) dX0_giveWord_34 ?_
      refine lv_iload_n hx hb dX0_giveWord_35 rfl (lv_at hl 2 rfl) ?_
      refine lv_icmp_eq (tgt := 43) hx hb dX0_giveWord_36 (by decide) (fun h_36 => ?_) (fun h_36 => ?_)
      · skip
        refine lv_iconst (v := nI 0) hx hb dX0_giveWord_43 (by decide) ?_
        exact xw_zret (v := nI 0) hx hb hr hlocks (by first | rfl | exact bI_nar _) hS (by rw [giveK]; first | (rw [if_pos ⟨h_7, h_19⟩]; exact hP) | (rw [if_neg (fun z => h_19 z.2)]; exact hP)) (bI_0 (by rw [gaveK, giveK, decide_eq_true h_7]; first | (rw [if_pos ⟨h_7, h_19⟩, decide_eq_true (show kWd (wrdK S c v) c = v from h_36)]; rfl) | (rw [if_neg (fun z => h_19 z.2), decide_eq_true h_36]; rfl))) dX0_giveWord_44
      · skip
        refine lv_iconst (v := nI 1) hx hb dX0_giveWord_39 (by decide) ?_
        refine lv_goto (tgt := 44) hx hb dX0_giveWord_40 (by decide) ?_
        exact xw_zret (v := nI 1) hx hb hr hlocks (by first | rfl | exact bI_nar _) hS (by rw [giveK]; first | (rw [if_pos ⟨h_7, h_19⟩]; exact hP) | (rw [if_neg (fun z => h_19 z.2)]; exact hP)) (bI_1 (by rw [gaveK, giveK]; first | (rw [if_pos ⟨h_7, h_19⟩, decide_eq_false (show ¬ kWd (wrdK S c v) c = v from h_36), Bool.not_false, Bool.or_true]; done) | (rw [if_neg (fun z => h_19 z.2), decide_eq_false h_36, Bool.not_false, Bool.or_true]; done))) dX0_giveWord_44
    · skip
      refine lv_aload_n hx hb dX0_giveWord_22 rfl (lv_at hl 0 rfl) ?_
      refine va_get (D := D) (ci := 0) (v := .ref (a 8)) (C := RX0) (T := TX0) (N := 10) hx hb ht inX0 hown hK hP 0 rfl rfl 7 (by decide) (ht _ wd55) (fun _ h9 => h9) rfl dX0_giveWord_23 ?_
      refine lv_iload_n hx hb dX0_giveWord_26 rfl (lv_at hl 1 rfl) ?_
      refine lv_iload_n hx hb dX0_giveWord_27 rfl (lv_at hl 2 rfl) ?_
      refine xa_iast hx hb hK hP hD hS 8 0 (i := c) (x := v) rfl rfl (by omega) (by decide) dX0_giveWord_28 (fun H locs hP hD hS => ?_)
      have hP : va_P D vwCl [(a 0, .inr (0, [.ref (a 1), .ref (a 2), .ref (a 3), .ref (a 4), .ref (a 5), .ref (a 6), .ref (a 7), .ref (a 8), .ref (a 9), .int (nI (kN S))])), (a 1, .inl (cI, 100, .inl (kKd S))), (a 2, .inl (cI, 100, .inl (kPc S))), (a 3, .inl (cI, 100, .inl (kSd S))), (a 4, .inl (cI, 100, .inl (kSt S))), (a 5, .inl (cI, 100, .inl (kEn S))), (a 6, .inl (cI, 100, .inl (kXs S))), (a 7, .inl (cI, 100, .inl (kAn S))), (a 8, .inl (cI, 100, .inl (upd (kWd S) c v))), (a 9, .inl (cZ, 20, .inl (kIc S)))] H := hP
      have hD : va_D (xA (wK a cI cZ S)) [(a 0, .inr (0, [.ref (a 1), .ref (a 2), .ref (a 3), .ref (a 4), .ref (a 5), .ref (a 6), .ref (a 7), .ref (a 8), .ref (a 9), .int (nI (kN S))])), (a 1, .inl (cI, 100, .inl (kKd S))), (a 2, .inl (cI, 100, .inl (kPc S))), (a 3, .inl (cI, 100, .inl (kSd S))), (a 4, .inl (cI, 100, .inl (kSt S))), (a 5, .inl (cI, 100, .inl (kEn S))), (a 6, .inl (cI, 100, .inl (kXs S))), (a 7, .inl (cI, 100, .inl (kAn S))), (a 8, .inl (cI, 100, .inl (upd (kWd S) c v))), (a 9, .inl (cZ, 20, .inl (kIc S)))] := hD
      refine lv_aload_n hx hb dX0_giveWord_29 rfl (lv_at hl 0 rfl) ?_
      refine va_get (D := D) (ci := 0) (v := .ref (a 8)) (C := RX0) (T := TX0) (N := 10) hx hb ht inX0 hown hK hP 0 rfl rfl 7 (by decide) (ht _ wd55) (fun _ h9 => h9) rfl dX0_giveWord_30 ?_
      refine lv_iload_n hx hb dX0_giveWord_33 rfl (lv_at hl 1 rfl) ?_
      refine xa_iald hx hb hK hP 8 0 (i := c) rfl rfl (by omega) (by decide) dX0_giveWord_34 ?_
      refine lv_iload_n hx hb dX0_giveWord_35 rfl (lv_at hl 2 rfl) ?_
      refine lv_icmp_eq (tgt := 43) hx hb dX0_giveWord_36 (by decide) (fun h_36 => ?_) (fun h_36 => ?_)
      · skip
        refine lv_iconst (v := nI 0) hx hb dX0_giveWord_43 (by decide) ?_
        exact xw_zret (v := nI 0) hx hb hr hlocks (by first | rfl | exact bI_nar _) hS (by rw [giveK]; first | (rw [if_pos ⟨h_7, h_19⟩]; exact hP) | (rw [if_neg (fun z => h_19 z.2)]; exact hP)) (bI_0 (by rw [gaveK, giveK, decide_eq_true h_7]; first | (rw [if_pos ⟨h_7, h_19⟩, decide_eq_true (show kWd (wrdK S c v) c = v from h_36)]; rfl) | (rw [if_neg (fun z => h_19 z.2), decide_eq_true h_36]; rfl))) dX0_giveWord_44
      · skip
        refine lv_iconst (v := nI 1) hx hb dX0_giveWord_39 (by decide) ?_
        refine lv_goto (tgt := 44) hx hb dX0_giveWord_40 (by decide) ?_
        exact xw_zret (v := nI 1) hx hb hr hlocks (by first | rfl | exact bI_nar _) hS (by rw [giveK]; first | (rw [if_pos ⟨h_7, h_19⟩]; exact hP) | (rw [if_neg (fun z => h_19 z.2)]; exact hP)) (bI_1 (by rw [gaveK, giveK]; first | (rw [if_pos ⟨h_7, h_19⟩, decide_eq_false (show ¬ kWd (wrdK S c v) c = v from h_36), Bool.not_false, Bool.or_true]; done) | (rw [if_neg (fun z => h_19 z.2), decide_eq_false h_36, Bool.not_false, Bool.or_true]; done))) dX0_giveWord_44
  · skip
    refine lv_iconst (v := nI 1) hx hb dX0_giveWord_10 (by decide) ?_
    exact xw_zret (v := nI 1) hx hb hr hlocks (by first | rfl | exact bI_nar _) hS (by rw [giveK, if_neg (fun z => h_7 z.1)]; exact hP) (bI_1 (by rw [gaveK, decide_eq_false h_7]; rfl)) dX0_giveWord_11
set_option maxHeartbeats 4000000 in
set_option maxRecDepth 100000 in
theorem r_X0_markSides (l : Launch) (D : va_G) (a : Nat → Nat) (cI cZ : ClassId) (S : KS) (hO : kOk S) (c : Nat) (hc : c < kN S) (b : Nat) (rw0 : KF) : xWR l yX0_markSides cX0_markSides 3 none (xrm 1 21) [.ref (a 0), .ref (b), .int (nI c)] D (wK a cI cZ S ++ [(b, .inl (cZ, 120, .inl (rw0)))]) (tyL cI cZ) none (wK a cI cZ S ++ [(b, .inl (cZ, 120, .inl (markK S c rw0)))]) := by
  refine xWR.of (by decide) (Nat.le_of_ble_eq_true rfl) ?_
  intro p e s m args below meth cd hx hb hr hml hown hlocks ht hN hP hK hD hS ls hl
  have hl : lv_has ls 3 [(0, .ref (a 0)), (1, .ref (b)), (2, .int (nI c))] := hl
  have hown : s.vm.findClass RX0 = some m.cls := hown
  have hn := hO.1
  obtain ⟨pi, hpi, epi⟩ := (hO.2.2 c hc).2.2
  refine lv_aload_n hx hb dX0_markSides_0 rfl (lv_at hl 0 rfl) ?_
  refine va_get (D := D) (ci := 0) (v := .ref (a 3)) (C := RX0) (T := TX0) (N := 10) hx hb ht inX0 hown hK hP 0 rfl rfl 2 (by decide) (ht _ wd50) (fun _ h9 => h9) rfl dX0_markSides_1 ?_
  refine lv_iload_n hx hb dX0_markSides_4 rfl (lv_at hl 2 rfl) ?_
  refine xa_iald hx hb hK hP 3 0 (i := c) rfl rfl (by omega) (by decide) dX0_markSides_5 ?_
  refine lv_iconst (v := nI 1) hx hb dX0_markSides_6 (by decide) ?_
  refine lv_iand hx hb dX0_markSides_7 ?_
  refine lv_if_eq (tgt := 24) hx hb dX0_markSides_8 (by decide) (fun h_8 => ?_) (fun h_8 => ?_)
  · skip
    refine lv_aload_n hx hb dX0_markSides_24 rfl (lv_at hl 0 rfl) ?_
    refine va_get (D := D) (ci := 0) (v := .ref (a 3)) (C := RX0) (T := TX0) (N := 10) hx hb ht inX0 hown hK hP 0 rfl rfl 2 (by decide) (ht _ wd50) (fun _ h9 => h9) rfl dX0_markSides_25 ?_
    refine lv_iload_n hx hb dX0_markSides_28 rfl (lv_at hl 2 rfl) ?_
    refine xa_iald hx hb hK hP 3 0 (i := c) rfl rfl (by omega) (by decide) dX0_markSides_29 ?_
    refine lv_iconst (v := nI 2) hx hb dX0_markSides_30 (by decide) ?_
    refine lv_iand hx hb dX0_markSides_31 ?_
    refine lv_if_eq (tgt := 48) hx hb dX0_markSides_32 (by decide) (fun h_32 => ?_) (fun h_32 => ?_)
    · skip
      exact xw_vret hx hb hr hlocks hS (xP_congr (w2 := []) (fun j hj => by rw [markK_of epi hpi rw0 j hj]; first | (rw [if_pos h_32, if_pos h_8]; done) | (rw [if_pos h_32, if_neg h_8]; done) | (rw [if_neg h_32, if_pos h_8]; done) | (rw [if_neg h_32, if_neg h_8]; done)) hP) dX0_markSides_48
    · skip
      refine lv_aload_n hx hb dX0_markSides_35 rfl (lv_at hl 1 rfl) ?_
      refine lv_aload_n hx hb dX0_markSides_36 rfl (lv_at hl 0 rfl) ?_
      refine va_get (D := D) (ci := 0) (v := .ref (a 2)) (C := RX0) (T := TX0) (N := 10) hx hb ht inX0 hown hK hP 0 rfl rfl 1 (by decide) (ht _ wd49) (fun _ h9 => h9) rfl dX0_markSides_37 ?_
      refine lv_iload_n hx hb dX0_markSides_40 rfl (lv_at hl 2 rfl) ?_
      refine xa_iald hx hb hK hP 2 0 (i := c) rfl rfl (by omega) (by decide) dX0_markSides_41 ?_
      refine xtop (y := nI pi) epi ?_
      refine lv_iconst (v := nI 2) hx hb dX0_markSides_42 (by decide) ?_
      refine xrN (As := [.int (nI pi), .int (nI 2)]) (rest := [.ref (b)]) hx hb hml hown ht hN kN_X0_56 (r_X3_placeOf l D pi 1) ⟨by decide, by decide⟩ (fun k q h => by simp at h) (hK.sub (tys' := []) [] rfl) rfl hl.1 rfl (Nat.le_of_ble_eq_true rfl) dX0_markSides_43 ⟨Nat.zero_le _, Nat.zero_le _⟩ ?_
      refine lv_iconst (v := nI 1) hx hb dX0_markSides_46 (by decide) ?_
      refine xa_zast hx hb hK hP hD hS 10 1 (i := (2 * pi + 1)) (x := nI 1) rfl rfl (by omega) (by decide) (by first | rfl | exact bI_vp _) dX0_markSides_47 (fun H locs hP hD hS => ?_)
      have hP : va_P D vwCl [(a 0, .inr (0, [.ref (a 1), .ref (a 2), .ref (a 3), .ref (a 4), .ref (a 5), .ref (a 6), .ref (a 7), .ref (a 8), .ref (a 9), .int (nI (kN S))])), (a 1, .inl (cI, 100, .inl (kKd S))), (a 2, .inl (cI, 100, .inl (kPc S))), (a 3, .inl (cI, 100, .inl (kSd S))), (a 4, .inl (cI, 100, .inl (kSt S))), (a 5, .inl (cI, 100, .inl (kEn S))), (a 6, .inl (cI, 100, .inl (kXs S))), (a 7, .inl (cI, 100, .inl (kAn S))), (a 8, .inl (cI, 100, .inl (kWd S))), (a 9, .inl (cZ, 20, .inl (kIc S))), (b, .inl (cZ, 120, .inl (upd rw0 (2 * pi + 1) (nI 1))))] H := hP
      have hD : va_D (xA (wK a cI cZ S ++ [(b, .inl (cZ, 120, .inl (rw0)))])) [(a 0, .inr (0, [.ref (a 1), .ref (a 2), .ref (a 3), .ref (a 4), .ref (a 5), .ref (a 6), .ref (a 7), .ref (a 8), .ref (a 9), .int (nI (kN S))])), (a 1, .inl (cI, 100, .inl (kKd S))), (a 2, .inl (cI, 100, .inl (kPc S))), (a 3, .inl (cI, 100, .inl (kSd S))), (a 4, .inl (cI, 100, .inl (kSt S))), (a 5, .inl (cI, 100, .inl (kEn S))), (a 6, .inl (cI, 100, .inl (kXs S))), (a 7, .inl (cI, 100, .inl (kAn S))), (a 8, .inl (cI, 100, .inl (kWd S))), (a 9, .inl (cZ, 20, .inl (kIc S))), (b, .inl (cZ, 120, .inl (upd rw0 (2 * pi + 1) (nI 1))))] := hD
      exact xw_vret hx hb hr hlocks hS (xP_congr (w2 := []) (fun j hj => by rw [markK_of epi hpi rw0 j hj]; first | (rw [if_pos h_32, if_pos h_8]; done) | (rw [if_pos h_32, if_neg h_8]; done) | (rw [if_neg h_32, if_pos h_8]; done) | (rw [if_neg h_32, if_neg h_8]; done)) hP) dX0_markSides_48
  · skip
    refine lv_aload_n hx hb dX0_markSides_11 rfl (lv_at hl 1 rfl) ?_
    refine lv_aload_n hx hb dX0_markSides_12 rfl (lv_at hl 0 rfl) ?_
    refine va_get (D := D) (ci := 0) (v := .ref (a 2)) (C := RX0) (T := TX0) (N := 10) hx hb ht inX0 hown hK hP 0 rfl rfl 1 (by decide) (ht _ wd49) (fun _ h9 => h9) rfl dX0_markSides_13 ?_
    refine lv_iload_n hx hb dX0_markSides_16 rfl (lv_at hl 2 rfl) ?_
    refine xa_iald hx hb hK hP 2 0 (i := c) rfl rfl (by omega) (by decide) dX0_markSides_17 ?_
    refine xtop (y := nI pi) epi ?_
    refine lv_iconst (v := nI 1) hx hb dX0_markSides_18 (by decide) ?_
    refine xrN (As := [.int (nI pi), .int (nI 1)]) (rest := [.ref (b)]) hx hb hml hown ht hN kN_X0_56 (r_X3_placeOf l D pi 0) ⟨by decide, by decide⟩ (fun k q h => by simp at h) (hK.sub (tys' := []) [] rfl) rfl hl.1 rfl (Nat.le_of_ble_eq_true rfl) dX0_markSides_19 ⟨Nat.zero_le _, Nat.zero_le _⟩ ?_
    refine lv_iconst (v := nI 1) hx hb dX0_markSides_22 (by decide) ?_
    refine xa_zast hx hb hK hP hD hS 10 1 (i := (2 * pi + 0)) (x := nI 1) rfl rfl (by omega) (by decide) (by first | rfl | exact bI_vp _) dX0_markSides_23 (fun H locs hP hD hS => ?_)
    have hP : va_P D vwCl [(a 0, .inr (0, [.ref (a 1), .ref (a 2), .ref (a 3), .ref (a 4), .ref (a 5), .ref (a 6), .ref (a 7), .ref (a 8), .ref (a 9), .int (nI (kN S))])), (a 1, .inl (cI, 100, .inl (kKd S))), (a 2, .inl (cI, 100, .inl (kPc S))), (a 3, .inl (cI, 100, .inl (kSd S))), (a 4, .inl (cI, 100, .inl (kSt S))), (a 5, .inl (cI, 100, .inl (kEn S))), (a 6, .inl (cI, 100, .inl (kXs S))), (a 7, .inl (cI, 100, .inl (kAn S))), (a 8, .inl (cI, 100, .inl (kWd S))), (a 9, .inl (cZ, 20, .inl (kIc S))), (b, .inl (cZ, 120, .inl (upd rw0 (2 * pi + 0) (nI 1))))] H := hP
    have hD : va_D (xA (wK a cI cZ S ++ [(b, .inl (cZ, 120, .inl (rw0)))])) [(a 0, .inr (0, [.ref (a 1), .ref (a 2), .ref (a 3), .ref (a 4), .ref (a 5), .ref (a 6), .ref (a 7), .ref (a 8), .ref (a 9), .int (nI (kN S))])), (a 1, .inl (cI, 100, .inl (kKd S))), (a 2, .inl (cI, 100, .inl (kPc S))), (a 3, .inl (cI, 100, .inl (kSd S))), (a 4, .inl (cI, 100, .inl (kSt S))), (a 5, .inl (cI, 100, .inl (kEn S))), (a 6, .inl (cI, 100, .inl (kXs S))), (a 7, .inl (cI, 100, .inl (kAn S))), (a 8, .inl (cI, 100, .inl (kWd S))), (a 9, .inl (cZ, 20, .inl (kIc S))), (b, .inl (cZ, 120, .inl (upd rw0 (2 * pi + 0) (nI 1))))] := hD
    refine lv_aload_n hx hb dX0_markSides_24 rfl (lv_at hl 0 rfl) ?_
    refine va_get (D := D) (ci := 0) (v := .ref (a 3)) (C := RX0) (T := TX0) (N := 10) hx hb ht inX0 hown hK hP 0 rfl rfl 2 (by decide) (ht _ wd50) (fun _ h9 => h9) rfl dX0_markSides_25 ?_
    refine lv_iload_n hx hb dX0_markSides_28 rfl (lv_at hl 2 rfl) ?_
    refine xa_iald hx hb hK hP 3 0 (i := c) rfl rfl (by omega) (by decide) dX0_markSides_29 ?_
    refine lv_iconst (v := nI 2) hx hb dX0_markSides_30 (by decide) ?_
    refine lv_iand hx hb dX0_markSides_31 ?_
    refine lv_if_eq (tgt := 48) hx hb dX0_markSides_32 (by decide) (fun h_32 => ?_) (fun h_32 => ?_)
    · skip
      exact xw_vret hx hb hr hlocks hS (xP_congr (w2 := []) (fun j hj => by rw [markK_of epi hpi rw0 j hj]; first | (rw [if_pos h_32, if_pos h_8]; done) | (rw [if_pos h_32, if_neg h_8]; done) | (rw [if_neg h_32, if_pos h_8]; done) | (rw [if_neg h_32, if_neg h_8]; done)) hP) dX0_markSides_48
    · skip
      refine lv_aload_n hx hb dX0_markSides_35 rfl (lv_at hl 1 rfl) ?_
      refine lv_aload_n hx hb dX0_markSides_36 rfl (lv_at hl 0 rfl) ?_
      refine va_get (D := D) (ci := 0) (v := .ref (a 2)) (C := RX0) (T := TX0) (N := 10) hx hb ht inX0 hown hK hP 0 rfl rfl 1 (by decide) (ht _ wd49) (fun _ h9 => h9) rfl dX0_markSides_37 ?_
      refine lv_iload_n hx hb dX0_markSides_40 rfl (lv_at hl 2 rfl) ?_
      refine xa_iald hx hb hK hP 2 0 (i := c) rfl rfl (by omega) (by decide) dX0_markSides_41 ?_
      refine xtop (y := nI pi) epi ?_
      refine lv_iconst (v := nI 2) hx hb dX0_markSides_42 (by decide) ?_
      refine xrN (As := [.int (nI pi), .int (nI 2)]) (rest := [.ref (b)]) hx hb hml hown ht hN kN_X0_56 (r_X3_placeOf l D pi 1) ⟨by decide, by decide⟩ (fun k q h => by simp at h) (hK.sub (tys' := []) [] rfl) rfl hl.1 rfl (Nat.le_of_ble_eq_true rfl) dX0_markSides_43 ⟨Nat.zero_le _, Nat.zero_le _⟩ ?_
      refine lv_iconst (v := nI 1) hx hb dX0_markSides_46 (by decide) ?_
      refine xa_zast hx hb hK hP hD hS 10 1 (i := (2 * pi + 1)) (x := nI 1) rfl rfl (by omega) (by decide) (by first | rfl | exact bI_vp _) dX0_markSides_47 (fun H locs hP hD hS => ?_)
      have hP : va_P D vwCl [(a 0, .inr (0, [.ref (a 1), .ref (a 2), .ref (a 3), .ref (a 4), .ref (a 5), .ref (a 6), .ref (a 7), .ref (a 8), .ref (a 9), .int (nI (kN S))])), (a 1, .inl (cI, 100, .inl (kKd S))), (a 2, .inl (cI, 100, .inl (kPc S))), (a 3, .inl (cI, 100, .inl (kSd S))), (a 4, .inl (cI, 100, .inl (kSt S))), (a 5, .inl (cI, 100, .inl (kEn S))), (a 6, .inl (cI, 100, .inl (kXs S))), (a 7, .inl (cI, 100, .inl (kAn S))), (a 8, .inl (cI, 100, .inl (kWd S))), (a 9, .inl (cZ, 20, .inl (kIc S))), (b, .inl (cZ, 120, .inl (upd (upd rw0 (2 * pi + 0) (nI 1)) (2 * pi + 1) (nI 1))))] H := hP
      have hD : va_D (xA (wK a cI cZ S ++ [(b, .inl (cZ, 120, .inl (rw0)))])) [(a 0, .inr (0, [.ref (a 1), .ref (a 2), .ref (a 3), .ref (a 4), .ref (a 5), .ref (a 6), .ref (a 7), .ref (a 8), .ref (a 9), .int (nI (kN S))])), (a 1, .inl (cI, 100, .inl (kKd S))), (a 2, .inl (cI, 100, .inl (kPc S))), (a 3, .inl (cI, 100, .inl (kSd S))), (a 4, .inl (cI, 100, .inl (kSt S))), (a 5, .inl (cI, 100, .inl (kEn S))), (a 6, .inl (cI, 100, .inl (kXs S))), (a 7, .inl (cI, 100, .inl (kAn S))), (a 8, .inl (cI, 100, .inl (kWd S))), (a 9, .inl (cZ, 20, .inl (kIc S))), (b, .inl (cZ, 120, .inl (upd (upd rw0 (2 * pi + 0) (nI 1)) (2 * pi + 1) (nI 1))))] := hD
      exact xw_vret hx hb hr hlocks hS (xP_congr (w2 := []) (fun j hj => by rw [markK_of epi hpi rw0 j hj]; first | (rw [if_pos h_32, if_pos h_8]; done) | (rw [if_pos h_32, if_neg h_8]; done) | (rw [if_neg h_32, if_pos h_8]; done) | (rw [if_neg h_32, if_neg h_8]; done)) hP) dX0_markSides_48
set_option maxHeartbeats 4000000 in
set_option maxRecDepth 100000 in
theorem r_X0_markClosed (l : Launch) (D : va_G) (a : Nat → Nat) (cI cZ : ClassId) (S : KS) (hO : kOk S) (b : Nat) (rw0 : KF) (t : Int32) : xWR l yX0_markClosed cX0_markClosed 4 none (xrm 3 64) [.ref (a 0), .ref (b), .int (t)] D (wK a cI cZ S ++ [(b, .inl (cZ, 120, .inl (rw0)))]) (tyL cI cZ) none (wK a cI cZ S ++ [(b, .inl (cZ, 120, .inl (rowK S t (kN S))))]) := by
  refine xWR.of (by decide) (Nat.le_of_ble_eq_true rfl) ?_
  intro p e s m args below meth cd hx hb hr hml hown hlocks ht hN hP hK hD hS ls hl
  have hl : lv_has ls 4 [(0, .ref (a 0)), (1, .ref (b)), (2, .int (t))] := hl
  have hown : s.vm.findClass RX0 = some m.cls := hown
  have hn := hO.1
  have L20 : ∀ (n : Nat) (c : Nat), kN S < c + n → c ≤ kN S → ∀ (H : Heap) (locs : List Loc), va_P D vwCl (wK a cI cZ S ++ [(b, .inl (cZ, 120, .inl (rowK S t c)))]) H → va_D (xA (wK a cI cZ S ++ [(b, .inl (cZ, 120, .inl (rw0)))])) (wK a cI cZ S ++ [(b, .inl (cZ, 120, .inl (rowK S t c)))]) → va_S (xA (wK a cI cZ S ++ [(b, .inl (cZ, 120, .inl (rw0)))])) s.heap H locs → ∀ ls : Array Slot, lv_has ls 4 [(0, .ref (a 0)), (1, .ref (b)), (2, .int (t)), (3, .int (nI c))] → W p l e (xrm 3 64) s m args below meth cd H locs 0 0 (MQ below (xQw none D (wK a cI cZ S ++ [(b, .inl (cZ, 120, .inl (rw0)))]) (wK a cI cZ S ++ [(b, .inl (cZ, 120, .inl (rowK S t (kN S))))])) args s 0 0 (xA (wK a cI cZ S ++ [(b, .inl (cZ, 120, .inl (rw0)))]))) (F0 m 20 ls []) := by
    intro n
    induction n with
    | zero =>
      intro c hfuel hi
      exact absurd hfuel (by omega)
    | succ n ih20 =>
      intro c hfuel hi H locs hP hD hS ls hl
      refine lv_iload_n hx hb dX0_markClosed_20 rfl (lv_at hl 3 rfl) ?_
      refine lv_aload_n hx hb dX0_markClosed_21 rfl (lv_at hl 0 rfl) ?_
      refine va_get (D := D) (ci := 0) (v := .int (nI (kN S))) (C := RX0) (T := TX0) (N := 10) hx hb ht inX0 hown hK hP 0 rfl rfl 9 (by decide) (ht _ wd57) (fun _ h9 => h9) rfl dX0_markClosed_22 ?_
      refine lv_icmp_ge (tgt := 59) hx hb dX0_markClosed_25 (by decide) (fun h_25 => ?_) (fun h_25 => ?_)
      · skip
        have h_25 : (kN S) ≤ c := (nI_leI (by omega) (by omega)).mp h_25
        exact xw_vret hx hb hr hlocks hS (by rw [show kN S = c by omega]; exact hP) dX0_markClosed_59
      · skip
        have h_25 : ¬ ((kN S) ≤ c) := fun z => h_25 ((nI_leI (by omega) (by omega)).mpr z)
        refine lv_aload_n hx hb dX0_markClosed_28 rfl (lv_at hl 0 rfl) ?_
        refine va_get (D := D) (ci := 0) (v := .ref (a 1)) (C := RX0) (T := TX0) (N := 10) hx hb ht inX0 hown hK hP 0 rfl rfl 0 (by decide) (ht _ wd48) (fun _ h9 => h9) rfl dX0_markClosed_29 ?_
        refine lv_iload_n hx hb dX0_markClosed_32 rfl (lv_at hl 3 rfl) ?_
        refine xa_iald hx hb hK hP 1 0 (i := c) rfl rfl (by omega) (by decide) dX0_markClosed_33 ?_
        refine lv_iconst (v := nI 5) hx hb dX0_markClosed_34 (by decide) ?_
        refine lv_icmp_eq (tgt := 53) hx hb dX0_markClosed_35 (by decide) (fun h_35 => ?_) (fun h_35 => ?_)
        · skip
          refine lv_iinc (v := nI (c + 1)) (lv' := [(3, .int (nI (c + 1))), (0, .ref (a 0)), (1, .ref (b)), (2, .int (t))]) hx hb dX0_markClosed_53 hl (k := 3) rfl (nI_1 _) (by decide) rfl (fun ls hl => ?_)
          refine lv_goto (tgt := 20) hx hb dX0_markClosed_56 (by decide) ?_
          exact ih20 (c + 1) (by omega) (by omega) _ _ (by rw [rowK_s]; first | (rw [decide_eq_true h_35]; exact hP) | (rw [decide_eq_false h_35, bI_t h_44]; exact hP) | (rw [bI_f h_44, Bool.and_false]; exact hP)) (xD_addr hD rfl) hS ls (lv_sub hl [1, 2, 3, 0] rfl)
        · skip
          refine lv_aload_n hx hb dX0_markClosed_38 rfl (lv_at hl 0 rfl) ?_
          refine lv_iload_n hx hb dX0_markClosed_39 rfl (lv_at hl 3 rfl) ?_
          refine lv_iload_n hx hb dX0_markClosed_40 rfl (lv_at hl 2 rfl) ?_
          refine xrV (As := [.int (nI c), .int (t)]) (rest := []) hx hb hml hown ht hN kV_X0_48 (r_X0_holds l D a cI cZ S hO c (by omega) t) ⟨by decide, by decide⟩ (hP.sub (ws' := (wK a cI cZ S)) [0, 1, 2, 3, 4, 5, 6, 7, 8, 9] rfl) hK rfl rfl rfl rfl hl.1 rfl (Nat.le_of_ble_eq_true rfl) dX0_markClosed_41 ⟨Nat.zero_le _, Nat.zero_le _⟩ ?_
          refine lv_if_eq (tgt := 53) hx hb dX0_markClosed_44 (by decide) (fun h_44 => ?_) (fun h_44 => ?_)
          · skip
            refine lv_iinc (v := nI (c + 1)) (lv' := [(3, .int (nI (c + 1))), (0, .ref (a 0)), (1, .ref (b)), (2, .int (t))]) hx hb dX0_markClosed_53 hl (k := 3) rfl (nI_1 _) (by decide) rfl (fun ls hl => ?_)
            refine lv_goto (tgt := 20) hx hb dX0_markClosed_56 (by decide) ?_
            exact ih20 (c + 1) (by omega) (by omega) _ _ (by rw [rowK_s]; first | (rw [decide_eq_true h_35]; exact hP) | (rw [decide_eq_false h_35, bI_t h_44]; exact hP) | (rw [bI_f h_44, Bool.and_false]; exact hP)) (xD_addr hD rfl) hS ls (lv_sub hl [1, 2, 3, 0] rfl)
          · skip
            refine lv_aload_n hx hb dX0_markClosed_47 rfl (lv_at hl 0 rfl) ?_
            refine lv_aload_n hx hb dX0_markClosed_48 rfl (lv_at hl 1 rfl) ?_
            refine lv_iload_n hx hb dX0_markClosed_49 rfl (lv_at hl 3 rfl) ?_
            refine xwV (As := [.ref (b), .int (nI c)]) (rest := []) (wr := []) (ws2 := (wK a cI cZ S ++ [(b, .inl (cZ, 120, .inl (markK S c (rowK S t c))))])) hx hb hml hown ht hN kV_X0_52 (r_X0_markSides l D a cI cZ S hO c (by omega) b (rowK S t c)) ⟨by decide, by decide⟩ hP hD hS hK [0, 1, 2, 3, 4, 5, 6, 7, 8, 9, 10] [] [0, 1, 2, 3, 4, 5, 6, 7, 8, 9, 10] rfl rfl (by decide) (by decide) (by decide) rfl rfl (by decide) rfl rfl rfl rfl hl.1 rfl (Nat.le_of_ble_eq_true rfl) dX0_markClosed_50 ⟨Nat.zero_le _, Nat.zero_le _⟩ (fun H locs hP hD hS => ?_)
            refine lv_iinc (v := nI (c + 1)) (lv' := [(3, .int (nI (c + 1))), (0, .ref (a 0)), (1, .ref (b)), (2, .int (t))]) hx hb dX0_markClosed_53 hl (k := 3) rfl (nI_1 _) (by decide) rfl (fun ls hl => ?_)
            refine lv_goto (tgt := 20) hx hb dX0_markClosed_56 (by decide) ?_
            exact ih20 (c + 1) (by omega) (by omega) _ _ (by rw [rowK_s]; first | (rw [decide_eq_true h_35]; exact hP) | (rw [decide_eq_false h_35, bI_t h_44]; exact hP) | (rw [bI_f h_44, Bool.and_false]; exact hP)) (xD_addr hD rfl) hS ls (lv_sub hl [1, 2, 3, 0] rfl)
  have L2 : ∀ (n : Nat) (i : Nat), 120 < i + n → i ≤ 120 → ∀ (H : Heap) (locs : List Loc), va_P D vwCl (wK a cI cZ S ++ [(b, .inl (cZ, 120, .inl (zfil rw0 i)))]) H → va_D (xA (wK a cI cZ S ++ [(b, .inl (cZ, 120, .inl (rw0)))])) (wK a cI cZ S ++ [(b, .inl (cZ, 120, .inl (zfil rw0 i)))]) → va_S (xA (wK a cI cZ S ++ [(b, .inl (cZ, 120, .inl (rw0)))])) s.heap H locs → ∀ ls : Array Slot, lv_has ls 4 [(0, .ref (a 0)), (1, .ref (b)), (2, .int (t)), (3, .int (nI i))] → W p l e (xrm 3 64) s m args below meth cd H locs 0 0 (MQ below (xQw none D (wK a cI cZ S ++ [(b, .inl (cZ, 120, .inl (rw0)))]) (wK a cI cZ S ++ [(b, .inl (cZ, 120, .inl (rowK S t (kN S))))])) args s 0 0 (xA (wK a cI cZ S ++ [(b, .inl (cZ, 120, .inl (rw0)))]))) (F0 m 2 ls []) := by
    intro n
    induction n with
    | zero =>
      intro i hfuel hi
      exact absurd hfuel (by omega)
    | succ n ih2 =>
      intro i hfuel hi H locs hP hD hS ls hl
      refine lv_iload_n hx hb dX0_markClosed_2 rfl (lv_at hl 3 rfl) ?_
      refine lv_bipush (v := nI 120) hx hb dX0_markClosed_3 (by decide) ?_
      refine lv_icmp_ge (tgt := 18) hx hb dX0_markClosed_5 (by decide) (fun h_5 => ?_) (fun h_5 => ?_)
      · skip
        have h_5 : 120 ≤ i := (nI_leI (by omega) (by omega)).mp h_5
        refine lv_iconst (v := nI 0) hx hb dX0_markClosed_18 (by decide) ?_
        refine lv_istore_n (lv' := [(3, .int (nI 0)), (0, .ref (a 0)), (1, .ref (b)), (2, .int (t))]) hx hb dX0_markClosed_19 rfl hl (by decide) rfl (fun ls hl => ?_)
        exact L20 (kN S + 1) 0 (by omega) (by omega) _ _ (xP_congr (w2 := []) (g := rowK S t 0) (fun j hj => by unfold zfil; rw [if_pos (by omega)]; rfl) hP) (xD_addr hD rfl) hS ls (lv_sub hl [1, 2, 3, 0] rfl)
      · skip
        have h_5 : ¬ (120 ≤ i) := fun z => h_5 ((nI_leI (by omega) (by omega)).mpr z)
        refine lv_aload_n hx hb dX0_markClosed_8 rfl (lv_at hl 1 rfl) ?_
        refine lv_iload_n hx hb dX0_markClosed_9 rfl (lv_at hl 3 rfl) ?_
        refine lv_iconst (v := nI 0) hx hb dX0_markClosed_10 (by decide) ?_
        refine xa_zast hx hb hK hP hD hS 10 1 (i := i) (x := nI 0) rfl rfl (by omega) (by decide) (by first | rfl | exact bI_vp _) dX0_markClosed_11 (fun H locs hP hD hS => ?_)
        have hP : va_P D vwCl [(a 0, .inr (0, [.ref (a 1), .ref (a 2), .ref (a 3), .ref (a 4), .ref (a 5), .ref (a 6), .ref (a 7), .ref (a 8), .ref (a 9), .int (nI (kN S))])), (a 1, .inl (cI, 100, .inl (kKd S))), (a 2, .inl (cI, 100, .inl (kPc S))), (a 3, .inl (cI, 100, .inl (kSd S))), (a 4, .inl (cI, 100, .inl (kSt S))), (a 5, .inl (cI, 100, .inl (kEn S))), (a 6, .inl (cI, 100, .inl (kXs S))), (a 7, .inl (cI, 100, .inl (kAn S))), (a 8, .inl (cI, 100, .inl (kWd S))), (a 9, .inl (cZ, 20, .inl (kIc S))), (b, .inl (cZ, 120, .inl (upd (zfil rw0 i) i (nI 0))))] H := hP
        have hD : va_D (xA (wK a cI cZ S ++ [(b, .inl (cZ, 120, .inl (rw0)))])) [(a 0, .inr (0, [.ref (a 1), .ref (a 2), .ref (a 3), .ref (a 4), .ref (a 5), .ref (a 6), .ref (a 7), .ref (a 8), .ref (a 9), .int (nI (kN S))])), (a 1, .inl (cI, 100, .inl (kKd S))), (a 2, .inl (cI, 100, .inl (kPc S))), (a 3, .inl (cI, 100, .inl (kSd S))), (a 4, .inl (cI, 100, .inl (kSt S))), (a 5, .inl (cI, 100, .inl (kEn S))), (a 6, .inl (cI, 100, .inl (kXs S))), (a 7, .inl (cI, 100, .inl (kAn S))), (a 8, .inl (cI, 100, .inl (kWd S))), (a 9, .inl (cZ, 20, .inl (kIc S))), (b, .inl (cZ, 120, .inl (upd (zfil rw0 i) i (nI 0))))] := hD
        refine lv_iinc (v := nI (i + 1)) (lv' := [(3, .int (nI (i + 1))), (0, .ref (a 0)), (1, .ref (b)), (2, .int (t))]) hx hb dX0_markClosed_12 hl (k := 3) rfl (nI_1 _) (by decide) rfl (fun ls hl => ?_)
        refine lv_goto (tgt := 2) hx hb dX0_markClosed_15 (by decide) ?_
        exact ih2 (i + 1) (by omega) (by omega) _ _ (by rw [zfil_s] at hP; exact hP) (xD_addr hD rfl) hS ls (lv_sub hl [1, 2, 3, 0] rfl)
  refine lv_iconst (v := nI 0) hx hb dX0_markClosed_0 (by decide) ?_
  refine lv_istore_n (lv' := [(3, .int (nI 0)), (0, .ref (a 0)), (1, .ref (b)), (2, .int (t))]) hx hb dX0_markClosed_1 rfl hl (by decide) rfl (fun ls hl => ?_)
  exact L2 121 0 (by omega) (by omega) _ _ (xP_congr (w2 := []) (g := zfil rw0 0) (fun j hj => by unfold zfil; rw [if_neg (by omega)]) hP) (xD_addr hD rfl) hS ls (lv_sub hl [1, 2, 3, 0] rfl)
end
section
theorem kS_X1_29 : xcS RX1 29 yJ9_floorMod cJ9_floorMod 3 (some .int) 2 := ⟨wd333, wd331, wd332, wd32, ⟨by decide +kernel, by decide +kernel, by decide +kernel⟩⟩
theorem kS_X1_19 : xcS RX1 19 yX1_firstOf cX1_firstOf 1 (some .int) 1 := ⟨wd330, wd328, wd329, wd24, ⟨by decide +kernel, by decide +kernel, by decide +kernel⟩⟩
theorem kN_X1_23 : xcN RX1 23 yX3_pieceOf cX3_pieceOf 1 (some .int) 1 RX3 := ⟨wd336, by decide +kernel, wd335, wd21, ⟨by decide +kernel, by decide +kernel, by decide +kernel⟩⟩
theorem kN_X1_26 : xcN RX1 26 yX3_sideOf cX3_sideOf 1 (some .int) 1 RX3 := ⟨wd339, by decide +kernel, wd338, wd21, ⟨by decide +kernel, by decide +kernel, by decide +kernel⟩⟩
theorem kV_X2_18 : xcV RX2 RX2 18 yX2_stepOf cX2_stepOf 3 (some .int) 2 := ⟨wd323, wd320, wd321, wd322, wd23, rfl, ⟨by decide +kernel, by decide +kernel, by decide +kernel⟩⟩
set_option maxHeartbeats 4000000 in
set_option maxRecDepth 100000 in
theorem r_J9_floorMod (l : Launch) (D : va_G) (n : Nat) (h : n < 2 ^ 31) : xRO l yJ9_floorMod cJ9_floorMod 3 (some .int) (xrm 0 0) [.int (nI n), .int (nI 100)] D [] [] (nI (n % 100)) := by
  refine xRO.ofF (by decide +kernel) (Nat.le_of_ble_eq_true rfl) ?_
  intro p e s m args below meth cd hx hb hr hml hown hlocks ht hN hP hK ls hl
  have hl : lv_has ls 3 [(0, .int (nI n)), (1, .int (nI 100))] := hl
  have hown : s.vm.findClass RJ9 = some m.cls := hown
  refine lv_iload_n hx hb dJ9_floorMod_0 rfl (lv_at hl 0 rfl) ?_
  refine lv_iload_n hx hb dJ9_floorMod_1 rfl (lv_at hl 1 rfl) ?_
  refine lv_irem hx hb dJ9_floorMod_2 (by decide) ?_
  refine lv_istore_n (lv' := [(2, .int (rI (nI n) (nI 100))), (0, .int (nI n)), (1, .int (nI 100))]) hx hb dJ9_floorMod_3 rfl hl (by decide) rfl (fun ls hl => ?_)
  refine lv_iload_n hx hb dJ9_floorMod_4 rfl (lv_at hl 1 rfl) ?_
  refine lv_iload_n hx hb dJ9_floorMod_5 rfl (lv_at hl 2 rfl) ?_
  refine lv_ixor hx hb dJ9_floorMod_6 ?_
  refine lv_if_ge (tgt := 18) hx hb dJ9_floorMod_7 (by decide) (fun h_7 => ?_) (fun h_7 => ?_)
  · skip
    refine lv_iload_n hx hb dJ9_floorMod_18 rfl (lv_at hl 0 rfl) ?_
    exact xr_iret (v := rI (nI n) (nI 100)) hx hb hr hlocks (pk_rem h (by decide) (by decide)) dJ9_floorMod_19
  · skip
    exact absurd (by rw [xx_xor]; exact nI_pos' (Nat.xor_lt_two_pow h (by decide))) h_7
set_option maxHeartbeats 4000000 in
set_option maxRecDepth 100000 in
theorem r_X1_firstOf (l : Launch) (D : va_G) (n : Nat) (h : n < 2 ^ 31) : xRO l yX1_firstOf cX1_firstOf 1 (some .int) (xrm 1 22) [.int (nI n)] D [] [] (nI (fstT n)) := by
  refine xRO.of (by decide +kernel) (Nat.le_of_ble_eq_true rfl) ?_
  intro p e s m args below meth cd hx hb hr hml hown hlocks ht hN hP hK ls hl
  have hl : lv_has ls 1 [(0, .int (nI n))] := hl
  have hown : s.vm.findClass RX1 = some m.cls := hown
  refine lv_iload_n hx hb dX1_firstOf_0 rfl (lv_at hl 0 rfl) ?_
  refine lv_bipush (v := nI 100) hx hb dX1_firstOf_1 (by decide) ?_
  refine xrS (As := [.int (nI n), .int (nI 100)]) (rest := []) hx hb hml hown ht hN kS_X1_29 (r_J9_floorMod l D n h) ⟨by decide, by decide⟩ hP hK rfl hl.1 rfl (Nat.le_of_ble_eq_true rfl) dX1_firstOf_3 ⟨Nat.zero_le _, Nat.zero_le _⟩ ?_
  refine lv_iconst (v := nI 5) hx hb dX1_firstOf_6 (by decide) ?_
  refine lv_imul hx hb dX1_firstOf_7 ?_
  exact xr_iret (v := (nI (n % 100)) * (nI 5)) hx hb hr hlocks (pk_mul _ _) dX1_firstOf_8
set_option maxHeartbeats 4000000 in
set_option maxRecDepth 100000 in
theorem r_X1_total (l : Launch) (D : va_G) (b : Nat → Nat) (cI cZ : ClassId) (N : NS) : xRO l yX1_total cX1_total 1 (some .int) (xrm 0 0) [.ref (b 0)] D (wNt b cI N) (tyL cI cZ) (nI (nT N)) := by
  refine xRO.of (by decide +kernel) (Nat.le_of_ble_eq_true rfl) ?_
  intro p e s m args below meth cd hx hb hr hml hown hlocks ht hN hP hK ls hl
  have hl : lv_has ls 1 [(0, .ref (b 0))] := hl
  have hown : s.vm.findClass RX1 = some m.cls := hown
  refine lv_aload_n hx hb dX1_total_0 rfl (lv_at hl 0 rfl) ?_
  refine va_get (D := D) (ci := 1) (v := .int (nI (nT N))) (C := RX1) (T := TX1) (N := 2) hx hb ht inX1 hown hK hP 0 rfl rfl 1 (by decide) (ht _ wd101) (fun _ h9 => h9) rfl dX1_total_1 ?_
  exact xr_iret (v := nI (nT N)) hx hb hr hlocks (rfl) dX1_total_4
set_option maxHeartbeats 4000000 in
set_option maxRecDepth 100000 in
theorem r_X1_isKept (l : Launch) (D : va_G) (b : Nat → Nat) (cI cZ : ClassId) (N : NS) (i : Int32) : xRO l yX1_isKept cX1_isKept 2 (some .boolean) (xrm 0 0) [.ref (b 0), .int (i)] D (wNt b cI N) (tyL cI cZ) (bI (!decide (i < 0) && (!decide (nI (nT N) ≤ i) && !decide (i < nI (nT N) - nI 100)))) := by
  refine xRO.of (by decide +kernel) (Nat.le_of_ble_eq_true rfl) ?_
  intro p e s m args below meth cd hx hb hr hml hown hlocks ht hN hP hK ls hl
  have hl : lv_has ls 2 [(0, .ref (b 0)), (1, .int (i))] := hl
  have hown : s.vm.findClass RX1 = some m.cls := hown
  refine lv_iload_n hx hb dX1_isKept_0 rfl (lv_at hl 1 rfl) ?_
  refine lv_if_lt (tgt := 27) hx hb dX1_isKept_1 (by decide) (fun h_1 => ?_) (fun h_1 => ?_)
  · skip
    refine lv_iconst (v := nI 0) hx hb dX1_isKept_27 (by decide) ?_
    exact xr_zret (v := nI 0) hx hb hr hlocks (by first | rfl | exact bI_nar _) (bI_0 (by first | (rw [decide_eq_true h_1]; rfl) | (rw [decide_eq_true h_9, Bool.not_true, Bool.false_and, Bool.and_false]; done) | (rw [decide_eq_true h_20, Bool.not_true, Bool.and_false, Bool.and_false]; done))) dX1_isKept_28
  · skip
    refine lv_iload_n hx hb dX1_isKept_4 rfl (lv_at hl 1 rfl) ?_
    refine lv_aload_n hx hb dX1_isKept_5 rfl (lv_at hl 0 rfl) ?_
    refine va_get (D := D) (ci := 1) (v := .int (nI (nT N))) (C := RX1) (T := TX1) (N := 2) hx hb ht inX1 hown hK hP 0 rfl rfl 1 (by decide) (ht _ wd101) (fun _ h9 => h9) rfl dX1_isKept_6 ?_
    refine lv_icmp_ge (tgt := 27) hx hb dX1_isKept_9 (by decide) (fun h_9 => ?_) (fun h_9 => ?_)
    · skip
      refine lv_iconst (v := nI 0) hx hb dX1_isKept_27 (by decide) ?_
      exact xr_zret (v := nI 0) hx hb hr hlocks (by first | rfl | exact bI_nar _) (bI_0 (by first | (rw [decide_eq_true h_1]; rfl) | (rw [decide_eq_true h_9, Bool.not_true, Bool.false_and, Bool.and_false]; done) | (rw [decide_eq_true h_20, Bool.not_true, Bool.and_false, Bool.and_false]; done))) dX1_isKept_28
    · skip
      refine lv_iload_n hx hb dX1_isKept_12 rfl (lv_at hl 1 rfl) ?_
      refine lv_aload_n hx hb dX1_isKept_13 rfl (lv_at hl 0 rfl) ?_
      refine va_get (D := D) (ci := 1) (v := .int (nI (nT N))) (C := RX1) (T := TX1) (N := 2) hx hb ht inX1 hown hK hP 0 rfl rfl 1 (by decide) (ht _ wd101) (fun _ h9 => h9) rfl dX1_isKept_14 ?_
      refine lv_bipush (v := nI 100) hx hb dX1_isKept_17 (by decide) ?_
      refine lv_isub hx hb dX1_isKept_19 ?_
      refine lv_icmp_lt (tgt := 27) hx hb dX1_isKept_20 (by decide) (fun h_20 => ?_) (fun h_20 => ?_)
      · skip
        refine lv_iconst (v := nI 0) hx hb dX1_isKept_27 (by decide) ?_
        exact xr_zret (v := nI 0) hx hb hr hlocks (by first | rfl | exact bI_nar _) (bI_0 (by first | (rw [decide_eq_true h_1]; rfl) | (rw [decide_eq_true h_9, Bool.not_true, Bool.false_and, Bool.and_false]; done) | (rw [decide_eq_true h_20, Bool.not_true, Bool.and_false, Bool.and_false]; done))) dX1_isKept_28
      · skip
        refine lv_iconst (v := nI 1) hx hb dX1_isKept_23 (by decide) ?_
        refine lv_goto (tgt := 28) hx hb dX1_isKept_24 (by decide) ?_
        exact xr_zret (v := nI 1) hx hb hr hlocks (by first | rfl | exact bI_nar _) (bI_1 (by rw [decide_eq_false h_1, decide_eq_false h_9, decide_eq_false h_20]; rfl)) dX1_isKept_28
set_option maxHeartbeats 4000000 in
set_option maxRecDepth 100000 in
theorem r_X1_get (l : Launch) (D : va_G) (b : Nat → Nat) (cI cZ : ClassId) (N : NS) (i w : Nat) (hi : i < 2 ^ 31) (hw : w < 5) : xRO l yX1_get cX1_get 3 (some .int) (xrm 2 42) [.ref (b 0), .int (nI i), .int (nI w)] D (wNt b cI N) (tyL cI cZ) (nRw N (fstT i + w)) := by
  refine xRO.of (by decide +kernel) (Nat.le_of_ble_eq_true rfl) ?_
  intro p e s m args below meth cd hx hb hr hml hown hlocks ht hN hP hK ls hl
  have hl : lv_has ls 3 [(0, .ref (b 0)), (1, .int (nI i)), (2, .int (nI w))] := hl
  have hown : s.vm.findClass RX1 = some m.cls := hown
  refine lv_aload_n hx hb dX1_get_0 rfl (lv_at hl 0 rfl) ?_
  refine va_get (D := D) (ci := 1) (v := .ref (b 1)) (C := RX1) (T := TX1) (N := 2) hx hb ht inX1 hown hK hP 0 rfl rfl 0 (by decide) (ht _ wd100) (fun _ h9 => h9) rfl dX1_get_1 ?_
  refine lv_iload_n hx hb dX1_get_4 rfl (lv_at hl 1 rfl) ?_
  refine xrS (As := [.int (nI i)]) (rest := [.ref (b 1)]) hx hb hml hown ht hN kS_X1_19 (r_X1_firstOf l D i hi) ⟨by decide, by decide⟩ (fun k q h => by simp at h) (hK.sub (tys' := []) [] rfl) rfl hl.1 rfl (Nat.le_of_ble_eq_true rfl) dX1_get_5 ⟨Nat.zero_le _, Nat.zero_le _⟩ ?_
  refine lv_iload_n hx hb dX1_get_8 rfl (lv_at hl 2 rfl) ?_
  refine lv_iadd hx hb dX1_get_9 ?_
  refine xtop (y := nI (fstT i + w)) (nI_add _ _) ?_
  refine xa_iald hx hb hK hP 1 0 (i := (fstT i + w)) rfl rfl (by show i % 100 * 5 + w < 500; omega) (by decide) dX1_get_10 ?_
  exact xr_iret (v := nRw N (fstT i + w)) hx hb hr hlocks (rfl) dX1_get_11
set_option maxHeartbeats 4000000 in
set_option maxRecDepth 100000 in
theorem r_X1_add (l : Launch) (D : va_G) (b : Nat → Nat) (cI cZ : ClassId) (N : NS) (h : nT N < 2 ^ 31) (u pl : Nat) (hp : pl < 120) (bb : Bool) (mm : Int32) : xWR l yX1_add cX1_add 6 none (xrm 2 42) [.ref (b 0), .int (nI u), .int (nI pl), .int (bI bb), .int (mm)] D (wNt b cI N) (tyL cI cZ) none (wNt b cI (noteN N u pl bb mm)) := by
  refine xWR.of (by decide +kernel) (Nat.le_of_ble_eq_true rfl) ?_
  intro p e s m args below meth cd hx hb hr hml hown hlocks ht hN hP hK hD hS ls hl
  have hl : lv_has ls 6 [(0, .ref (b 0)), (1, .int (nI u)), (2, .int (nI pl)), (3, .int (bI bb)), (4, .int (mm))] := hl
  have hown : s.vm.findClass RX1 = some m.cls := hown
  refine lv_aload_n hx hb dX1_add_0 rfl (lv_at hl 0 rfl) ?_
  refine va_get (D := D) (ci := 1) (v := .int (nI (nT N))) (C := RX1) (T := TX1) (N := 2) hx hb ht inX1 hown hK hP 0 rfl rfl 1 (by decide) (ht _ wd101) (fun _ h9 => h9) rfl dX1_add_1 ?_
  refine xrS (As := [.int (nI (nT N))]) (rest := []) hx hb hml hown ht hN kS_X1_19 (r_X1_firstOf l D (nT N) h) ⟨by decide, by decide⟩ (fun k q h => by simp at h) (hK.sub (tys' := []) [] rfl) rfl hl.1 rfl (Nat.le_of_ble_eq_true rfl) dX1_add_4 ⟨Nat.zero_le _, Nat.zero_le _⟩ ?_
  refine lv_istore (lv' := [(5, .int (nI (fstT (nT N)))), (0, .ref (b 0)), (1, .int (nI u)), (2, .int (nI pl)), (3, .int (bI bb)), (4, .int (mm))]) hx hb dX1_add_7 hl (by decide) rfl (fun ls hl => ?_)
  refine lv_aload_n hx hb dX1_add_9 rfl (lv_at hl 1 rfl) ?_
  refine va_get (D := D) (ci := 1) (v := .ref (b 1)) (C := RX1) (T := TX1) (N := 2) hx hb ht inX1 hown hK hP 0 rfl rfl 0 (by decide) (ht _ wd100) (fun _ h9 => h9) rfl dX1_add_10 ?_
  refine lv_iload hx hb dX1_add_13 (lv_at hl 0 rfl) ?_
  refine lv_iload_n hx hb dX1_add_15 rfl (lv_at hl 2 rfl) ?_
  refine xa_iast hx hb hK hP hD hS 1 0 (i := (fstT (nT N))) (x := nI u) rfl rfl (by show nT N % 100 * 5 + 0 < 500; omega) (by decide) dX1_add_16 (fun H locs hP hD hS => ?_)
  have hP : va_P D vwCl [(b 0, .inr (1, [.ref (b 1), .int (nI (nT N))])), (b 1, .inl (cI, 500, .inl (upd (nRw N) (fstT (nT N)) (nI u))))] H := hP
  have hD : va_D (xA (wNt b cI N)) [(b 0, .inr (1, [.ref (b 1), .int (nI (nT N))])), (b 1, .inl (cI, 500, .inl (upd (nRw N) (fstT (nT N)) (nI u))))] := hD
  refine lv_aload_n hx hb dX1_add_17 rfl (lv_at hl 1 rfl) ?_
  refine va_get (D := D) (ci := 1) (v := .ref (b 1)) (C := RX1) (T := TX1) (N := 2) hx hb ht inX1 hown hK hP 0 rfl rfl 0 (by decide) (ht _ wd100) (fun _ h9 => h9) rfl dX1_add_18 ?_
  refine lv_iload hx hb dX1_add_21 (lv_at hl 0 rfl) ?_
  refine lv_iconst (v := nI 1) hx hb dX1_add_23 (by decide) ?_
  refine lv_iadd hx hb dX1_add_24 ?_
  refine xtop (y := nI (fstT (nT N) + 1)) (nI_add _ _) ?_
  refine lv_iload_n hx hb dX1_add_25 rfl (lv_at hl 3 rfl) ?_
  refine xrN (As := [.int (nI pl)]) (rest := [.int (nI (fstT (nT N) + 1)), .ref (b 1)]) hx hb hml hown ht hN kN_X1_23 (r_X3_pieceOf l D pl hp) ⟨by decide, by decide⟩ (fun k q h => by simp at h) (hK.sub (tys' := []) [] rfl) rfl hl.1 rfl (Nat.le_of_ble_eq_true rfl) dX1_add_26 ⟨Nat.zero_le _, Nat.zero_le _⟩ ?_
  refine xa_iast hx hb hK hP hD hS 1 0 (i := (fstT (nT N) + 1)) (x := nI (pl / 2)) rfl rfl (by show nT N % 100 * 5 + 1 < 500; omega) (by decide) dX1_add_29 (fun H locs hP hD hS => ?_)
  have hP : va_P D vwCl [(b 0, .inr (1, [.ref (b 1), .int (nI (nT N))])), (b 1, .inl (cI, 500, .inl (upd (upd (nRw N) (fstT (nT N)) (nI u)) (fstT (nT N) + 1) (nI (pl / 2)))))] H := hP
  have hD : va_D (xA (wNt b cI N)) [(b 0, .inr (1, [.ref (b 1), .int (nI (nT N))])), (b 1, .inl (cI, 500, .inl (upd (upd (nRw N) (fstT (nT N)) (nI u)) (fstT (nT N) + 1) (nI (pl / 2)))))] := hD
  refine lv_aload_n hx hb dX1_add_30 rfl (lv_at hl 1 rfl) ?_
  refine va_get (D := D) (ci := 1) (v := .ref (b 1)) (C := RX1) (T := TX1) (N := 2) hx hb ht inX1 hown hK hP 0 rfl rfl 0 (by decide) (ht _ wd100) (fun _ h9 => h9) rfl dX1_add_31 ?_
  refine lv_iload hx hb dX1_add_34 (lv_at hl 0 rfl) ?_
  refine lv_iconst (v := nI 2) hx hb dX1_add_36 (by decide) ?_
  refine lv_iadd hx hb dX1_add_37 ?_
  refine xtop (y := nI (fstT (nT N) + 2)) (nI_add _ _) ?_
  refine lv_iload_n hx hb dX1_add_38 rfl (lv_at hl 3 rfl) ?_
  refine xrN (As := [.int (nI pl)]) (rest := [.int (nI (fstT (nT N) + 2)), .ref (b 1)]) hx hb hml hown ht hN kN_X1_26 (r_X3_sideOf l D pl hp) ⟨by decide, by decide⟩ (fun k q h => by simp at h) (hK.sub (tys' := []) [] rfl) rfl hl.1 rfl (Nat.le_of_ble_eq_true rfl) dX1_add_39 ⟨Nat.zero_le _, Nat.zero_le _⟩ ?_
  refine xa_iast hx hb hK hP hD hS 1 0 (i := (fstT (nT N) + 2)) (x := nI (pl % 2 + 1)) rfl rfl (by show nT N % 100 * 5 + 2 < 500; omega) (by decide) dX1_add_42 (fun H locs hP hD hS => ?_)
  have hP : va_P D vwCl [(b 0, .inr (1, [.ref (b 1), .int (nI (nT N))])), (b 1, .inl (cI, 500, .inl (upd (upd (upd (nRw N) (fstT (nT N)) (nI u)) (fstT (nT N) + 1) (nI (pl / 2))) (fstT (nT N) + 2) (nI (pl % 2 + 1)))))] H := hP
  have hD : va_D (xA (wNt b cI N)) [(b 0, .inr (1, [.ref (b 1), .int (nI (nT N))])), (b 1, .inl (cI, 500, .inl (upd (upd (upd (nRw N) (fstT (nT N)) (nI u)) (fstT (nT N) + 1) (nI (pl / 2))) (fstT (nT N) + 2) (nI (pl % 2 + 1)))))] := hD
  refine lv_aload_n hx hb dX1_add_43 rfl (lv_at hl 1 rfl) ?_
  refine va_get (D := D) (ci := 1) (v := .ref (b 1)) (C := RX1) (T := TX1) (N := 2) hx hb ht inX1 hown hK hP 0 rfl rfl 0 (by decide) (ht _ wd100) (fun _ h9 => h9) rfl dX1_add_44 ?_
  refine lv_iload hx hb dX1_add_47 (lv_at hl 0 rfl) ?_
  refine lv_iconst (v := nI 3) hx hb dX1_add_49 (by decide) ?_
  refine lv_iadd hx hb dX1_add_50 ?_
  refine xtop (y := nI (fstT (nT N) + 3)) (nI_add _ _) ?_
  refine lv_iload_n hx hb dX1_add_51 rfl (lv_at hl 4 rfl) ?_
  refine lv_if_eq (tgt := 59) hx hb dX1_add_52 (by decide) (fun h_52 => ?_) (fun h_52 => ?_)
  · skip
    refine lv_iconst (v := nI 0) hx hb dX1_add_59 (by decide) ?_
    refine xa_iast hx hb hK hP hD hS 1 0 (i := (fstT (nT N) + 3)) (x := nI 0) rfl rfl (by show nT N % 100 * 5 + 3 < 500; omega) (by decide) dX1_add_60 (fun H locs hP hD hS => ?_)
    have hP : va_P D vwCl [(b 0, .inr (1, [.ref (b 1), .int (nI (nT N))])), (b 1, .inl (cI, 500, .inl (upd (upd (upd (upd (nRw N) (fstT (nT N)) (nI u)) (fstT (nT N) + 1) (nI (pl / 2))) (fstT (nT N) + 2) (nI (pl % 2 + 1))) (fstT (nT N) + 3) (nI 0))))] H := hP
    have hD : va_D (xA (wNt b cI N)) [(b 0, .inr (1, [.ref (b 1), .int (nI (nT N))])), (b 1, .inl (cI, 500, .inl (upd (upd (upd (upd (nRw N) (fstT (nT N)) (nI u)) (fstT (nT N) + 1) (nI (pl / 2))) (fstT (nT N) + 2) (nI (pl % 2 + 1))) (fstT (nT N) + 3) (nI 0))))] := hD
    refine lv_aload_n hx hb dX1_add_61 rfl (lv_at hl 1 rfl) ?_
    refine va_get (D := D) (ci := 1) (v := .ref (b 1)) (C := RX1) (T := TX1) (N := 2) hx hb ht inX1 hown hK hP 0 rfl rfl 0 (by decide) (ht _ wd100) (fun _ h9 => h9) rfl dX1_add_62 ?_
    refine lv_iload hx hb dX1_add_65 (lv_at hl 0 rfl) ?_
    refine lv_iconst (v := nI 4) hx hb dX1_add_67 (by decide) ?_
    refine lv_iadd hx hb dX1_add_68 ?_
    refine xtop (y := nI (fstT (nT N) + 4)) (nI_add _ _) ?_
    refine lv_iload hx hb dX1_add_69 (lv_at hl 5 rfl) ?_
    refine xa_iast hx hb hK hP hD hS 1 0 (i := (fstT (nT N) + 4)) (x := mm) rfl rfl (by show nT N % 100 * 5 + 4 < 500; omega) (by decide) dX1_add_71 (fun H locs hP hD hS => ?_)
    have hP : va_P D vwCl [(b 0, .inr (1, [.ref (b 1), .int (nI (nT N))])), (b 1, .inl (cI, 500, .inl (upd (upd (upd (upd (upd (nRw N) (fstT (nT N)) (nI u)) (fstT (nT N) + 1) (nI (pl / 2))) (fstT (nT N) + 2) (nI (pl % 2 + 1))) (fstT (nT N) + 3) (nI 0)) (fstT (nT N) + 4) mm)))] H := hP
    have hD : va_D (xA (wNt b cI N)) [(b 0, .inr (1, [.ref (b 1), .int (nI (nT N))])), (b 1, .inl (cI, 500, .inl (upd (upd (upd (upd (upd (nRw N) (fstT (nT N)) (nI u)) (fstT (nT N) + 1) (nI (pl / 2))) (fstT (nT N) + 2) (nI (pl % 2 + 1))) (fstT (nT N) + 3) (nI 0)) (fstT (nT N) + 4) mm)))] := hD
    refine lv_aload_n hx hb dX1_add_72 rfl (lv_at hl 1 rfl) ?_
    refine lv_dup hx hb dX1_add_73 rfl ?_
    refine va_get (D := D) (ci := 1) (v := .int (nI (nT N))) (C := RX1) (T := TX1) (N := 2) hx hb ht inX1 hown hK hP 0 rfl rfl 1 (by decide) (ht _ wd101) (fun _ h9 => h9) rfl dX1_add_74 ?_
    refine lv_iconst (v := nI 1) hx hb dX1_add_77 (by decide) ?_
    refine lv_iadd hx hb dX1_add_78 ?_
    refine xtop (y := nI (nT N + 1)) (nI_add _ _) ?_
    refine va_put (D := D) (ci := 1) (v := .int (nI (nT N + 1))) (ty := .int) (C := RX1) (T := TX1) (N := 2) hx hb ht inX1 tyX1 tyX1_ok nmX1 hown hK hP hD hS 0 rfl rfl 1 (by decide) (ht _ wd101) (fun _ h9 => h9) rfl (by decide +kernel) rfl rfl (Nat.le_of_ble_eq_true rfl) dX1_add_79 (fun H locs hP hD hS => ?_)
    have hP : va_P D vwCl [(b 0, .inr (1, [.ref (b 1), .int (nI (nT N + 1))])), (b 1, .inl (cI, 500, .inl (upd (upd (upd (upd (upd (nRw N) (fstT (nT N)) (nI u)) (fstT (nT N) + 1) (nI (pl / 2))) (fstT (nT N) + 2) (nI (pl % 2 + 1))) (fstT (nT N) + 3) (nI 0)) (fstT (nT N) + 4) mm)))] H := hP
    have hD : va_D (xA (wNt b cI N)) [(b 0, .inr (1, [.ref (b 1), .int (nI (nT N + 1))])), (b 1, .inl (cI, 500, .inl (upd (upd (upd (upd (upd (nRw N) (fstT (nT N)) (nI u)) (fstT (nT N) + 1) (nI (pl / 2))) (fstT (nT N) + 2) (nI (pl % 2 + 1))) (fstT (nT N) + 3) (nI 0)) (fstT (nT N) + 4) mm)))] := hD
    exact xw_vret hx hb hr hlocks hS (by first | (rw [bI_t h_52]; exact hP) | (rw [bI_f h_52]; exact hP)) dX1_add_82
  · skip
    refine lv_iconst (v := nI 1) hx hb dX1_add_55 (by decide) ?_
    refine lv_goto (tgt := 60) hx hb dX1_add_56 (by decide) ?_
    refine xa_iast hx hb hK hP hD hS 1 0 (i := (fstT (nT N) + 3)) (x := nI 1) rfl rfl (by show nT N % 100 * 5 + 3 < 500; omega) (by decide) dX1_add_60 (fun H locs hP hD hS => ?_)
    have hP : va_P D vwCl [(b 0, .inr (1, [.ref (b 1), .int (nI (nT N))])), (b 1, .inl (cI, 500, .inl (upd (upd (upd (upd (nRw N) (fstT (nT N)) (nI u)) (fstT (nT N) + 1) (nI (pl / 2))) (fstT (nT N) + 2) (nI (pl % 2 + 1))) (fstT (nT N) + 3) (nI 1))))] H := hP
    have hD : va_D (xA (wNt b cI N)) [(b 0, .inr (1, [.ref (b 1), .int (nI (nT N))])), (b 1, .inl (cI, 500, .inl (upd (upd (upd (upd (nRw N) (fstT (nT N)) (nI u)) (fstT (nT N) + 1) (nI (pl / 2))) (fstT (nT N) + 2) (nI (pl % 2 + 1))) (fstT (nT N) + 3) (nI 1))))] := hD
    refine lv_aload_n hx hb dX1_add_61 rfl (lv_at hl 1 rfl) ?_
    refine va_get (D := D) (ci := 1) (v := .ref (b 1)) (C := RX1) (T := TX1) (N := 2) hx hb ht inX1 hown hK hP 0 rfl rfl 0 (by decide) (ht _ wd100) (fun _ h9 => h9) rfl dX1_add_62 ?_
    refine lv_iload hx hb dX1_add_65 (lv_at hl 0 rfl) ?_
    refine lv_iconst (v := nI 4) hx hb dX1_add_67 (by decide) ?_
    refine lv_iadd hx hb dX1_add_68 ?_
    refine xtop (y := nI (fstT (nT N) + 4)) (nI_add _ _) ?_
    refine lv_iload hx hb dX1_add_69 (lv_at hl 5 rfl) ?_
    refine xa_iast hx hb hK hP hD hS 1 0 (i := (fstT (nT N) + 4)) (x := mm) rfl rfl (by show nT N % 100 * 5 + 4 < 500; omega) (by decide) dX1_add_71 (fun H locs hP hD hS => ?_)
    have hP : va_P D vwCl [(b 0, .inr (1, [.ref (b 1), .int (nI (nT N))])), (b 1, .inl (cI, 500, .inl (upd (upd (upd (upd (upd (nRw N) (fstT (nT N)) (nI u)) (fstT (nT N) + 1) (nI (pl / 2))) (fstT (nT N) + 2) (nI (pl % 2 + 1))) (fstT (nT N) + 3) (nI 1)) (fstT (nT N) + 4) mm)))] H := hP
    have hD : va_D (xA (wNt b cI N)) [(b 0, .inr (1, [.ref (b 1), .int (nI (nT N))])), (b 1, .inl (cI, 500, .inl (upd (upd (upd (upd (upd (nRw N) (fstT (nT N)) (nI u)) (fstT (nT N) + 1) (nI (pl / 2))) (fstT (nT N) + 2) (nI (pl % 2 + 1))) (fstT (nT N) + 3) (nI 1)) (fstT (nT N) + 4) mm)))] := hD
    refine lv_aload_n hx hb dX1_add_72 rfl (lv_at hl 1 rfl) ?_
    refine lv_dup hx hb dX1_add_73 rfl ?_
    refine va_get (D := D) (ci := 1) (v := .int (nI (nT N))) (C := RX1) (T := TX1) (N := 2) hx hb ht inX1 hown hK hP 0 rfl rfl 1 (by decide) (ht _ wd101) (fun _ h9 => h9) rfl dX1_add_74 ?_
    refine lv_iconst (v := nI 1) hx hb dX1_add_77 (by decide) ?_
    refine lv_iadd hx hb dX1_add_78 ?_
    refine xtop (y := nI (nT N + 1)) (nI_add _ _) ?_
    refine va_put (D := D) (ci := 1) (v := .int (nI (nT N + 1))) (ty := .int) (C := RX1) (T := TX1) (N := 2) hx hb ht inX1 tyX1 tyX1_ok nmX1 hown hK hP hD hS 0 rfl rfl 1 (by decide) (ht _ wd101) (fun _ h9 => h9) rfl (by decide +kernel) rfl rfl (Nat.le_of_ble_eq_true rfl) dX1_add_79 (fun H locs hP hD hS => ?_)
    have hP : va_P D vwCl [(b 0, .inr (1, [.ref (b 1), .int (nI (nT N + 1))])), (b 1, .inl (cI, 500, .inl (upd (upd (upd (upd (upd (nRw N) (fstT (nT N)) (nI u)) (fstT (nT N) + 1) (nI (pl / 2))) (fstT (nT N) + 2) (nI (pl % 2 + 1))) (fstT (nT N) + 3) (nI 1)) (fstT (nT N) + 4) mm)))] H := hP
    have hD : va_D (xA (wNt b cI N)) [(b 0, .inr (1, [.ref (b 1), .int (nI (nT N + 1))])), (b 1, .inl (cI, 500, .inl (upd (upd (upd (upd (upd (nRw N) (fstT (nT N)) (nI u)) (fstT (nT N) + 1) (nI (pl / 2))) (fstT (nT N) + 2) (nI (pl % 2 + 1))) (fstT (nT N) + 3) (nI 1)) (fstT (nT N) + 4) mm)))] := hD
    exact xw_vret hx hb hr hlocks hS (by first | (rw [bI_t h_52]; exact hP) | (rw [bI_f h_52]; exact hP)) dX1_add_82
set_option maxHeartbeats 4000000 in
set_option maxRecDepth 100000 in
theorem r_X2_empty (l : Launch) (D : va_G) (b : Nat → Nat) (cI cZ : ClassId) (R : RS) (u : Nat) (hu : u < 10) : xWR l yX2_empty cX2_empty 2 none (xrm 0 0) [.ref (b 0), .int (nI u)] D (wR b cI R) (tyL cI cZ) none (wR b cI (emptyR R u)) := by
  refine xWR.of (by decide +kernel) (Nat.le_of_ble_eq_true rfl) ?_
  intro p e s m args below meth cd hx hb hr hml hown hlocks ht hN hP hK hD hS ls hl
  have hl : lv_has ls 2 [(0, .ref (b 0)), (1, .int (nI u))] := hl
  have hown : s.vm.findClass RX2 = some m.cls := hown
  refine lv_aload_n hx hb dX2_empty_0 rfl (lv_at hl 0 rfl) ?_
  refine va_get (D := D) (ci := 2) (v := .ref (b 2)) (C := RX2) (T := TX2) (N := 2) hx hb ht inX2 hown hK hP 0 rfl rfl 1 (by decide) (ht _ wd88) (fun _ h9 => h9) rfl dX2_empty_1 ?_
  refine lv_iload_n hx hb dX2_empty_4 rfl (lv_at hl 1 rfl) ?_
  refine lv_iconst (v := nI 0) hx hb dX2_empty_5 (by decide) ?_
  refine xa_iast hx hb hK hP hD hS 2 0 (i := u) (x := nI 0) rfl rfl (by omega) (by decide) dX2_empty_6 (fun H locs hP hD hS => ?_)
  have hP : va_P D vwCl [(b 0, .inr (2, [.ref (b 1), .ref (b 2)])), (b 1, .inl (cI, 120, .inl (nF (rP R)))), (b 2, .inl (cI, 10, .inl (upd (nF (rL R)) u (nI 0))))] H := hP
  have hD : va_D (xA (wR b cI R)) [(b 0, .inr (2, [.ref (b 1), .ref (b 2)])), (b 1, .inl (cI, 120, .inl (nF (rP R)))), (b 2, .inl (cI, 10, .inl (upd (nF (rL R)) u (nI 0))))] := hD
  exact xw_vret hx hb hr hlocks hS (by rw [nF_upd] at hP; exact hP) dX2_empty_7
set_option maxHeartbeats 4000000 in
set_option maxRecDepth 100000 in
theorem r_X2_isFull (l : Launch) (D : va_G) (b : Nat → Nat) (cI cZ : ClassId) (R : RS) (hR : rOk R) (u : Nat) (hu : u < 10) : xRO l yX2_isFull cX2_isFull 2 (some .boolean) (xrm 0 0) [.ref (b 0), .int (nI u)] D (wR b cI R) (tyL cI cZ) (bI (decide (12 ≤ rL R u))) := by
  refine xRO.of (by decide +kernel) (Nat.le_of_ble_eq_true rfl) ?_
  intro p e s m args below meth cd hx hb hr hml hown hlocks ht hN hP hK ls hl
  have hl : lv_has ls 2 [(0, .ref (b 0)), (1, .int (nI u))] := hl
  have hown : s.vm.findClass RX2 = some m.cls := hown
  have hk := (hR u hu).1
  refine lv_aload_n hx hb dX2_isFull_0 rfl (lv_at hl 0 rfl) ?_
  refine va_get (D := D) (ci := 2) (v := .ref (b 2)) (C := RX2) (T := TX2) (N := 2) hx hb ht inX2 hown hK hP 0 rfl rfl 1 (by decide) (ht _ wd88) (fun _ h9 => h9) rfl dX2_isFull_1 ?_
  refine lv_iload_n hx hb dX2_isFull_4 rfl (lv_at hl 1 rfl) ?_
  refine xa_iald hx hb hK hP 2 0 (i := u) rfl rfl (by omega) (by decide) dX2_isFull_5 ?_
  refine lv_bipush (v := nI 12) hx hb dX2_isFull_6 (by decide) ?_
  refine lv_icmp_lt (tgt := 15) hx hb dX2_isFull_8 (by decide) (fun h_8 => ?_) (fun h_8 => ?_)
  · skip
    have h_8 : (rL R u) < 12 := (nI_ltI (by omega) (by omega)).mp h_8
    refine lv_iconst (v := nI 0) hx hb dX2_isFull_15 (by decide) ?_
    exact xr_zret (v := nI 0) hx hb hr hlocks (by first | rfl | exact bI_nar _) (bI_0 (decide_eq_false (by omega))) dX2_isFull_16
  · skip
    have h_8 : ¬ ((rL R u) < 12) := fun z => h_8 ((nI_ltI (by omega) (by omega)).mpr z)
    refine lv_iconst (v := nI 1) hx hb dX2_isFull_11 (by decide) ?_
    refine lv_goto (tgt := 16) hx hb dX2_isFull_12 (by decide) ?_
    exact xr_zret (v := nI 1) hx hb hr hlocks (by first | rfl | exact bI_nar _) (bI_1 (decide_eq_true (by omega))) dX2_isFull_16
set_option maxHeartbeats 4000000 in
set_option maxRecDepth 100000 in
theorem r_X2_length (l : Launch) (D : va_G) (b : Nat → Nat) (cI cZ : ClassId) (R : RS) (u : Nat) (hu : u < 10) : xRO l yX2_length cX2_length 2 (some .int) (xrm 0 0) [.ref (b 0), .int (nI u)] D (wR b cI R) (tyL cI cZ) (nI (rL R u)) := by
  refine xRO.of (by decide +kernel) (Nat.le_of_ble_eq_true rfl) ?_
  intro p e s m args below meth cd hx hb hr hml hown hlocks ht hN hP hK ls hl
  have hl : lv_has ls 2 [(0, .ref (b 0)), (1, .int (nI u))] := hl
  have hown : s.vm.findClass RX2 = some m.cls := hown
  refine lv_aload_n hx hb dX2_length_0 rfl (lv_at hl 0 rfl) ?_
  refine va_get (D := D) (ci := 2) (v := .ref (b 2)) (C := RX2) (T := TX2) (N := 2) hx hb ht inX2 hown hK hP 0 rfl rfl 1 (by decide) (ht _ wd88) (fun _ h9 => h9) rfl dX2_length_1 ?_
  refine lv_iload_n hx hb dX2_length_4 rfl (lv_at hl 1 rfl) ?_
  refine xa_iald hx hb hK hP 2 0 (i := u) rfl rfl (by omega) (by decide) dX2_length_5 ?_
  exact xr_iret (v := nI (rL R u)) hx hb hr hlocks (rfl) dX2_length_6
set_option maxHeartbeats 4000000 in
set_option maxRecDepth 100000 in
theorem r_X2_stepOf (l : Launch) (D : va_G) (b : Nat → Nat) (cI cZ : ClassId) (R : RS) (u n : Nat) (hu : u * 12 + n < 120) : xRO l yX2_stepOf cX2_stepOf 3 (some .int) (xrm 0 0) [.ref (b 0), .int (nI u), .int (nI n)] D (wR b cI R) (tyL cI cZ) (nI (rP R (u * 12 + n))) := by
  refine xRO.of (by decide +kernel) (Nat.le_of_ble_eq_true rfl) ?_
  intro p e s m args below meth cd hx hb hr hml hown hlocks ht hN hP hK ls hl
  have hl : lv_has ls 3 [(0, .ref (b 0)), (1, .int (nI u)), (2, .int (nI n))] := hl
  have hown : s.vm.findClass RX2 = some m.cls := hown
  refine lv_aload_n hx hb dX2_stepOf_0 rfl (lv_at hl 0 rfl) ?_
  refine va_get (D := D) (ci := 2) (v := .ref (b 1)) (C := RX2) (T := TX2) (N := 2) hx hb ht inX2 hown hK hP 0 rfl rfl 0 (by decide) (ht _ wd87) (fun _ h9 => h9) rfl dX2_stepOf_1 ?_
  refine lv_iload_n hx hb dX2_stepOf_4 rfl (lv_at hl 1 rfl) ?_
  refine lv_bipush (v := nI 12) hx hb dX2_stepOf_5 (by decide) ?_
  refine lv_imul hx hb dX2_stepOf_7 ?_
  refine xtop (y := nI (u * 12)) (pk_mul _ _) ?_
  refine lv_iload_n hx hb dX2_stepOf_8 rfl (lv_at hl 2 rfl) ?_
  refine lv_iadd hx hb dX2_stepOf_9 ?_
  refine xtop (y := nI (u * 12 + n)) (nI_add _ _) ?_
  refine xa_iald hx hb hK hP 1 0 (i := (u * 12 + n)) rfl rfl (by omega) (by decide) dX2_stepOf_10 ?_
  exact xr_iret (v := nI (rP R (u * 12 + n))) hx hb hr hlocks (rfl) dX2_stepOf_11
set_option maxHeartbeats 4000000 in
set_option maxRecDepth 100000 in
theorem r_X2_add (l : Launch) (D : va_G) (b : Nat → Nat) (cI cZ : ClassId) (R : RS) (u pl : Nat) (hu : u < 10) (hl12 : rL R u < 12) : xWR l yX2_add cX2_add 3 (some .int) (xrm 0 0) [.ref (b 0), .int (nI u), .int (nI pl)] D (wR b cI R) (tyL cI cZ) (some (.int (nI (rL R u + 1)))) (wR b cI (stepR R u pl)) := by
  refine xWR.of (by decide +kernel) (Nat.le_of_ble_eq_true rfl) ?_
  intro p e s m args below meth cd hx hb hr hml hown hlocks ht hN hP hK hD hS ls hl
  have hl : lv_has ls 3 [(0, .ref (b 0)), (1, .int (nI u)), (2, .int (nI pl))] := hl
  have hown : s.vm.findClass RX2 = some m.cls := hown
  refine lv_aload_n hx hb dX2_add_0 rfl (lv_at hl 0 rfl) ?_
  refine va_get (D := D) (ci := 2) (v := .ref (b 1)) (C := RX2) (T := TX2) (N := 2) hx hb ht inX2 hown hK hP 0 rfl rfl 0 (by decide) (ht _ wd87) (fun _ h9 => h9) rfl dX2_add_1 ?_
  refine lv_iload_n hx hb dX2_add_4 rfl (lv_at hl 1 rfl) ?_
  refine lv_bipush (v := nI 12) hx hb dX2_add_5 (by decide) ?_
  refine lv_imul hx hb dX2_add_7 ?_
  refine xtop (y := nI (u * 12)) (pk_mul _ _) ?_
  refine lv_aload_n hx hb dX2_add_8 rfl (lv_at hl 0 rfl) ?_
  refine va_get (D := D) (ci := 2) (v := .ref (b 2)) (C := RX2) (T := TX2) (N := 2) hx hb ht inX2 hown hK hP 0 rfl rfl 1 (by decide) (ht _ wd88) (fun _ h9 => h9) rfl dX2_add_9 ?_
  refine lv_iload_n hx hb dX2_add_12 rfl (lv_at hl 1 rfl) ?_
  refine xa_iald hx hb hK hP 2 0 (i := u) rfl rfl (by omega) (by decide) dX2_add_13 ?_
  refine lv_iadd hx hb dX2_add_14 ?_
  refine xtop (y := nI (u * 12 + rL R u)) (nI_add _ _) ?_
  refine lv_iload_n hx hb dX2_add_15 rfl (lv_at hl 2 rfl) ?_
  refine xa_iast hx hb hK hP hD hS 1 0 (i := (u * 12 + rL R u)) (x := nI pl) rfl rfl (by omega) (by decide) dX2_add_16 (fun H locs hP hD hS => ?_)
  have hP : va_P D vwCl [(b 0, .inr (2, [.ref (b 1), .ref (b 2)])), (b 1, .inl (cI, 120, .inl (upd (nF (rP R)) (u * 12 + rL R u) (nI pl)))), (b 2, .inl (cI, 10, .inl (nF (rL R))))] H := hP
  have hD : va_D (xA (wR b cI R)) [(b 0, .inr (2, [.ref (b 1), .ref (b 2)])), (b 1, .inl (cI, 120, .inl (upd (nF (rP R)) (u * 12 + rL R u) (nI pl)))), (b 2, .inl (cI, 10, .inl (nF (rL R))))] := hD
  refine lv_aload_n hx hb dX2_add_17 rfl (lv_at hl 0 rfl) ?_
  refine va_get (D := D) (ci := 2) (v := .ref (b 2)) (C := RX2) (T := TX2) (N := 2) hx hb ht inX2 hown hK hP 0 rfl rfl 1 (by decide) (ht _ wd88) (fun _ h9 => h9) rfl dX2_add_18 ?_
  refine lv_iload_n hx hb dX2_add_21 rfl (lv_at hl 1 rfl) ?_
  refine lv_dup2_11 hx hb dX2_add_22 rfl rfl ?_
  refine xa_iald hx hb hK hP 2 0 (i := u) rfl rfl (by omega) (by decide) dX2_add_23 ?_
  refine lv_iconst (v := nI 1) hx hb dX2_add_24 (by decide) ?_
  refine lv_iadd hx hb dX2_add_25 ?_
  refine xtop (y := nI (rL R u + 1)) (nI_add _ _) ?_
  refine xa_iast hx hb hK hP hD hS 2 0 (i := u) (x := nI (rL R u + 1)) rfl rfl (by omega) (by decide) dX2_add_26 (fun H locs hP hD hS => ?_)
  have hP : va_P D vwCl [(b 0, .inr (2, [.ref (b 1), .ref (b 2)])), (b 1, .inl (cI, 120, .inl (upd (nF (rP R)) (u * 12 + rL R u) (nI pl)))), (b 2, .inl (cI, 10, .inl (upd (nF (rL R)) u (nI (rL R u + 1)))))] H := hP
  have hD : va_D (xA (wR b cI R)) [(b 0, .inr (2, [.ref (b 1), .ref (b 2)])), (b 1, .inl (cI, 120, .inl (upd (nF (rP R)) (u * 12 + rL R u) (nI pl)))), (b 2, .inl (cI, 10, .inl (upd (nF (rL R)) u (nI (rL R u + 1)))))] := hD
  refine lv_aload_n hx hb dX2_add_27 rfl (lv_at hl 0 rfl) ?_
  refine va_get (D := D) (ci := 2) (v := .ref (b 2)) (C := RX2) (T := TX2) (N := 2) hx hb ht inX2 hown hK hP 0 rfl rfl 1 (by decide) (ht _ wd88) (fun _ h9 => h9) rfl dX2_add_28 ?_
  refine lv_iload_n hx hb dX2_add_31 rfl (lv_at hl 1 rfl) ?_
  refine xa_iald hx hb hK hP 2 0 (i := u) rfl rfl (by omega) (by decide) dX2_add_32 ?_
  refine xtop (y := nI (rL R u + 1)) (pk_us) ?_
  exact xw_iret (v := nI (rL R u + 1)) hx hb hr hlocks hS (by rw [nF_upd, nF_upd] at hP; exact hP) (rfl) dX2_add_33
set_option maxHeartbeats 4000000 in
set_option maxRecDepth 100000 in
theorem r_X2_leadsOver (l : Launch) (D : va_G) (b : Nat → Nat) (cI cZ : ClassId) (R : RS) (hR : rOk R) (u : Nat) (hu : u < 10) (pl : Nat) (hp : pl < 120) : xRO l yX2_leadsOver cX2_leadsOver 4 (some .boolean) (xrm 1 22) [.ref (b 0), .int (nI u), .int (nI pl)] D (wR b cI R) (tyL cI cZ) (bI (hasR R u pl)) := by
  refine xRO.of (by decide +kernel) (Nat.le_of_ble_eq_true rfl) ?_
  intro p e s m args below meth cd hx hb hr hml hown hlocks ht hN hP hK ls hl
  have hl : lv_has ls 4 [(0, .ref (b 0)), (1, .int (nI u)), (2, .int (nI pl))] := hl
  have hown : s.vm.findClass RX2 = some m.cls := hown
  have hk := (hR u hu).1
  have hq := (hR u hu).2
  have L2 : ∀ (n : Nat) (k : Nat), rL R u < k + n → k ≤ rL R u → anyN (fun k => decide (rP R (u * 12 + k) = pl)) k = false → ∀ ls : Array Slot, lv_has ls 4 [(0, .ref (b 0)), (1, .int (nI u)), (2, .int (nI pl)), (3, .int (nI k))] → W p l e (xrm 1 22) s m args below meth cd s.heap [] 0 0 (MQ below (QcRead (bI (hasR R u pl))) args s 0 0 (fun _ => False)) (F0 m 2 ls []) := by
    intro n
    induction n with
    | zero =>
      intro k hfuel hi hv
      exact absurd hfuel (by omega)
    | succ n ih2 =>
      intro k hfuel hi hv ls hl
      refine lv_iload_n hx hb dX2_leadsOver_2 rfl (lv_at hl 3 rfl) ?_
      refine lv_aload_n hx hb dX2_leadsOver_3 rfl (lv_at hl 0 rfl) ?_
      refine va_get (D := D) (ci := 2) (v := .ref (b 2)) (C := RX2) (T := TX2) (N := 2) hx hb ht inX2 hown hK hP 0 rfl rfl 1 (by decide) (ht _ wd88) (fun _ h9 => h9) rfl dX2_leadsOver_4 ?_
      refine lv_iload_n hx hb dX2_leadsOver_7 rfl (lv_at hl 1 rfl) ?_
      refine xa_iald hx hb hK hP 2 0 (i := u) rfl rfl (by omega) (by decide) dX2_leadsOver_8 ?_
      refine lv_icmp_ge (tgt := 30) hx hb dX2_leadsOver_9 (by decide) (fun h_9 => ?_) (fun h_9 => ?_)
      · skip
        have h_9 : (rL R u) ≤ k := (nI_leI (by omega) (by omega)).mp h_9
        refine lv_iconst (v := nI 0) hx hb dX2_leadsOver_30 (by decide) ?_
        exact xr_zret (v := nI 0) hx hb hr hlocks (by first | rfl | exact bI_nar _) (bI_0 (by rw [hasR, show rL R u = k by omega]; exact hv)) dX2_leadsOver_31
      · skip
        have h_9 : ¬ ((rL R u) ≤ k) := fun z => h_9 ((nI_leI (by omega) (by omega)).mpr z)
        have hk9 := hq k (by omega)
        refine lv_aload_n hx hb dX2_leadsOver_12 rfl (lv_at hl 0 rfl) ?_
        refine lv_iload_n hx hb dX2_leadsOver_13 rfl (lv_at hl 1 rfl) ?_
        refine lv_iload_n hx hb dX2_leadsOver_14 rfl (lv_at hl 3 rfl) ?_
        refine xrV (As := [.int (nI u), .int (nI k)]) (rest := []) hx hb hml hown ht hN kV_X2_18 (r_X2_stepOf l D b cI cZ R u k (by omega)) ⟨by decide, by decide⟩ hP hK rfl rfl rfl rfl hl.1 rfl (Nat.le_of_ble_eq_true rfl) dX2_leadsOver_15 ⟨Nat.zero_le _, Nat.zero_le _⟩ ?_
        refine lv_iload_n hx hb dX2_leadsOver_18 rfl (lv_at hl 2 rfl) ?_
        refine lv_icmp_ne (tgt := 24) hx hb dX2_leadsOver_19 (by decide) (fun h_19 => ?_) (fun h_19 => ?_)
        · skip
          have h_19 : ¬ ((rP R (u * 12 + k)) = pl) := fun z => h_19 ((nI_eq (by omega) (by omega)).mpr z)
          refine lv_iinc (v := nI (k + 1)) (lv' := [(3, .int (nI (k + 1))), (0, .ref (b 0)), (1, .int (nI u)), (2, .int (nI pl))]) hx hb dX2_leadsOver_24 hl (k := 3) rfl (nI_1 _) (by decide) rfl (fun ls hl => ?_)
          refine lv_goto (tgt := 2) hx hb dX2_leadsOver_27 (by decide) ?_
          exact ih2 (k + 1) (by omega) (by omega) (by rw [anyN, hv, decide_eq_false h_19]; rfl) ls (lv_sub hl [1, 2, 3, 0] rfl)
        · skip
          have h_19 : (rP R (u * 12 + k)) = pl := (nI_eq (by omega) (by omega)).mp h_19
          refine lv_iconst (v := nI 1) hx hb dX2_leadsOver_22 (by decide) ?_
          exact xr_zret (v := nI 1) hx hb hr hlocks (by first | rfl | exact bI_nar _) (bI_1 (anyN_of (c := k) (by omega) (decide_eq_true h_19))) dX2_leadsOver_23
  refine lv_iconst (v := nI 0) hx hb dX2_leadsOver_0 (by decide) ?_
  refine lv_istore_n (lv' := [(3, .int (nI 0)), (0, .ref (b 0)), (1, .int (nI u)), (2, .int (nI pl))]) hx hb dX2_leadsOver_1 rfl hl (by decide) rfl (fun ls hl => ?_)
  exact L2 (rL R u + 1) 0 (by omega) (by omega) rfl ls (lv_sub hl [1, 2, 3, 0] rfl)
end
section
theorem kV_X3_197 : xcV RX3 RX2 197 yX2_leadsOver cX2_leadsOver 4 (some .boolean) 2 := ⟨wd319, wd316, wd317, wd318, wd23, rfl, ⟨by decide +kernel, by decide +kernel, by decide +kernel⟩⟩
theorem kV_X3_200 : xcV RX3 RX1 200 yX1_add cX1_add 6 none 4 := ⟨wd327, wd324, wd325, wd326, wd24, rfl, ⟨by decide +kernel, by decide +kernel, by decide +kernel⟩⟩
set_option maxHeartbeats 4000000 in
set_option maxRecDepth 100000 in
theorem r_X3_tellUnits (l : Launch) (D : va_G) (a : Nat → Nat) (cI cZ : ClassId) (C : CS) (hR : rOk (cR C)) (pl : Nat) (hp : pl < 120) (hT : nT (cN C) + 10 < 2 ^ 31) : xWR l yX3_tellUnits cX3_tellUnits 3 none (xrm 3 67) [.ref (a 17), .int (nI pl)] D (wC a cI cZ C) (tyL cI cZ) none (wC a cI cZ (setCN C (tellN (cR C) pl (cM C pl) (nI (cT C)) (cN C) 10))) := by
  refine xWR.of (by decide +kernel) (Nat.le_of_ble_eq_true rfl) ?_
  intro p e s m args below meth cd hx hb hr hml hown hlocks ht hN hP hK hD hS ls hl
  have hl : lv_has ls 3 [(0, .ref (a 17)), (1, .int (nI pl))] := hl
  have hown : s.vm.findClass RX3 = some m.cls := hown
  have L2 : ∀ (n : Nat) (u : Nat), 10 < u + n → u ≤ 10 → ∀ (H : Heap) (locs : List Loc), va_P D vwCl (wC a cI cZ (setCN C (tellN (cR C) pl (cM C pl) (nI (cT C)) (cN C) u))) H → va_D (xA (wC a cI cZ C)) (wC a cI cZ (setCN C (tellN (cR C) pl (cM C pl) (nI (cT C)) (cN C) u))) → va_S (xA (wC a cI cZ C)) s.heap H locs → ∀ ls : Array Slot, lv_has ls 3 [(0, .ref (a 17)), (1, .int (nI pl)), (2, .int (nI u))] → W p l e (xrm 3 67) s m args below meth cd H locs 0 0 (MQ below (xQw none D (wC a cI cZ C) (wC a cI cZ (setCN C (tellN (cR C) pl (cM C pl) (nI (cT C)) (cN C) 10)))) args s 0 0 (xA (wC a cI cZ C))) (F0 m 2 ls []) := by
    intro n
    induction n with
    | zero =>
      intro u hfuel hi
      exact absurd hfuel (by omega)
    | succ n ih2 =>
      intro u hfuel hi H locs hP hD hS ls hl
      have hle := (tellN_le (cR C) pl (cM C pl) (nI (cT C)) (cN C) u).2
      refine lv_iload_n hx hb dX3_tellUnits_2 rfl (lv_at hl 2 rfl) ?_
      refine lv_bipush (v := nI 10) hx hb dX3_tellUnits_3 (by decide) ?_
      refine lv_icmp_ge (tgt := 45) hx hb dX3_tellUnits_5 (by decide) (fun h_5 => ?_) (fun h_5 => ?_)
      · skip
        have h_5 : 10 ≤ u := (nI_leI (by omega) (by omega)).mp h_5
        exact xw_vret hx hb hr hlocks hS (by rw [show u = 10 by omega] at hP; exact hP) dX3_tellUnits_45
      · skip
        have h_5 : ¬ (10 ≤ u) := fun z => h_5 ((nI_leI (by omega) (by omega)).mpr z)
        refine lv_aload_n hx hb dX3_tellUnits_8 rfl (lv_at hl 0 rfl) ?_
        refine va_get (D := D) (ci := 3) (v := .ref (a 10)) (C := RX3) (T := TX3) (N := 6) hx hb ht inX3 hown hK hP 0 rfl rfl 1 (by decide) (ht _ wd108) (fun _ h9 => h9) rfl dX3_tellUnits_9 ?_
        refine lv_iload_n hx hb dX3_tellUnits_12 rfl (lv_at hl 2 rfl) ?_
        refine lv_iload_n hx hb dX3_tellUnits_13 rfl (lv_at hl 1 rfl) ?_
        refine xrV (As := [.int (nI u), .int (nI pl)]) (rest := []) hx hb hml hown ht hN kV_X3_197 (r_X2_leadsOver l D (fun i => a (10 + i)) cI cZ (cR C) hR u (by omega) pl hp) ⟨by decide, by decide⟩ (hP.sub (ws' := (wR (fun i => a (10 + i)) cI (cR C))) [11, 12, 13] rfl) hK rfl rfl rfl rfl hl.1 rfl (Nat.le_of_ble_eq_true rfl) dX3_tellUnits_14 ⟨Nat.zero_le _, Nat.zero_le _⟩ ?_
        refine lv_if_eq (tgt := 39) hx hb dX3_tellUnits_17 (by decide) (fun h_17 => ?_) (fun h_17 => ?_)
        · skip
          refine lv_iinc (v := nI (u + 1)) (lv' := [(2, .int (nI (u + 1))), (0, .ref (a 17)), (1, .int (nI pl))]) hx hb dX3_tellUnits_39 hl (k := 2) rfl (nI_1 _) (by decide) rfl (fun ls hl => ?_)
          refine lv_goto (tgt := 2) hx hb dX3_tellUnits_42 (by decide) ?_
          exact ih2 (u + 1) (by omega) (by omega) _ _ (by rw [tellN]; first | (rw [if_pos (bI_t h_17)]; exact hP) | (rw [if_neg (by rw [bI_f h_17]; decide)]; exact hP)) (xD_addr hD rfl) hS ls (lv_sub hl [1, 2, 0] rfl)
        · skip
          refine lv_aload_n hx hb dX3_tellUnits_20 rfl (lv_at hl 0 rfl) ?_
          refine va_get (D := D) (ci := 3) (v := .ref (a 13)) (C := RX3) (T := TX3) (N := 6) hx hb ht inX3 hown hK hP 0 rfl rfl 2 (by decide) (ht _ wd109) (fun _ h9 => h9) rfl dX3_tellUnits_21 ?_
          refine lv_iload_n hx hb dX3_tellUnits_24 rfl (lv_at hl 2 rfl) ?_
          refine lv_iload_n hx hb dX3_tellUnits_25 rfl (lv_at hl 1 rfl) ?_
          refine lv_aload_n hx hb dX3_tellUnits_26 rfl (lv_at hl 0 rfl) ?_
          refine va_get (D := D) (ci := 3) (v := .ref (a 16)) (C := RX3) (T := TX3) (N := 6) hx hb ht inX3 hown hK hP 0 rfl rfl 4 (by decide) (ht _ wd111) (fun _ h9 => h9) rfl dX3_tellUnits_27 ?_
          refine lv_iload_n hx hb dX3_tellUnits_30 rfl (lv_at hl 1 rfl) ?_
          refine xa_zald hx hb hK hP 17 1 (i := pl) rfl rfl (by omega) (by decide) dX3_tellUnits_31 ?_
          refine lv_aload_n hx hb dX3_tellUnits_32 rfl (lv_at hl 0 rfl) ?_
          refine va_get (D := D) (ci := 3) (v := .int (nI (cT (setCN C (tellN (cR C) pl (cM C pl) (nI (cT C)) (cN (setCN C (tellN (cR C) pl (cM C pl) (nI (cT C)) (cN C) u))) u))))) (C := RX3) (T := TX3) (N := 6) hx hb ht inX3 hown hK hP 0 rfl rfl 5 (by decide) (ht _ wd112) (fun _ h9 => h9) rfl dX3_tellUnits_33 ?_
          refine xwV (As := [.int (nI u), .int (nI pl), .int (bI ((cM (setCN C (tellN (cR C) pl (cM C pl) (nI (cT C)) (cN C) u))) pl)), .int (nI (cT (setCN C (tellN (cR C) pl (cM C pl) (nI (cT C)) (cN (setCN C (tellN (cR C) pl (cM C pl) (nI (cT C)) (cN C) u))) u))))]) (rest := []) (wr := [(a 17, .inr (3, [.ref (a 0), .ref (a 10), .ref (a 13), .ref (a 15), .ref (a 16), .int (nI (cT (setCN C (tellN (cR C) pl (cM C pl) (nI (cT C)) (cN (setCN C (tellN (cR C) pl (cM C pl) (nI (cT C)) (cN C) u))) u))))])), (a 0, .inr (0, [.ref (a 1), .ref (a 2), .ref (a 3), .ref (a 4), .ref (a 5), .ref (a 6), .ref (a 7), .ref (a 8), .ref (a 9), .int (nI (kN (cK (setCN C (tellN (cR C) pl (cM C pl) (nI (cT C)) (cN (setCN C (tellN (cR C) pl (cM C pl) (nI (cT C)) (cN C) u))) u)))))])), (a 1, .inl (cI, 100, .inl (kKd (cK (setCN C (tellN (cR C) pl (cM C pl) (nI (cT C)) (cN C) u)))))), (a 2, .inl (cI, 100, .inl (kPc (cK (setCN C (tellN (cR C) pl (cM C pl) (nI (cT C)) (cN C) u)))))), (a 3, .inl (cI, 100, .inl (kSd (cK (setCN C (tellN (cR C) pl (cM C pl) (nI (cT C)) (cN C) u)))))), (a 4, .inl (cI, 100, .inl (kSt (cK (setCN C (tellN (cR C) pl (cM C pl) (nI (cT C)) (cN C) u)))))), (a 5, .inl (cI, 100, .inl (kEn (cK (setCN C (tellN (cR C) pl (cM C pl) (nI (cT C)) (cN C) u)))))), (a 6, .inl (cI, 100, .inl (kXs (cK (setCN C (tellN (cR C) pl (cM C pl) (nI (cT C)) (cN C) u)))))), (a 7, .inl (cI, 100, .inl (kAn (cK (setCN C (tellN (cR C) pl (cM C pl) (nI (cT C)) (cN C) u)))))), (a 8, .inl (cI, 100, .inl (kWd (cK (setCN C (tellN (cR C) pl (cM C pl) (nI (cT C)) (cN C) u)))))), (a 9, .inl (cZ, 20, .inl (kIc (cK (setCN C (tellN (cR C) pl (cM C pl) (nI (cT C)) (cN C) u)))))), (a 10, .inr (2, [.ref (a 11), .ref (a 12)])), (a 11, .inl (cI, 120, .inl (nF (rP (cR (setCN C (tellN (cR C) pl (cM C pl) (nI (cT C)) (cN C) u))))))), (a 12, .inl (cI, 10, .inl (nF (rL (cR (setCN C (tellN (cR C) pl (cM C pl) (nI (cT C)) (cN C) u))))))), (a 15, .inl (cZ, 120, .inl (bF (cW (setCN C (tellN (cR C) pl (cM C pl) (nI (cT C)) (cN C) u)))))), (a 16, .inl (cZ, 120, .inl (bF (cM (setCN C (tellN (cR C) pl (cM C pl) (nI (cT C)) (cN C) u))))))]) (ws2 := (wC a cI cZ (setCN C (noteN (tellN (cR C) pl (cM C pl) (nI (cT C)) (cN C) u) u pl (cM C pl) (nI (cT C)))))) hx hb hml hown ht hN kV_X3_200 (r_X1_add l D (fun i => a (13 + i)) cI cZ (tellN (cR C) pl (cM C pl) (nI (cT C)) (cN C) u) (by omega) u pl hp (cM C pl) (nI (cT C))) ⟨by decide, by decide⟩ hP hD hS hK [14, 15] [0, 1, 2, 3, 4, 5, 6, 7, 8, 9, 10, 11, 12, 13, 16, 17] [0, 1, 2, 3, 4, 5, 6, 7, 8, 9, 10, 11, 12, 13, 16, 17, 14, 15] rfl rfl (by decide) (by decide) (by decide) rfl rfl (by decide) rfl rfl rfl rfl hl.1 rfl (Nat.le_of_ble_eq_true rfl) dX3_tellUnits_36 ⟨Nat.zero_le _, Nat.zero_le _⟩ (fun H locs hP hD hS => ?_)
          refine lv_iinc (v := nI (u + 1)) (lv' := [(2, .int (nI (u + 1))), (0, .ref (a 17)), (1, .int (nI pl))]) hx hb dX3_tellUnits_39 hl (k := 2) rfl (nI_1 _) (by decide) rfl (fun ls hl => ?_)
          refine lv_goto (tgt := 2) hx hb dX3_tellUnits_42 (by decide) ?_
          exact ih2 (u + 1) (by omega) (by omega) _ _ (by rw [tellN]; first | (rw [if_pos (bI_t h_17)]; exact hP) | (rw [if_neg (by rw [bI_f h_17]; decide)]; exact hP)) (xD_addr hD rfl) hS ls (lv_sub hl [1, 2, 0] rfl)
  refine lv_iconst (v := nI 0) hx hb dX3_tellUnits_0 (by decide) ?_
  refine lv_istore_n (lv' := [(2, .int (nI 0)), (0, .ref (a 17)), (1, .int (nI pl))]) hx hb dX3_tellUnits_1 rfl hl (by decide) rfl (fun ls hl => ?_)
  exact L2 11 0 (by omega) (by omega) _ _ hP (xD_addr hD rfl) hS ls (lv_sub hl [1, 2, 0] rfl)
end
section
/-! behind i places of tellChanges -/
def tellCi (C : CS) (i : Nat) : CS := (cK C, cR C, lookN (cR C) (cW C) (clB (cK C) (cT C)) (nI (cT C)) (cN C) i, toldB (cW C) (clB (cK C) (cT C)) i, clB (cK C) (cT C), cT C)
def tellCb (C : CS) (i : Nat) : CS := (cK C, cR C, lookN (cR C) (cW C) (clB (cK C) (cT C)) (nI (cT C)) (cN C) i, updB (toldB (cW C) (clB (cK C) (cT C)) i) i (clB (cK C) (cT C) i), clB (cK C) (cT C), cT C)
theorem tellCi_e {C : CS} {i : Nat} (h : bI (cW (tellCi C i) i) = bI (cM (tellCi C i) i)) : tellCi C i = tellCi C (i + 1) := by
  have h1 : toldB (cW C) (clB (cK C) (cT C)) i i = clB (cK C) (cT C) i := bI_inj.mp h
  rw [toldB_at] at h1
  unfold tellCi
  rw [← toldB_e h1, lookN, if_pos h1]
theorem tellCi_n {C : CS} {i : Nat} (h : ¬ bI (cW (tellCi C i) i) = bI (cM (tellCi C i) i)) : setCN (tellCb C i) (tellN (cR (tellCb C i)) i (cM (tellCb C i) i) (nI (cT (tellCb C i))) (cN (tellCb C i)) 10) = tellCi C (i + 1) := by
  have h1 : ¬ cW C i = clB (cK C) (cT C) i := fun z => h (bI_inj.mpr (by show toldB (cW C) (clB (cK C) (cT C)) i i = _; rw [toldB_at]; exact z))
  unfold tellCi
  rw [← toldB_s, lookN, if_neg h1]
  rfl
theorem tellCi_0 (C : CS) : setCM C (clB (cK C) (cT C)) = tellCi C 0 := rfl
theorem tellCi_120 (C : CS) : tellCi C 120 = tellC C := rfl
end
section
theorem kV_X3_194 : xcV RX3 RX3 194 yX3_tellUnits cX3_tellUnits 3 none 1 := ⟨wd315, wd312, wd314, wd5, wd21, rfl, ⟨by decide +kernel, by decide +kernel, by decide +kernel⟩⟩
theorem kV_X3_190 : xcV RX3 RX0 190 yX0_markClosed cX0_markClosed 4 none 2 := ⟨wd294, wd291, wd292, wd293, wd22, rfl, ⟨by decide +kernel, by decide +kernel, by decide +kernel⟩⟩
set_option maxHeartbeats 4000000 in
set_option maxRecDepth 100000 in
theorem r_X3_tellChanges (l : Launch) (D : va_G) (a : Nat → Nat) (cI cZ : ClassId) (C : CS) (hO : kOk (cK C)) (hR : rOk (cR C)) (hT : nT (cN C) + 1200 < 2 ^ 31) : xWR l yX3_tellChanges cX3_tellChanges 2 none (xrm 4 89) [.ref (a 17)] D (wC a cI cZ C) (tyL cI cZ) none (wC a cI cZ (tellC C)) := by
  refine xWR.of (by decide +kernel) (Nat.le_of_ble_eq_true rfl) ?_
  intro p e s m args below meth cd hx hb hr hml hown hlocks ht hN hP hK hD hS ls hl
  have hl : lv_has ls 2 [(0, .ref (a 17))] := hl
  have hown : s.vm.findClass RX3 = some m.cls := hown
  have L17 : ∀ (n : Nat) (i : Nat), 120 < i + n → i ≤ 120 → ∀ (H : Heap) (locs : List Loc), va_P D vwCl (wC a cI cZ (tellCi C i)) H → va_D (xA (wC a cI cZ C)) (wC a cI cZ (tellCi C i)) → va_S (xA (wC a cI cZ C)) s.heap H locs → ∀ ls : Array Slot, lv_has ls 2 [(0, .ref (a 17)), (1, .int (nI i))] → W p l e (xrm 4 89) s m args below meth cd H locs 0 0 (MQ below (xQw none D (wC a cI cZ C) (wC a cI cZ (tellC C))) args s 0 0 (xA (wC a cI cZ C))) (F0 m 17 ls []) := by
    intro n
    induction n with
    | zero =>
      intro i hfuel hi
      exact absurd hfuel (by omega)
    | succ n ih17 =>
      intro i hfuel hi H locs hP hD hS ls hl
      have hle := (lookN_le (cR C) (cW C) (clB (cK C) (cT C)) (nI (cT C)) (cN C) i).2
      refine lv_iload_n hx hb dX3_tellChanges_17 rfl (lv_at hl 1 rfl) ?_
      refine lv_bipush (v := nI 120) hx hb dX3_tellChanges_18 (by decide) ?_
      refine lv_icmp_ge (tgt := 61) hx hb dX3_tellChanges_20 (by decide) (fun h_20 => ?_) (fun h_20 => ?_)
      · skip
        have h_20 : 120 ≤ i := (nI_leI (by omega) (by omega)).mp h_20
        exact xw_vret hx hb hr hlocks hS (by rw [show i = 120 by omega] at hP; exact hP) dX3_tellChanges_61
      · skip
        have h_20 : ¬ (120 ≤ i) := fun z => h_20 ((nI_leI (by omega) (by omega)).mpr z)
        refine lv_aload_n hx hb dX3_tellChanges_23 rfl (lv_at hl 0 rfl) ?_
        refine va_get (D := D) (ci := 3) (v := .ref (a 15)) (C := RX3) (T := TX3) (N := 6) hx hb ht inX3 hown hK hP 0 rfl rfl 3 (by decide) (ht _ wd110) (fun _ h9 => h9) rfl dX3_tellChanges_24 ?_
        refine lv_iload_n hx hb dX3_tellChanges_27 rfl (lv_at hl 1 rfl) ?_
        refine xa_zald hx hb hK hP 16 1 (i := i) rfl rfl (by omega) (by decide) dX3_tellChanges_28 ?_
        refine lv_aload_n hx hb dX3_tellChanges_29 rfl (lv_at hl 0 rfl) ?_
        refine va_get (D := D) (ci := 3) (v := .ref (a 16)) (C := RX3) (T := TX3) (N := 6) hx hb ht inX3 hown hK hP 0 rfl rfl 4 (by decide) (ht _ wd111) (fun _ h9 => h9) rfl dX3_tellChanges_30 ?_
        refine lv_iload_n hx hb dX3_tellChanges_33 rfl (lv_at hl 1 rfl) ?_
        refine xa_zald hx hb hK hP 17 1 (i := i) rfl rfl (by omega) (by decide) dX3_tellChanges_34 ?_
        refine lv_icmp_eq (tgt := 55) hx hb dX3_tellChanges_35 (by decide) (fun h_35 => ?_) (fun h_35 => ?_)
        · skip
          refine lv_iinc (v := nI (i + 1)) (lv' := [(1, .int (nI (i + 1))), (0, .ref (a 17))]) hx hb dX3_tellChanges_55 hl (k := 1) rfl (nI_1 _) (by decide) rfl (fun ls hl => ?_)
          refine lv_goto (tgt := 17) hx hb dX3_tellChanges_58 (by decide) ?_
          exact ih17 (i + 1) (by omega) (by omega) _ _ (by first | (rw [tellCi_e h_35] at hP; exact hP) | (rw [tellCi_n h_35] at hP; exact hP)) (xD_addr hD rfl) hS ls (lv_sub hl [1, 0] rfl)
        · skip
          refine lv_aload_n hx hb dX3_tellChanges_38 rfl (lv_at hl 0 rfl) ?_
          refine va_get (D := D) (ci := 3) (v := .ref (a 15)) (C := RX3) (T := TX3) (N := 6) hx hb ht inX3 hown hK hP 0 rfl rfl 3 (by decide) (ht _ wd110) (fun _ h9 => h9) rfl dX3_tellChanges_39 ?_
          refine lv_iload_n hx hb dX3_tellChanges_42 rfl (lv_at hl 1 rfl) ?_
          refine lv_aload_n hx hb dX3_tellChanges_43 rfl (lv_at hl 0 rfl) ?_
          refine va_get (D := D) (ci := 3) (v := .ref (a 16)) (C := RX3) (T := TX3) (N := 6) hx hb ht inX3 hown hK hP 0 rfl rfl 4 (by decide) (ht _ wd111) (fun _ h9 => h9) rfl dX3_tellChanges_44 ?_
          refine lv_iload_n hx hb dX3_tellChanges_47 rfl (lv_at hl 1 rfl) ?_
          refine xa_zald hx hb hK hP 17 1 (i := i) rfl rfl (by omega) (by decide) dX3_tellChanges_48 ?_
          refine xa_zast hx hb hK hP hD hS 16 1 (i := i) (x := bI (cM (tellCi C i) i)) rfl rfl (by omega) (by decide) (by first | rfl | exact bI_vp _) dX3_tellChanges_49 (fun H locs hP hD hS => ?_)
          have hP : va_P D vwCl [(a 17, .inr (3, [.ref (a 0), .ref (a 10), .ref (a 13), .ref (a 15), .ref (a 16), .int (nI (cT (tellCi C i)))])), (a 0, .inr (0, [.ref (a 1), .ref (a 2), .ref (a 3), .ref (a 4), .ref (a 5), .ref (a 6), .ref (a 7), .ref (a 8), .ref (a 9), .int (nI (kN (cK (tellCi C i))))])), (a 1, .inl (cI, 100, .inl (kKd (cK (tellCi C i))))), (a 2, .inl (cI, 100, .inl (kPc (cK (tellCi C i))))), (a 3, .inl (cI, 100, .inl (kSd (cK (tellCi C i))))), (a 4, .inl (cI, 100, .inl (kSt (cK (tellCi C i))))), (a 5, .inl (cI, 100, .inl (kEn (cK (tellCi C i))))), (a 6, .inl (cI, 100, .inl (kXs (cK (tellCi C i))))), (a 7, .inl (cI, 100, .inl (kAn (cK (tellCi C i))))), (a 8, .inl (cI, 100, .inl (kWd (cK (tellCi C i))))), (a 9, .inl (cZ, 20, .inl (kIc (cK (tellCi C i))))), (a 10, .inr (2, [.ref (a 11), .ref (a 12)])), (a 11, .inl (cI, 120, .inl (nF (rP (cR (tellCi C i)))))), (a 12, .inl (cI, 10, .inl (nF (rL (cR (tellCi C i)))))), (a 13, .inr (1, [.ref (a 14), .int (nI (nT (cN (tellCi C i))))])), (a 14, .inl (cI, 500, .inl (nRw (cN (tellCi C i))))), (a 15, .inl (cZ, 120, .inl (upd (bF (cW (tellCi C i))) i (bI (cM (tellCi C i) i))))), (a 16, .inl (cZ, 120, .inl (bF (cM (tellCi C i)))))] H := hP
          have hD : va_D (xA (wC a cI cZ C)) [(a 17, .inr (3, [.ref (a 0), .ref (a 10), .ref (a 13), .ref (a 15), .ref (a 16), .int (nI (cT (tellCi C i)))])), (a 0, .inr (0, [.ref (a 1), .ref (a 2), .ref (a 3), .ref (a 4), .ref (a 5), .ref (a 6), .ref (a 7), .ref (a 8), .ref (a 9), .int (nI (kN (cK (tellCi C i))))])), (a 1, .inl (cI, 100, .inl (kKd (cK (tellCi C i))))), (a 2, .inl (cI, 100, .inl (kPc (cK (tellCi C i))))), (a 3, .inl (cI, 100, .inl (kSd (cK (tellCi C i))))), (a 4, .inl (cI, 100, .inl (kSt (cK (tellCi C i))))), (a 5, .inl (cI, 100, .inl (kEn (cK (tellCi C i))))), (a 6, .inl (cI, 100, .inl (kXs (cK (tellCi C i))))), (a 7, .inl (cI, 100, .inl (kAn (cK (tellCi C i))))), (a 8, .inl (cI, 100, .inl (kWd (cK (tellCi C i))))), (a 9, .inl (cZ, 20, .inl (kIc (cK (tellCi C i))))), (a 10, .inr (2, [.ref (a 11), .ref (a 12)])), (a 11, .inl (cI, 120, .inl (nF (rP (cR (tellCi C i)))))), (a 12, .inl (cI, 10, .inl (nF (rL (cR (tellCi C i)))))), (a 13, .inr (1, [.ref (a 14), .int (nI (nT (cN (tellCi C i))))])), (a 14, .inl (cI, 500, .inl (nRw (cN (tellCi C i))))), (a 15, .inl (cZ, 120, .inl (upd (bF (cW (tellCi C i))) i (bI (cM (tellCi C i) i))))), (a 16, .inl (cZ, 120, .inl (bF (cM (tellCi C i)))))] := hD
          rw [bF_upd] at hP
          replace hD := xD_addr (w2 := (wC a cI cZ (tellCb C i))) hD rfl
          have hP : va_P D vwCl (wC a cI cZ (tellCb C i)) H := hP
          have hD : va_D (xA (wC a cI cZ C)) (wC a cI cZ (tellCb C i)) := hD
          refine lv_aload_n hx hb dX3_tellChanges_50 rfl (lv_at hl 0 rfl) ?_
          refine lv_iload_n hx hb dX3_tellChanges_51 rfl (lv_at hl 1 rfl) ?_
          refine xwV (As := [.int (nI i)]) (rest := []) (wr := []) (ws2 := (wC a cI cZ (setCN (tellCb C i) (tellN (cR (tellCb C i)) i (cM (tellCb C i) i) (nI (cT (tellCb C i))) (cN (tellCb C i)) 10)))) hx hb hml hown ht hN kV_X3_194 (r_X3_tellUnits l D a cI cZ (tellCb C i) hR i (by omega) (by show nT (lookN (cR C) (cW C) (clB (cK C) (cT C)) (nI (cT C)) (cN C) i) + 10 < 2 ^ 31; omega)) ⟨by decide, by decide⟩ hP hD hS hK [0, 1, 2, 3, 4, 5, 6, 7, 8, 9, 10, 11, 12, 13, 14, 15, 16, 17] [] [0, 1, 2, 3, 4, 5, 6, 7, 8, 9, 10, 11, 12, 13, 14, 15, 16, 17] rfl rfl (by decide) (by decide) (by decide) rfl rfl (by decide) rfl rfl rfl rfl hl.1 rfl (Nat.le_of_ble_eq_true rfl) dX3_tellChanges_52 ⟨Nat.zero_le _, Nat.zero_le _⟩ (fun H locs hP hD hS => ?_)
          refine lv_iinc (v := nI (i + 1)) (lv' := [(1, .int (nI (i + 1))), (0, .ref (a 17))]) hx hb dX3_tellChanges_55 hl (k := 1) rfl (nI_1 _) (by decide) rfl (fun ls hl => ?_)
          refine lv_goto (tgt := 17) hx hb dX3_tellChanges_58 (by decide) ?_
          exact ih17 (i + 1) (by omega) (by omega) _ _ (by first | (rw [tellCi_e h_35] at hP; exact hP) | (rw [tellCi_n h_35] at hP; exact hP)) (xD_addr hD rfl) hS ls (lv_sub hl [1, 0] rfl)
  refine lv_aload_n hx hb dX3_tellChanges_0 rfl (lv_at hl 0 rfl) ?_
  refine va_get (D := D) (ci := 3) (v := .ref (a 0)) (C := RX3) (T := TX3) (N := 6) hx hb ht inX3 hown hK hP 0 rfl rfl 0 (by decide) (ht _ wd107) (fun _ h9 => h9) rfl dX3_tellChanges_1 ?_
  refine lv_aload_n hx hb dX3_tellChanges_4 rfl (lv_at hl 0 rfl) ?_
  refine va_get (D := D) (ci := 3) (v := .ref (a 16)) (C := RX3) (T := TX3) (N := 6) hx hb ht inX3 hown hK hP 0 rfl rfl 4 (by decide) (ht _ wd111) (fun _ h9 => h9) rfl dX3_tellChanges_5 ?_
  refine lv_aload_n hx hb dX3_tellChanges_8 rfl (lv_at hl 0 rfl) ?_
  refine va_get (D := D) (ci := 3) (v := .int (nI (cT C))) (C := RX3) (T := TX3) (N := 6) hx hb ht inX3 hown hK hP 0 rfl rfl 5 (by decide) (ht _ wd112) (fun _ h9 => h9) rfl dX3_tellChanges_9 ?_
  refine xwV (As := [.ref (a 16), .int (nI (cT C))]) (rest := []) (wr := [(a 17, .inr (3, [.ref (a 0), .ref (a 10), .ref (a 13), .ref (a 15), .ref (a 16), .int (nI (cT C))])), (a 10, .inr (2, [.ref (a 11), .ref (a 12)])), (a 11, .inl (cI, 120, .inl (nF (rP (cR C))))), (a 12, .inl (cI, 10, .inl (nF (rL (cR C))))), (a 13, .inr (1, [.ref (a 14), .int (nI (nT (cN C)))])), (a 14, .inl (cI, 500, .inl (nRw (cN C)))), (a 15, .inl (cZ, 120, .inl (bF (cW C))))]) (ws2 := (wC a cI cZ (setCM C (clB (cK C) (cT C))))) hx hb hml hown ht hN kV_X3_190 (r_X0_markClosed l D a cI cZ (cK C) hO (a 16) (bF (cM C)) (nI (cT C))) ⟨by decide, by decide⟩ hP hD hS hK [1, 2, 3, 4, 5, 6, 7, 8, 9, 10, 17] [0, 11, 12, 13, 14, 15, 16] [0, 7, 8, 9, 10, 11, 12, 13, 14, 15, 16, 1, 2, 3, 4, 5, 6, 17] rfl rfl (by decide) (by decide) (by decide) rfl rfl (by decide) rfl rfl rfl rfl hl.1 rfl (Nat.le_of_ble_eq_true rfl) dX3_tellChanges_12 ⟨Nat.zero_le _, Nat.zero_le _⟩ (fun H locs hP hD hS => ?_)
  refine lv_iconst (v := nI 0) hx hb dX3_tellChanges_15 (by decide) ?_
  refine lv_istore_n (lv' := [(1, .int (nI 0)), (0, .ref (a 17))]) hx hb dX3_tellChanges_16 rfl hl (by decide) rfl (fun ls hl => ?_)
  exact L17 121 0 (by omega) (by omega) _ _ hP (xD_addr hD rfl) hS ls (lv_sub hl [1, 0] rfl)
end
section
/-! the reference's cells and what is read off them -/
abbrev MK : Type := KF × KF × KF × KF × KF × KF × KF × KF × KF × KF × Nat
abbrev mKd (K : MK) : KF := K.1
abbrev mPc (K : MK) : KF := K.2.1
abbrev mSd (K : MK) : KF := K.2.2.1
abbrev mFr (K : MK) : KF := K.2.2.2.1
abbrev mTo (K : MK) : KF := K.2.2.2.2.1
abbrev mNu (K : MK) : KF := K.2.2.2.2.2.1
abbrev mAn (K : MK) : KF := K.2.2.2.2.2.2.1
abbrev mLi (K : MK) : KF := K.2.2.2.2.2.2.2.1
abbrev mWd (K : MK) : KF := K.2.2.2.2.2.2.2.2.1
abbrev mOp (K : MK) : KF := K.2.2.2.2.2.2.2.2.2.1
abbrev mN (K : MK) : Nat := K.2.2.2.2.2.2.2.2.2.2
abbrev MS : Type := MK × RS × NS × (Nat → Bool) × Nat × Int32
abbrev sK (M : MS) : MK := M.1
abbrev sR (M : MS) : RS := M.2.1
abbrev sN (M : MS) : NS := M.2.2.1
abbrev sW (M : MS) : Nat → Bool := M.2.2.2.1
abbrev sC (M : MS) : Nat := M.2.2.2.2.1
abbrev sE (M : MS) : Int32 := M.2.2.2.2.2
abbrev wM (a : Nat → Nat) (cI cZ : ClassId) (M : MS) : va_W :=
  [(a 0, .inr (4, [.int (sE M), .int (nI (sC M)), .int (nI (mN (sK M))), .ref (a 1), .ref (a 2), .ref (a 3), .ref (a 4), .ref (a 5), .ref (a 6), .ref (a 7), .ref (a 8), .ref (a 9), .ref (a 10), .ref (a 11), .ref (a 12), .ref (a 13), .int (nI (nT (sN M))), .ref (a 14)])),
   (a 1, .inl (cI, 100, .inl (mKd (sK M)))), (a 2, .inl (cI, 100, .inl (mPc (sK M)))), (a 3, .inl (cI, 100, .inl (mSd (sK M)))), (a 4, .inl (cI, 100, .inl (mFr (sK M)))), (a 5, .inl (cI, 100, .inl (mTo (sK M)))),
   (a 6, .inl (cI, 100, .inl (mNu (sK M)))), (a 7, .inl (cI, 100, .inl (mAn (sK M)))), (a 8, .inl (cI, 100, .inl (mLi (sK M)))), (a 9, .inl (cI, 100, .inl (mWd (sK M)))), (a 10, .inl (cZ, 20, .inl (mOp (sK M)))),
   (a 11, .inl (cI, 10, .inl (nF (rL (sR M))))), (a 12, .inl (cI, 120, .inl (nF (rP (sR M))))), (a 13, .inl (cZ, 120, .inl (bF (sW M)))), (a 14, .inl (cI, 500, .inl (nRw (sN M))))]
def mOk (K : MK) : Prop := mN K ≤ 100 ∧ (∀ i, i < 20 → mOp K i = 0 ∨ mOp K i = 1) ∧
  ∀ c, c < mN K → (mKd K c = nI 2 → ∃ i, i < 20 ∧ mNu K c = nI i) ∧ (mKd K c = nI 4 → ¬ mNu K c / nI 100 = 0)
def holdsM (K : MK) (c : Nat) (t : Int32) : Bool :=
  if t < mFr K c then false else if (¬ mLi K c = (-1 : Int32) ∧ ¬ t < mLi K c) then false else
  if mKd K c = nI 2 then decide (mOp K (mNu K c).toNatClampNeg = 1) else if mKd K c = nI 3 then true else
  if mTo K c ≤ t then false else if (mKd K c = nI 1 ∧ ¬ mAn K c = nI 1) then false else
  if mKd K c = nI 4 then !decide (rI (mNu K c) (nI 100) ≤ rI (t - mFr K c) (mNu K c / nI 100)) else true
def isOnM (K : MK) (c : Nat) (p s : Int32) : Bool := decide (mPc K c = p) && (decide (mSd K c = nI 3) || decide (mSd K c = s))
def isClosedM (K : MK) (p s t : Int32) : Bool := anyN (fun c => !decide (mKd K c = nI 5) && (isOnM K c p s && holdsM K c t)) (mN K)
def endM (K : MK) (c : Nat) : Int32 := if mLi K c = (-1 : Int32) then (if mKd K c = nI 2 ∨ mKd K c = nI 3 then nI 1000000 else mTo K c) else mLi K c
def inI (v lo hi : Int32) : Bool := !decide (v < lo) && !decide (hi < v)
def numM (k x : Int32) : Bool := if k = nI 4 then (inI (x / nI 100) (nI 1) (nI 99) && (!decide (x < 0) && !decide (x / nI 100 < rI x (nI 100)))) else (!decide (k = nI 5) || inI x (nI 1) (nI 99))
end
section
theorem kS_X4_57 : xcS RX4 57 yX4_in cX4_in 3 (some .boolean) 3 := ⟨wd637, wd635, wd636, wd25, ⟨by decide +kernel, by decide +kernel, by decide +kernel⟩⟩
theorem kV_X4_65 : xcV RX4 RX4 65 yX4_isOn cX4_isOn 4 (some .boolean) 3 := ⟨wd663, wd660, wd662, wd15, wd25, rfl, ⟨by decide +kernel, by decide +kernel, by decide +kernel⟩⟩
theorem kV_X4_68 : xcV RX4 RX4 68 yX4_holds cX4_holds 4 (some .boolean) 2 := ⟨wd667, wd664, wd666, wd16, wd25, rfl, ⟨by decide +kernel, by decide +kernel, by decide +kernel⟩⟩
set_option maxHeartbeats 4000000 in
set_option maxRecDepth 100000 in
theorem r_X4_in (l : Launch) (D : va_G) (v lo hi : Int32) : xRO l yX4_in cX4_in 3 (some .boolean) (xrm 0 0) [.int (v), .int (lo), .int (hi)] D [] [] (bI (inI v lo hi)) := by
  refine xRO.of (by decide +kernel) (Nat.le_of_ble_eq_true rfl) ?_
  intro p e s m args below meth cd hx hb hr hml hown hlocks ht hN hP hK ls hl
  have hl : lv_has ls 3 [(0, .int (v)), (1, .int (lo)), (2, .int (hi))] := hl
  have hown : s.vm.findClass RX4 = some m.cls := hown
  refine lv_iload_n hx hb dX4_in_0 rfl (lv_at hl 0 rfl) ?_
  refine lv_iload_n hx hb dX4_in_1 rfl (lv_at hl 1 rfl) ?_
  refine lv_icmp_lt (tgt := 14) hx hb dX4_in_2 (by decide) (fun h_2 => ?_) (fun h_2 => ?_)
  · skip
    refine lv_iconst (v := nI 0) hx hb dX4_in_14 (by decide) ?_
    exact xr_zret (v := nI 0) hx hb hr hlocks (by first | rfl | exact bI_nar _) (bI_0 (by unfold inI; first | (rw [decide_eq_true h_2]; rfl) | (rw [decide_eq_true h_7, Bool.not_true, Bool.and_false]))) dX4_in_15
  · skip
    refine lv_iload_n hx hb dX4_in_5 rfl (lv_at hl 0 rfl) ?_
    refine lv_iload_n hx hb dX4_in_6 rfl (lv_at hl 2 rfl) ?_
    refine lv_icmp_gt (tgt := 14) hx hb dX4_in_7 (by decide) (fun h_7 => ?_) (fun h_7 => ?_)
    · skip
      refine lv_iconst (v := nI 0) hx hb dX4_in_14 (by decide) ?_
      exact xr_zret (v := nI 0) hx hb hr hlocks (by first | rfl | exact bI_nar _) (bI_0 (by unfold inI; first | (rw [decide_eq_true h_2]; rfl) | (rw [decide_eq_true h_7, Bool.not_true, Bool.and_false]))) dX4_in_15
    · skip
      refine lv_iconst (v := nI 1) hx hb dX4_in_10 (by decide) ?_
      refine lv_goto (tgt := 15) hx hb dX4_in_11 (by decide) ?_
      exact xr_zret (v := nI 1) hx hb hr hlocks (by first | rfl | exact bI_nar _) (bI_1 (by unfold inI; rw [decide_eq_false h_2, decide_eq_false h_7]; rfl)) dX4_in_15
set_option maxHeartbeats 4000000 in
set_option maxRecDepth 100000 in
theorem r_X4_isPiece (l : Launch) (D : va_G) (v : Int32) : xRO l yX4_isPiece cX4_isPiece 1 (some .boolean) (xrm 1 22) [.int (v)] D [] [] (bI (inI v (nI 0) (nI 59))) := by
  refine xRO.of (by decide +kernel) (Nat.le_of_ble_eq_true rfl) ?_
  intro p e s m args below meth cd hx hb hr hml hown hlocks ht hN hP hK ls hl
  have hl : lv_has ls 1 [(0, .int (v))] := hl
  have hown : s.vm.findClass RX4 = some m.cls := hown
  refine lv_iload_n hx hb dX4_isPiece_0 rfl (lv_at hl 0 rfl) ?_
  refine lv_iconst (v := nI 0) hx hb dX4_isPiece_1 (by decide) ?_
  refine lv_bipush (v := nI 59) hx hb dX4_isPiece_2 (by decide) ?_
  refine xrS (As := [.int (v), .int (nI 0), .int (nI 59)]) (rest := []) hx hb hml hown ht hN kS_X4_57 (r_X4_in l D v (nI 0) (nI 59)) ⟨by decide, by decide⟩ hP hK rfl hl.1 rfl (Nat.le_of_ble_eq_true rfl) dX4_isPiece_4 ⟨Nat.zero_le _, Nat.zero_le _⟩ ?_
  exact xr_zret (v := bI (inI v (nI 0) (nI 59))) hx hb hr hlocks (by first | rfl | exact bI_nar _) (rfl) dX4_isPiece_7
set_option maxHeartbeats 4000000 in
set_option maxRecDepth 100000 in
theorem r_X4_isSide (l : Launch) (D : va_G) (v : Int32) : xRO l yX4_isSide cX4_isSide 1 (some .boolean) (xrm 1 22) [.int (v)] D [] [] (bI (inI v (nI 1) (nI 2))) := by
  refine xRO.of (by decide +kernel) (Nat.le_of_ble_eq_true rfl) ?_
  intro p e s m args below meth cd hx hb hr hml hown hlocks ht hN hP hK ls hl
  have hl : lv_has ls 1 [(0, .int (v))] := hl
  have hown : s.vm.findClass RX4 = some m.cls := hown
  refine lv_iload_n hx hb dX4_isSide_0 rfl (lv_at hl 0 rfl) ?_
  refine lv_iconst (v := nI 1) hx hb dX4_isSide_1 (by decide) ?_
  refine lv_iconst (v := nI 2) hx hb dX4_isSide_2 (by decide) ?_
  refine xrS (As := [.int (v), .int (nI 1), .int (nI 2)]) (rest := []) hx hb hml hown ht hN kS_X4_57 (r_X4_in l D v (nI 1) (nI 2)) ⟨by decide, by decide⟩ hP hK rfl hl.1 rfl (Nat.le_of_ble_eq_true rfl) dX4_isSide_3 ⟨Nat.zero_le _, Nat.zero_le _⟩ ?_
  exact xr_zret (v := bI (inI v (nI 1) (nI 2))) hx hb hr hlocks (by first | rfl | exact bI_nar _) (rfl) dX4_isSide_6
set_option maxHeartbeats 4000000 in
set_option maxRecDepth 100000 in
theorem r_X4_isMinute (l : Launch) (D : va_G) (v : Int32) : xRO l yX4_isMinute cX4_isMinute 1 (some .boolean) (xrm 1 22) [.int (v)] D [] [] (bI (inI v (nI 0) (nI 99999))) := by
  refine xRO.of (by decide +kernel) (Nat.le_of_ble_eq_true rfl) ?_
  intro p e s m args below meth cd hx hb hr hml hown hlocks ht hN hP hK ls hl
  have hl : lv_has ls 1 [(0, .int (v))] := hl
  have hown : s.vm.findClass RX4 = some m.cls := hown
  refine lv_iload_n hx hb dX4_isMinute_0 rfl (lv_at hl 0 rfl) ?_
  refine lv_iconst (v := nI 0) hx hb dX4_isMinute_1 (by decide) ?_
  refine lv_ldc (v := nI 99999) hx hb hown (ht _ wd644) dX4_isMinute_2 ?_
  refine xrS (As := [.int (v), .int (nI 0), .int (nI 99999)]) (rest := []) hx hb hml hown ht hN kS_X4_57 (r_X4_in l D v (nI 0) (nI 99999)) ⟨by decide, by decide⟩ hP hK rfl hl.1 rfl (Nat.le_of_ble_eq_true rfl) dX4_isMinute_4 ⟨Nat.zero_le _, Nat.zero_le _⟩ ?_
  exact xr_zret (v := bI (inI v (nI 0) (nI 99999))) hx hb hr hlocks (by first | rfl | exact bI_nar _) (rfl) dX4_isMinute_7
set_option maxHeartbeats 4000000 in
set_option maxRecDepth 100000 in
theorem r_X4_isNumber (l : Launch) (D : va_G) (k x : Int32) : xRO l yX4_isNumber cX4_isNumber 2 (some .boolean) (xrm 1 22) [.int (k), .int (x)] D [] [] (bI (numM k x)) := by
  refine xRO.of (by decide +kernel) (Nat.le_of_ble_eq_true rfl) ?_
  intro p e s m args below meth cd hx hb hr hml hown hlocks ht hN hP hK ls hl
  have hl : lv_has ls 2 [(0, .int (k)), (1, .int (x))] := hl
  have hown : s.vm.findClass RX4 = some m.cls := hown
  refine lv_iload_n hx hb dX4_isNumber_0 rfl (lv_at hl 0 rfl) ?_
  refine lv_iconst (v := nI 4) hx hb dX4_isNumber_1 (by decide) ?_
  refine lv_icmp_ne (tgt := 39) hx hb dX4_isNumber_2 (by decide) (fun h_2 => ?_) (fun h_2 => ?_)
  · skip
    refine lv_iload_n hx hb dX4_isNumber_39 rfl (lv_at hl 0 rfl) ?_
    refine lv_iconst (v := nI 5) hx hb dX4_isNumber_40 (by decide) ?_
    refine lv_icmp_ne (tgt := 54) hx hb dX4_isNumber_41 (by decide) (fun h_41 => ?_) (fun h_41 => ?_)
    · skip
      refine lv_iconst (v := nI 1) hx hb dX4_isNumber_54 (by decide) ?_
      refine lv_goto (tgt := 59) hx hb dX4_isNumber_55 (by decide) ?_
      exact xr_zret (v := nI 1) hx hb hr hlocks (by first | rfl | exact bI_nar _) (bI_1 (by unfold numM; rw [if_neg h_2]; first | (rw [decide_eq_false h_41]; rfl) | (rw [bI_t h_51, Bool.or_true]; done))) dX4_isNumber_59
    · skip
      refine lv_iload_n hx hb dX4_isNumber_44 rfl (lv_at hl 1 rfl) ?_
      refine lv_iconst (v := nI 1) hx hb dX4_isNumber_45 (by decide) ?_
      refine lv_bipush (v := nI 99) hx hb dX4_isNumber_46 (by decide) ?_
      refine xrS (As := [.int (x), .int (nI 1), .int (nI 99)]) (rest := []) hx hb hml hown ht hN kS_X4_57 (r_X4_in l D x (nI 1) (nI 99)) ⟨by decide, by decide⟩ hP hK rfl hl.1 rfl (Nat.le_of_ble_eq_true rfl) dX4_isNumber_48 ⟨Nat.zero_le _, Nat.zero_le _⟩ ?_
      refine lv_if_eq (tgt := 58) hx hb dX4_isNumber_51 (by decide) (fun h_51 => ?_) (fun h_51 => ?_)
      · skip
        refine lv_iconst (v := nI 0) hx hb dX4_isNumber_58 (by decide) ?_
        exact xr_zret (v := nI 0) hx hb hr hlocks (by first | rfl | exact bI_nar _) (bI_0 (by unfold numM; rw [if_neg h_2, decide_eq_true h_41, bI_f h_51]; rfl)) dX4_isNumber_59
      · skip
        refine lv_iconst (v := nI 1) hx hb dX4_isNumber_54 (by decide) ?_
        refine lv_goto (tgt := 59) hx hb dX4_isNumber_55 (by decide) ?_
        exact xr_zret (v := nI 1) hx hb hr hlocks (by first | rfl | exact bI_nar _) (bI_1 (by unfold numM; rw [if_neg h_2]; first | (rw [decide_eq_false h_41]; rfl) | (rw [bI_t h_51, Bool.or_true]; done))) dX4_isNumber_59
  · skip
    refine lv_iload_n hx hb dX4_isNumber_5 rfl (lv_at hl 1 rfl) ?_
    refine lv_bipush (v := nI 100) hx hb dX4_isNumber_6 (by decide) ?_
    refine lv_idiv hx hb dX4_isNumber_8 (by decide) ?_
    refine lv_iconst (v := nI 1) hx hb dX4_isNumber_9 (by decide) ?_
    refine lv_bipush (v := nI 99) hx hb dX4_isNumber_10 (by decide) ?_
    refine xrS (As := [.int ((x) / (nI 100)), .int (nI 1), .int (nI 99)]) (rest := []) hx hb hml hown ht hN kS_X4_57 (r_X4_in l D (x / nI 100) (nI 1) (nI 99)) ⟨by decide, by decide⟩ hP hK rfl hl.1 rfl (Nat.le_of_ble_eq_true rfl) dX4_isNumber_12 ⟨Nat.zero_le _, Nat.zero_le _⟩ ?_
    refine lv_if_eq (tgt := 37) hx hb dX4_isNumber_15 (by decide) (fun h_15 => ?_) (fun h_15 => ?_)
    · skip
      refine lv_iconst (v := nI 0) hx hb dX4_isNumber_37 (by decide) ?_
      exact xr_zret (v := nI 0) hx hb hr hlocks (by first | rfl | exact bI_nar _) (bI_0 (by unfold numM; rw [if_pos h_2]; first | (rw [bI_f h_15]; rfl) | (rw [decide_eq_true h_19, Bool.not_true, Bool.false_and, Bool.and_false]; done) | (rw [decide_eq_true h_30, Bool.not_true, Bool.and_false, Bool.and_false]; done))) dX4_isNumber_38
    · skip
      refine lv_iload_n hx hb dX4_isNumber_18 rfl (lv_at hl 1 rfl) ?_
      refine lv_if_lt (tgt := 37) hx hb dX4_isNumber_19 (by decide) (fun h_19 => ?_) (fun h_19 => ?_)
      · skip
        refine lv_iconst (v := nI 0) hx hb dX4_isNumber_37 (by decide) ?_
        exact xr_zret (v := nI 0) hx hb hr hlocks (by first | rfl | exact bI_nar _) (bI_0 (by unfold numM; rw [if_pos h_2]; first | (rw [bI_f h_15]; rfl) | (rw [decide_eq_true h_19, Bool.not_true, Bool.false_and, Bool.and_false]; done) | (rw [decide_eq_true h_30, Bool.not_true, Bool.and_false, Bool.and_false]; done))) dX4_isNumber_38
      · skip
        refine lv_iload_n hx hb dX4_isNumber_22 rfl (lv_at hl 1 rfl) ?_
        refine lv_bipush (v := nI 100) hx hb dX4_isNumber_23 (by decide) ?_
        refine lv_irem hx hb dX4_isNumber_25 (by decide) ?_
        refine lv_iload_n hx hb dX4_isNumber_26 rfl (lv_at hl 1 rfl) ?_
        refine lv_bipush (v := nI 100) hx hb dX4_isNumber_27 (by decide) ?_
        refine lv_idiv hx hb dX4_isNumber_29 (by decide) ?_
        refine lv_icmp_gt (tgt := 37) hx hb dX4_isNumber_30 (by decide) (fun h_30 => ?_) (fun h_30 => ?_)
        · skip
          refine lv_iconst (v := nI 0) hx hb dX4_isNumber_37 (by decide) ?_
          exact xr_zret (v := nI 0) hx hb hr hlocks (by first | rfl | exact bI_nar _) (bI_0 (by unfold numM; rw [if_pos h_2]; first | (rw [bI_f h_15]; rfl) | (rw [decide_eq_true h_19, Bool.not_true, Bool.false_and, Bool.and_false]; done) | (rw [decide_eq_true h_30, Bool.not_true, Bool.and_false, Bool.and_false]; done))) dX4_isNumber_38
        · skip
          refine lv_iconst (v := nI 1) hx hb dX4_isNumber_33 (by decide) ?_
          refine lv_goto (tgt := 38) hx hb dX4_isNumber_34 (by decide) ?_
          exact xr_zret (v := nI 1) hx hb hr hlocks (by first | rfl | exact bI_nar _) (bI_1 (by unfold numM; rw [if_pos h_2, bI_t h_15, decide_eq_false h_19, decide_eq_false h_30]; rfl)) dX4_isNumber_38
set_option maxHeartbeats 4000000 in
set_option maxRecDepth 100000 in
theorem r_X4_thrown (l : Launch) (D : va_G) (a : Nat → Nat) (cI cZ : ClassId) (M : MS) : xRO l yX4_thrown cX4_thrown 1 (some .int) (xrm 0 0) [.ref (a 0)] D (wM a cI cZ M) (tyL cI cZ) (sE M) := by
  refine xRO.of (by decide +kernel) (Nat.le_of_ble_eq_true rfl) ?_
  intro p e s m args below meth cd hx hb hr hml hown hlocks ht hN hP hK ls hl
  have hl : lv_has ls 1 [(0, .ref (a 0))] := hl
  have hown : s.vm.findClass RX4 = some m.cls := hown
  refine lv_aload_n hx hb dX4_thrown_0 rfl (lv_at hl 0 rfl) ?_
  refine va_get (D := D) (ci := 4) (v := .int (sE M)) (C := RX4) (T := TX4) (N := 18) hx hb ht inX4 hown hK hP 0 rfl rfl 0 (by decide) (ht _ wd572) (fun _ h9 => h9) rfl dX4_thrown_1 ?_
  exact xr_iret (v := sE M) hx hb hr hlocks (rfl) dX4_thrown_4
set_option maxHeartbeats 4000000 in
set_option maxRecDepth 100000 in
theorem r_X4_isClosure (l : Launch) (D : va_G) (a : Nat → Nat) (cI cZ : ClassId) (M : MS) (i : Int32) : xRO l yX4_isClosure cX4_isClosure 2 (some .boolean) (xrm 1 22) [.ref (a 0), .int (i)] D (wM a cI cZ M) (tyL cI cZ) (bI (inI i (nI 0) (nI (mN (sK M)) - nI 1))) := by
  refine xRO.of (by decide +kernel) (Nat.le_of_ble_eq_true rfl) ?_
  intro p e s m args below meth cd hx hb hr hml hown hlocks ht hN hP hK ls hl
  have hl : lv_has ls 2 [(0, .ref (a 0)), (1, .int (i))] := hl
  have hown : s.vm.findClass RX4 = some m.cls := hown
  refine lv_iload_n hx hb dX4_isClosure_0 rfl (lv_at hl 1 rfl) ?_
  refine lv_iconst (v := nI 0) hx hb dX4_isClosure_1 (by decide) ?_
  refine lv_aload_n hx hb dX4_isClosure_2 rfl (lv_at hl 0 rfl) ?_
  refine va_get (D := D) (ci := 4) (v := .int (nI (mN (sK M)))) (C := RX4) (T := TX4) (N := 18) hx hb ht inX4 hown hK hP 0 rfl rfl 2 (by decide) (ht _ wd574) (fun _ h9 => h9) rfl dX4_isClosure_3 ?_
  refine lv_iconst (v := nI 1) hx hb dX4_isClosure_6 (by decide) ?_
  refine lv_isub hx hb dX4_isClosure_7 ?_
  refine xrS (As := [.int (i), .int (nI 0), .int ((nI (mN (sK M))) - (nI 1))]) (rest := []) hx hb hml hown ht hN kS_X4_57 (r_X4_in l D i (nI 0) (nI (mN (sK M)) - nI 1)) ⟨by decide, by decide⟩ (fun k q h => by simp at h) (hK.sub (tys' := []) [] rfl) rfl hl.1 rfl (Nat.le_of_ble_eq_true rfl) dX4_isClosure_8 ⟨Nat.zero_le _, Nat.zero_le _⟩ ?_
  exact xr_zret (v := bI (inI i (nI 0) (nI (mN (sK M)) - nI 1))) hx hb hr hlocks (by first | rfl | exact bI_nar _) (rfl) dX4_isClosure_11
set_option maxHeartbeats 4000000 in
set_option maxRecDepth 100000 in
theorem r_X4_holds (l : Launch) (D : va_G) (a : Nat → Nat) (cI cZ : ClassId) (M : MS) (hO : mOk (sK M)) (c : Nat) (hc : c < mN (sK M)) (t : Int32) : xRO l yX4_holds cX4_holds 4 (some .boolean) (xrm 0 0) [.ref (a 0), .int (nI c), .int (t)] D (wM a cI cZ M) (tyL cI cZ) (bI (holdsM (sK M) c t)) := by
  refine xRO.of (by decide +kernel) (Nat.le_of_ble_eq_true rfl) ?_
  intro p e s m args below meth cd hx hb hr hml hown hlocks ht hN hP hK ls hl
  have hl : lv_has ls 4 [(0, .ref (a 0)), (1, .int (nI c)), (2, .int (t))] := hl
  have hown : s.vm.findClass RX4 = some m.cls := hown
  have hn := hO.1
  refine lv_aload_n hx hb dX4_holds_0 rfl (lv_at hl 0 rfl) ?_
  refine va_get (D := D) (ci := 4) (v := .ref (a 1)) (C := RX4) (T := TX4) (N := 18) hx hb ht inX4 hown hK hP 0 rfl rfl 3 (by decide) (ht _ wd575) (fun _ h9 => h9) rfl dX4_holds_1 ?_
  refine lv_iload_n hx hb dX4_holds_4 rfl (lv_at hl 1 rfl) ?_
  refine xa_iald hx hb hK hP 1 0 (i := c) rfl rfl (by omega) (by decide) dX4_holds_5 ?_
  refine lv_istore_n (lv' := [(3, .int ((mKd (sK M)) c)), (0, .ref (a 0)), (1, .int (nI c)), (2, .int (t))]) hx hb dX4_holds_6 rfl hl (by decide) rfl (fun ls hl => ?_)
  refine lv_iload_n hx hb dX4_holds_7 rfl (lv_at hl 3 rfl) ?_
  refine lv_aload_n hx hb dX4_holds_8 rfl (lv_at hl 1 rfl) ?_
  refine va_get (D := D) (ci := 4) (v := .ref (a 4)) (C := RX4) (T := TX4) (N := 18) hx hb ht inX4 hown hK hP 0 rfl rfl 6 (by decide) (ht _ wd578) (fun _ h9 => h9) rfl dX4_holds_9 ?_
  refine lv_iload_n hx hb dX4_holds_12 rfl (lv_at hl 2 rfl) ?_
  refine xa_iald hx hb hK hP 4 0 (i := c) rfl rfl (by omega) (by decide) dX4_holds_13 ?_
  refine lv_icmp_lt (tgt := 37) hx hb dX4_holds_14 (by decide) (fun h_14 => ?_) (fun h_14 => ?_)
  · skip
    refine lv_iconst (v := nI 0) hx hb dX4_holds_37 (by decide) ?_
    exact xr_zret (v := nI 0) hx hb hr hlocks (by first | rfl | exact bI_nar _) (bI_0 (by unfold holdsM; first | (rw [if_pos h_14]; done) | (rw [if_neg h_14, if_pos ⟨h_24, h_34⟩]; done))) dX4_holds_38
  · skip
    refine lv_aload_n hx hb dX4_holds_17 rfl (lv_at hl 1 rfl) ?_
    refine va_get (D := D) (ci := 4) (v := .ref (a 8)) (C := RX4) (T := TX4) (N := 18) hx hb ht inX4 hown hK hP 0 rfl rfl 10 (by decide) (ht _ wd582) (fun _ h9 => h9) rfl dX4_holds_18 ?_
    refine lv_iload_n hx hb dX4_holds_21 rfl (lv_at hl 2 rfl) ?_
    refine xa_iald hx hb hK hP 8 0 (i := c) rfl rfl (by omega) (by decide) dX4_holds_22 ?_
    refine lv_iconst (v := (-1 : Int32)) hx hb dX4_holds_23 (by decide) ?_
    refine lv_icmp_eq (tgt := 39) hx hb dX4_holds_24 (by decide) (fun h_24 => ?_) (fun h_24 => ?_)
    · skip
      have hl9 : ¬ (¬ mLi (sK M) c = (-1 : Int32) ∧ ¬ t < mLi (sK M) c) := by first | exact fun z => z.1 h_24 | exact fun z => z.2 h_34
      refine lv_iload_n hx hb dX4_holds_39 rfl (lv_at hl 0 rfl) ?_
      refine lv_iconst (v := nI 2) hx hb dX4_holds_40 (by decide) ?_
      refine lv_icmp_ne (tgt := 56) hx hb dX4_holds_41 (by decide) (fun h_41 => ?_) (fun h_41 => ?_)
      · skip
        refine lv_iload_n hx hb dX4_holds_56 rfl (lv_at hl 0 rfl) ?_
        refine lv_iconst (v := nI 3) hx hb dX4_holds_57 (by decide) ?_
        refine lv_icmp_ne (tgt := 63) hx hb dX4_holds_58 (by decide) (fun h_58 => ?_) (fun h_58 => ?_)
        · skip
          refine lv_iload_n hx hb dX4_holds_63 rfl (lv_at hl 3 rfl) ?_
          refine lv_aload_n hx hb dX4_holds_64 rfl (lv_at hl 1 rfl) ?_
          refine va_get (D := D) (ci := 4) (v := .ref (a 5)) (C := RX4) (T := TX4) (N := 18) hx hb ht inX4 hown hK hP 0 rfl rfl 7 (by decide) (ht _ wd579) (fun _ h9 => h9) rfl dX4_holds_65 ?_
          refine lv_iload_n hx hb dX4_holds_68 rfl (lv_at hl 2 rfl) ?_
          refine xa_iald hx hb hK hP 5 0 (i := c) rfl rfl (by omega) (by decide) dX4_holds_69 ?_
          refine lv_icmp_ge (tgt := 88) hx hb dX4_holds_70 (by decide) (fun h_70 => ?_) (fun h_70 => ?_)
          · skip
            refine lv_iconst (v := nI 0) hx hb dX4_holds_88 (by decide) ?_
            exact xr_zret (v := nI 0) hx hb hr hlocks (by first | rfl | exact bI_nar _) (bI_0 (by unfold holdsM; rw [if_neg h_14, if_neg hl9, if_neg h_41, if_neg h_58]; first | (rw [if_pos h_70]; done) | (rw [if_neg h_70, if_pos ⟨h_75, h_85⟩]; done))) dX4_holds_89
          · skip
            refine lv_iload_n hx hb dX4_holds_73 rfl (lv_at hl 0 rfl) ?_
            refine lv_iconst (v := nI 1) hx hb dX4_holds_74 (by decide) ?_
            refine lv_icmp_ne (tgt := 90) hx hb dX4_holds_75 (by decide) (fun h_75 => ?_) (fun h_75 => ?_)
            · skip
              refine lv_iload_n hx hb dX4_holds_90 rfl (lv_at hl 0 rfl) ?_
              refine lv_iconst (v := nI 4) hx hb dX4_holds_91 (by decide) ?_
              refine lv_icmp_ne (tgt := 125) hx hb dX4_holds_92 (by decide) (fun h_92 => ?_) (fun h_92 => ?_)
              · skip
                refine lv_iconst (v := nI 1) hx hb dX4_holds_125 (by decide) ?_
                refine lv_goto (tgt := 130) hx hb dX4_holds_126 (by decide) ?_
                exact xr_zret (v := nI 1) hx hb hr hlocks (by first | rfl | exact bI_nar _) (bI_1 (by unfold holdsM; rw [if_neg h_14, if_neg hl9, if_neg h_41, if_neg h_58, if_neg h_70, if_neg (by first | exact fun z => h_75 z.1 | exact fun z => z.2 h_85)]; first | (rw [if_neg h_92]; done) | (rw [if_pos h_92, decide_eq_false h_122]; rfl))) dX4_holds_130
              · skip
                refine lv_iload_n hx hb dX4_holds_95 rfl (lv_at hl 3 rfl) ?_
                refine lv_aload_n hx hb dX4_holds_96 rfl (lv_at hl 1 rfl) ?_
                refine va_get (D := D) (ci := 4) (v := .ref (a 4)) (C := RX4) (T := TX4) (N := 18) hx hb ht inX4 hown hK hP 0 rfl rfl 6 (by decide) (ht _ wd578) (fun _ h9 => h9) rfl dX4_holds_97 ?_
                refine lv_iload_n hx hb dX4_holds_100 rfl (lv_at hl 2 rfl) ?_
                refine xa_iald hx hb hK hP 4 0 (i := c) rfl rfl (by omega) (by decide) dX4_holds_101 ?_
                refine lv_isub hx hb dX4_holds_102 ?_
                refine lv_aload_n hx hb dX4_holds_103 rfl (lv_at hl 1 rfl) ?_
                refine va_get (D := D) (ci := 4) (v := .ref (a 6)) (C := RX4) (T := TX4) (N := 18) hx hb ht inX4 hown hK hP 0 rfl rfl 8 (by decide) (ht _ wd580) (fun _ h9 => h9) rfl dX4_holds_104 ?_
                refine lv_iload_n hx hb dX4_holds_107 rfl (lv_at hl 2 rfl) ?_
                refine xa_iald hx hb hK hP 6 0 (i := c) rfl rfl (by omega) (by decide) dX4_holds_108 ?_
                refine lv_bipush (v := nI 100) hx hb dX4_holds_109 (by decide) ?_
                refine lv_idiv hx hb dX4_holds_111 (by decide) ?_
                refine lv_irem hx hb dX4_holds_112 ((hO.2.2 c hc).2 h_92) ?_
                refine lv_aload_n hx hb dX4_holds_113 rfl (lv_at hl 1 rfl) ?_
                refine va_get (D := D) (ci := 4) (v := .ref (a 6)) (C := RX4) (T := TX4) (N := 18) hx hb ht inX4 hown hK hP 0 rfl rfl 8 (by decide) (ht _ wd580) (fun _ h9 => h9) rfl dX4_holds_114 ?_
                refine lv_iload_n hx hb dX4_holds_117 rfl (lv_at hl 2 rfl) ?_
                refine xa_iald hx hb hK hP 6 0 (i := c) rfl rfl (by omega) (by decide) dX4_holds_118 ?_
                refine lv_bipush (v := nI 100) hx hb dX4_holds_119 (by decide) ?_
                refine lv_irem hx hb dX4_holds_121 (by decide) ?_
                refine lv_icmp_ge (tgt := 129) hx hb dX4_holds_122 (by decide) (fun h_122 => ?_) (fun h_122 => ?_)
                · skip
                  refine lv_iconst (v := nI 0) hx hb dX4_holds_129 (by decide) ?_
                  exact xr_zret (v := nI 0) hx hb hr hlocks (by first | rfl | exact bI_nar _) (bI_0 (by unfold holdsM; rw [if_neg h_14, if_neg hl9, if_neg h_41, if_neg h_58, if_neg h_70, if_neg (by first | exact fun z => h_75 z.1 | exact fun z => z.2 h_85), if_pos h_92, decide_eq_true h_122]; rfl)) dX4_holds_130
                · skip
                  refine lv_iconst (v := nI 1) hx hb dX4_holds_125 (by decide) ?_
                  refine lv_goto (tgt := 130) hx hb dX4_holds_126 (by decide) ?_
                  exact xr_zret (v := nI 1) hx hb hr hlocks (by first | rfl | exact bI_nar _) (bI_1 (by unfold holdsM; rw [if_neg h_14, if_neg hl9, if_neg h_41, if_neg h_58, if_neg h_70, if_neg (by first | exact fun z => h_75 z.1 | exact fun z => z.2 h_85)]; first | (rw [if_neg h_92]; done) | (rw [if_pos h_92, decide_eq_false h_122]; rfl))) dX4_holds_130
            · skip
              refine lv_aload_n hx hb dX4_holds_78 rfl (lv_at hl 1 rfl) ?_
              refine va_get (D := D) (ci := 4) (v := .ref (a 7)) (C := RX4) (T := TX4) (N := 18) hx hb ht inX4 hown hK hP 0 rfl rfl 9 (by decide) (ht _ wd581) (fun _ h9 => h9) rfl dX4_holds_79 ?_
              refine lv_iload_n hx hb dX4_holds_82 rfl (lv_at hl 2 rfl) ?_
              refine xa_iald hx hb hK hP 7 0 (i := c) rfl rfl (by omega) (by decide) dX4_holds_83 ?_
              refine lv_iconst (v := nI 1) hx hb dX4_holds_84 (by decide) ?_
              refine lv_icmp_eq (tgt := 90) hx hb dX4_holds_85 (by decide) (fun h_85 => ?_) (fun h_85 => ?_)
              · skip
                refine lv_iload_n hx hb dX4_holds_90 rfl (lv_at hl 0 rfl) ?_
                refine lv_iconst (v := nI 4) hx hb dX4_holds_91 (by decide) ?_
                refine lv_icmp_ne (tgt := 125) hx hb dX4_holds_92 (by decide) (fun h_92 => ?_) (fun h_92 => ?_)
                · skip
                  refine lv_iconst (v := nI 1) hx hb dX4_holds_125 (by decide) ?_
                  refine lv_goto (tgt := 130) hx hb dX4_holds_126 (by decide) ?_
                  exact xr_zret (v := nI 1) hx hb hr hlocks (by first | rfl | exact bI_nar _) (bI_1 (by unfold holdsM; rw [if_neg h_14, if_neg hl9, if_neg h_41, if_neg h_58, if_neg h_70, if_neg (by first | exact fun z => h_75 z.1 | exact fun z => z.2 h_85)]; first | (rw [if_neg h_92]; done) | (rw [if_pos h_92, decide_eq_false h_122]; rfl))) dX4_holds_130
                · skip
                  refine lv_iload_n hx hb dX4_holds_95 rfl (lv_at hl 3 rfl) ?_
                  refine lv_aload_n hx hb dX4_holds_96 rfl (lv_at hl 1 rfl) ?_
                  refine va_get (D := D) (ci := 4) (v := .ref (a 4)) (C := RX4) (T := TX4) (N := 18) hx hb ht inX4 hown hK hP 0 rfl rfl 6 (by decide) (ht _ wd578) (fun _ h9 => h9) rfl dX4_holds_97 ?_
                  refine lv_iload_n hx hb dX4_holds_100 rfl (lv_at hl 2 rfl) ?_
                  refine xa_iald hx hb hK hP 4 0 (i := c) rfl rfl (by omega) (by decide) dX4_holds_101 ?_
                  refine lv_isub hx hb dX4_holds_102 ?_
                  refine lv_aload_n hx hb dX4_holds_103 rfl (lv_at hl 1 rfl) ?_
                  refine va_get (D := D) (ci := 4) (v := .ref (a 6)) (C := RX4) (T := TX4) (N := 18) hx hb ht inX4 hown hK hP 0 rfl rfl 8 (by decide) (ht _ wd580) (fun _ h9 => h9) rfl dX4_holds_104 ?_
                  refine lv_iload_n hx hb dX4_holds_107 rfl (lv_at hl 2 rfl) ?_
                  refine xa_iald hx hb hK hP 6 0 (i := c) rfl rfl (by omega) (by decide) dX4_holds_108 ?_
                  refine lv_bipush (v := nI 100) hx hb dX4_holds_109 (by decide) ?_
                  refine lv_idiv hx hb dX4_holds_111 (by decide) ?_
                  refine lv_irem hx hb dX4_holds_112 ((hO.2.2 c hc).2 h_92) ?_
                  refine lv_aload_n hx hb dX4_holds_113 rfl (lv_at hl 1 rfl) ?_
                  refine va_get (D := D) (ci := 4) (v := .ref (a 6)) (C := RX4) (T := TX4) (N := 18) hx hb ht inX4 hown hK hP 0 rfl rfl 8 (by decide) (ht _ wd580) (fun _ h9 => h9) rfl dX4_holds_114 ?_
                  refine lv_iload_n hx hb dX4_holds_117 rfl (lv_at hl 2 rfl) ?_
                  refine xa_iald hx hb hK hP 6 0 (i := c) rfl rfl (by omega) (by decide) dX4_holds_118 ?_
                  refine lv_bipush (v := nI 100) hx hb dX4_holds_119 (by decide) ?_
                  refine lv_irem hx hb dX4_holds_121 (by decide) ?_
                  refine lv_icmp_ge (tgt := 129) hx hb dX4_holds_122 (by decide) (fun h_122 => ?_) (fun h_122 => ?_)
                  · skip
                    refine lv_iconst (v := nI 0) hx hb dX4_holds_129 (by decide) ?_
                    exact xr_zret (v := nI 0) hx hb hr hlocks (by first | rfl | exact bI_nar _) (bI_0 (by unfold holdsM; rw [if_neg h_14, if_neg hl9, if_neg h_41, if_neg h_58, if_neg h_70, if_neg (by first | exact fun z => h_75 z.1 | exact fun z => z.2 h_85), if_pos h_92, decide_eq_true h_122]; rfl)) dX4_holds_130
                  · skip
                    refine lv_iconst (v := nI 1) hx hb dX4_holds_125 (by decide) ?_
                    refine lv_goto (tgt := 130) hx hb dX4_holds_126 (by decide) ?_
                    exact xr_zret (v := nI 1) hx hb hr hlocks (by first | rfl | exact bI_nar _) (bI_1 (by unfold holdsM; rw [if_neg h_14, if_neg hl9, if_neg h_41, if_neg h_58, if_neg h_70, if_neg (by first | exact fun z => h_75 z.1 | exact fun z => z.2 h_85)]; first | (rw [if_neg h_92]; done) | (rw [if_pos h_92, decide_eq_false h_122]; rfl))) dX4_holds_130
              · skip
                refine lv_iconst (v := nI 0) hx hb dX4_holds_88 (by decide) ?_
                exact xr_zret (v := nI 0) hx hb hr hlocks (by first | rfl | exact bI_nar _) (bI_0 (by unfold holdsM; rw [if_neg h_14, if_neg hl9, if_neg h_41, if_neg h_58]; first | (rw [if_pos h_70]; done) | (rw [if_neg h_70, if_pos ⟨h_75, h_85⟩]; done))) dX4_holds_89
        · skip
          refine lv_iconst (v := nI 1) hx hb dX4_holds_61 (by decide) ?_
          have hl9 : ¬ (¬ mLi (sK M) c = (-1 : Int32) ∧ ¬ t < mLi (sK M) c) := by first | exact fun z => z.1 h_24 | exact fun z => z.2 h_34
          exact xr_zret (v := nI 1) hx hb hr hlocks (by first | rfl | exact bI_nar _) (bI_1 (by unfold holdsM; rw [if_neg h_14, if_neg hl9, if_neg h_41, if_pos h_58])) dX4_holds_62
      · skip
        obtain ⟨i, hi, ei⟩ := (hO.2.2 c hc).1 h_41
        refine lv_aload_n hx hb dX4_holds_44 rfl (lv_at hl 1 rfl) ?_
        refine va_get (D := D) (ci := 4) (v := .ref (a 10)) (C := RX4) (T := TX4) (N := 18) hx hb ht inX4 hown hK hP 0 rfl rfl 12 (by decide) (ht _ wd584) (fun _ h9 => h9) rfl dX4_holds_45 ?_
        refine lv_aload_n hx hb dX4_holds_48 rfl (lv_at hl 1 rfl) ?_
        refine va_get (D := D) (ci := 4) (v := .ref (a 6)) (C := RX4) (T := TX4) (N := 18) hx hb ht inX4 hown hK hP 0 rfl rfl 8 (by decide) (ht _ wd580) (fun _ h9 => h9) rfl dX4_holds_49 ?_
        refine lv_iload_n hx hb dX4_holds_52 rfl (lv_at hl 2 rfl) ?_
        refine xa_iald hx hb hK hP 6 0 (i := c) rfl rfl (by omega) (by decide) dX4_holds_53 ?_
        refine xtop (y := nI i) ei ?_
        refine xa_zald hx hb hK hP 10 1 (i := i) rfl rfl (by omega) (by decide) dX4_holds_54 ?_
        exact xr_zret (v := (mOp (sK M)) i) hx hb hr hlocks (by rcases hO.2.1 i hi with z | z <;> rw [z] <;> rfl) (by unfold holdsM; rw [if_neg h_14, if_neg hl9, if_pos h_41, ei, nI_clamp (by omega)]; rcases hO.2.1 i hi with z | z <;> rw [z] <;> rfl) dX4_holds_55
    · skip
      refine lv_iload_n hx hb dX4_holds_27 rfl (lv_at hl 3 rfl) ?_
      refine lv_aload_n hx hb dX4_holds_28 rfl (lv_at hl 1 rfl) ?_
      refine va_get (D := D) (ci := 4) (v := .ref (a 8)) (C := RX4) (T := TX4) (N := 18) hx hb ht inX4 hown hK hP 0 rfl rfl 10 (by decide) (ht _ wd582) (fun _ h9 => h9) rfl dX4_holds_29 ?_
      refine lv_iload_n hx hb dX4_holds_32 rfl (lv_at hl 2 rfl) ?_
      refine xa_iald hx hb hK hP 8 0 (i := c) rfl rfl (by omega) (by decide) dX4_holds_33 ?_
      refine lv_icmp_lt (tgt := 39) hx hb dX4_holds_34 (by decide) (fun h_34 => ?_) (fun h_34 => ?_)
      · skip
        have hl9 : ¬ (¬ mLi (sK M) c = (-1 : Int32) ∧ ¬ t < mLi (sK M) c) := by first | exact fun z => z.1 h_24 | exact fun z => z.2 h_34
        refine lv_iload_n hx hb dX4_holds_39 rfl (lv_at hl 0 rfl) ?_
        refine lv_iconst (v := nI 2) hx hb dX4_holds_40 (by decide) ?_
        refine lv_icmp_ne (tgt := 56) hx hb dX4_holds_41 (by decide) (fun h_41 => ?_) (fun h_41 => ?_)
        · skip
          refine lv_iload_n hx hb dX4_holds_56 rfl (lv_at hl 0 rfl) ?_
          refine lv_iconst (v := nI 3) hx hb dX4_holds_57 (by decide) ?_
          refine lv_icmp_ne (tgt := 63) hx hb dX4_holds_58 (by decide) (fun h_58 => ?_) (fun h_58 => ?_)
          · skip
            refine lv_iload_n hx hb dX4_holds_63 rfl (lv_at hl 3 rfl) ?_
            refine lv_aload_n hx hb dX4_holds_64 rfl (lv_at hl 1 rfl) ?_
            refine va_get (D := D) (ci := 4) (v := .ref (a 5)) (C := RX4) (T := TX4) (N := 18) hx hb ht inX4 hown hK hP 0 rfl rfl 7 (by decide) (ht _ wd579) (fun _ h9 => h9) rfl dX4_holds_65 ?_
            refine lv_iload_n hx hb dX4_holds_68 rfl (lv_at hl 2 rfl) ?_
            refine xa_iald hx hb hK hP 5 0 (i := c) rfl rfl (by omega) (by decide) dX4_holds_69 ?_
            refine lv_icmp_ge (tgt := 88) hx hb dX4_holds_70 (by decide) (fun h_70 => ?_) (fun h_70 => ?_)
            · skip
              refine lv_iconst (v := nI 0) hx hb dX4_holds_88 (by decide) ?_
              exact xr_zret (v := nI 0) hx hb hr hlocks (by first | rfl | exact bI_nar _) (bI_0 (by unfold holdsM; rw [if_neg h_14, if_neg hl9, if_neg h_41, if_neg h_58]; first | (rw [if_pos h_70]; done) | (rw [if_neg h_70, if_pos ⟨h_75, h_85⟩]; done))) dX4_holds_89
            · skip
              refine lv_iload_n hx hb dX4_holds_73 rfl (lv_at hl 0 rfl) ?_
              refine lv_iconst (v := nI 1) hx hb dX4_holds_74 (by decide) ?_
              refine lv_icmp_ne (tgt := 90) hx hb dX4_holds_75 (by decide) (fun h_75 => ?_) (fun h_75 => ?_)
              · skip
                refine lv_iload_n hx hb dX4_holds_90 rfl (lv_at hl 0 rfl) ?_
                refine lv_iconst (v := nI 4) hx hb dX4_holds_91 (by decide) ?_
                refine lv_icmp_ne (tgt := 125) hx hb dX4_holds_92 (by decide) (fun h_92 => ?_) (fun h_92 => ?_)
                · skip
                  refine lv_iconst (v := nI 1) hx hb dX4_holds_125 (by decide) ?_
                  refine lv_goto (tgt := 130) hx hb dX4_holds_126 (by decide) ?_
                  exact xr_zret (v := nI 1) hx hb hr hlocks (by first | rfl | exact bI_nar _) (bI_1 (by unfold holdsM; rw [if_neg h_14, if_neg hl9, if_neg h_41, if_neg h_58, if_neg h_70, if_neg (by first | exact fun z => h_75 z.1 | exact fun z => z.2 h_85)]; first | (rw [if_neg h_92]; done) | (rw [if_pos h_92, decide_eq_false h_122]; rfl))) dX4_holds_130
                · skip
                  refine lv_iload_n hx hb dX4_holds_95 rfl (lv_at hl 3 rfl) ?_
                  refine lv_aload_n hx hb dX4_holds_96 rfl (lv_at hl 1 rfl) ?_
                  refine va_get (D := D) (ci := 4) (v := .ref (a 4)) (C := RX4) (T := TX4) (N := 18) hx hb ht inX4 hown hK hP 0 rfl rfl 6 (by decide) (ht _ wd578) (fun _ h9 => h9) rfl dX4_holds_97 ?_
                  refine lv_iload_n hx hb dX4_holds_100 rfl (lv_at hl 2 rfl) ?_
                  refine xa_iald hx hb hK hP 4 0 (i := c) rfl rfl (by omega) (by decide) dX4_holds_101 ?_
                  refine lv_isub hx hb dX4_holds_102 ?_
                  refine lv_aload_n hx hb dX4_holds_103 rfl (lv_at hl 1 rfl) ?_
                  refine va_get (D := D) (ci := 4) (v := .ref (a 6)) (C := RX4) (T := TX4) (N := 18) hx hb ht inX4 hown hK hP 0 rfl rfl 8 (by decide) (ht _ wd580) (fun _ h9 => h9) rfl dX4_holds_104 ?_
                  refine lv_iload_n hx hb dX4_holds_107 rfl (lv_at hl 2 rfl) ?_
                  refine xa_iald hx hb hK hP 6 0 (i := c) rfl rfl (by omega) (by decide) dX4_holds_108 ?_
                  refine lv_bipush (v := nI 100) hx hb dX4_holds_109 (by decide) ?_
                  refine lv_idiv hx hb dX4_holds_111 (by decide) ?_
                  refine lv_irem hx hb dX4_holds_112 ((hO.2.2 c hc).2 h_92) ?_
                  refine lv_aload_n hx hb dX4_holds_113 rfl (lv_at hl 1 rfl) ?_
                  refine va_get (D := D) (ci := 4) (v := .ref (a 6)) (C := RX4) (T := TX4) (N := 18) hx hb ht inX4 hown hK hP 0 rfl rfl 8 (by decide) (ht _ wd580) (fun _ h9 => h9) rfl dX4_holds_114 ?_
                  refine lv_iload_n hx hb dX4_holds_117 rfl (lv_at hl 2 rfl) ?_
                  refine xa_iald hx hb hK hP 6 0 (i := c) rfl rfl (by omega) (by decide) dX4_holds_118 ?_
                  refine lv_bipush (v := nI 100) hx hb dX4_holds_119 (by decide) ?_
                  refine lv_irem hx hb dX4_holds_121 (by decide) ?_
                  refine lv_icmp_ge (tgt := 129) hx hb dX4_holds_122 (by decide) (fun h_122 => ?_) (fun h_122 => ?_)
                  · skip
                    refine lv_iconst (v := nI 0) hx hb dX4_holds_129 (by decide) ?_
                    exact xr_zret (v := nI 0) hx hb hr hlocks (by first | rfl | exact bI_nar _) (bI_0 (by unfold holdsM; rw [if_neg h_14, if_neg hl9, if_neg h_41, if_neg h_58, if_neg h_70, if_neg (by first | exact fun z => h_75 z.1 | exact fun z => z.2 h_85), if_pos h_92, decide_eq_true h_122]; rfl)) dX4_holds_130
                  · skip
                    refine lv_iconst (v := nI 1) hx hb dX4_holds_125 (by decide) ?_
                    refine lv_goto (tgt := 130) hx hb dX4_holds_126 (by decide) ?_
                    exact xr_zret (v := nI 1) hx hb hr hlocks (by first | rfl | exact bI_nar _) (bI_1 (by unfold holdsM; rw [if_neg h_14, if_neg hl9, if_neg h_41, if_neg h_58, if_neg h_70, if_neg (by first | exact fun z => h_75 z.1 | exact fun z => z.2 h_85)]; first | (rw [if_neg h_92]; done) | (rw [if_pos h_92, decide_eq_false h_122]; rfl))) dX4_holds_130
              · skip
                refine lv_aload_n hx hb dX4_holds_78 rfl (lv_at hl 1 rfl) ?_
                refine va_get (D := D) (ci := 4) (v := .ref (a 7)) (C := RX4) (T := TX4) (N := 18) hx hb ht inX4 hown hK hP 0 rfl rfl 9 (by decide) (ht _ wd581) (fun _ h9 => h9) rfl dX4_holds_79 ?_
                refine lv_iload_n hx hb dX4_holds_82 rfl (lv_at hl 2 rfl) ?_
                refine xa_iald hx hb hK hP 7 0 (i := c) rfl rfl (by omega) (by decide) dX4_holds_83 ?_
                refine lv_iconst (v := nI 1) hx hb dX4_holds_84 (by decide) ?_
                refine lv_icmp_eq (tgt := 90) hx hb dX4_holds_85 (by decide) (fun h_85 => ?_) (fun h_85 => ?_)
                · skip
                  refine lv_iload_n hx hb dX4_holds_90 rfl (lv_at hl 0 rfl) ?_
                  refine lv_iconst (v := nI 4) hx hb dX4_holds_91 (by decide) ?_
                  refine lv_icmp_ne (tgt := 125) hx hb dX4_holds_92 (by decide) (fun h_92 => ?_) (fun h_92 => ?_)
                  · skip
                    refine lv_iconst (v := nI 1) hx hb dX4_holds_125 (by decide) ?_
                    refine lv_goto (tgt := 130) hx hb dX4_holds_126 (by decide) ?_
                    exact xr_zret (v := nI 1) hx hb hr hlocks (by first | rfl | exact bI_nar _) (bI_1 (by unfold holdsM; rw [if_neg h_14, if_neg hl9, if_neg h_41, if_neg h_58, if_neg h_70, if_neg (by first | exact fun z => h_75 z.1 | exact fun z => z.2 h_85)]; first | (rw [if_neg h_92]; done) | (rw [if_pos h_92, decide_eq_false h_122]; rfl))) dX4_holds_130
                  · skip
                    refine lv_iload_n hx hb dX4_holds_95 rfl (lv_at hl 3 rfl) ?_
                    refine lv_aload_n hx hb dX4_holds_96 rfl (lv_at hl 1 rfl) ?_
                    refine va_get (D := D) (ci := 4) (v := .ref (a 4)) (C := RX4) (T := TX4) (N := 18) hx hb ht inX4 hown hK hP 0 rfl rfl 6 (by decide) (ht _ wd578) (fun _ h9 => h9) rfl dX4_holds_97 ?_
                    refine lv_iload_n hx hb dX4_holds_100 rfl (lv_at hl 2 rfl) ?_
                    refine xa_iald hx hb hK hP 4 0 (i := c) rfl rfl (by omega) (by decide) dX4_holds_101 ?_
                    refine lv_isub hx hb dX4_holds_102 ?_
                    refine lv_aload_n hx hb dX4_holds_103 rfl (lv_at hl 1 rfl) ?_
                    refine va_get (D := D) (ci := 4) (v := .ref (a 6)) (C := RX4) (T := TX4) (N := 18) hx hb ht inX4 hown hK hP 0 rfl rfl 8 (by decide) (ht _ wd580) (fun _ h9 => h9) rfl dX4_holds_104 ?_
                    refine lv_iload_n hx hb dX4_holds_107 rfl (lv_at hl 2 rfl) ?_
                    refine xa_iald hx hb hK hP 6 0 (i := c) rfl rfl (by omega) (by decide) dX4_holds_108 ?_
                    refine lv_bipush (v := nI 100) hx hb dX4_holds_109 (by decide) ?_
                    refine lv_idiv hx hb dX4_holds_111 (by decide) ?_
                    refine lv_irem hx hb dX4_holds_112 ((hO.2.2 c hc).2 h_92) ?_
                    refine lv_aload_n hx hb dX4_holds_113 rfl (lv_at hl 1 rfl) ?_
                    refine va_get (D := D) (ci := 4) (v := .ref (a 6)) (C := RX4) (T := TX4) (N := 18) hx hb ht inX4 hown hK hP 0 rfl rfl 8 (by decide) (ht _ wd580) (fun _ h9 => h9) rfl dX4_holds_114 ?_
                    refine lv_iload_n hx hb dX4_holds_117 rfl (lv_at hl 2 rfl) ?_
                    refine xa_iald hx hb hK hP 6 0 (i := c) rfl rfl (by omega) (by decide) dX4_holds_118 ?_
                    refine lv_bipush (v := nI 100) hx hb dX4_holds_119 (by decide) ?_
                    refine lv_irem hx hb dX4_holds_121 (by decide) ?_
                    refine lv_icmp_ge (tgt := 129) hx hb dX4_holds_122 (by decide) (fun h_122 => ?_) (fun h_122 => ?_)
                    · skip
                      refine lv_iconst (v := nI 0) hx hb dX4_holds_129 (by decide) ?_
                      exact xr_zret (v := nI 0) hx hb hr hlocks (by first | rfl | exact bI_nar _) (bI_0 (by unfold holdsM; rw [if_neg h_14, if_neg hl9, if_neg h_41, if_neg h_58, if_neg h_70, if_neg (by first | exact fun z => h_75 z.1 | exact fun z => z.2 h_85), if_pos h_92, decide_eq_true h_122]; rfl)) dX4_holds_130
                    · skip
                      refine lv_iconst (v := nI 1) hx hb dX4_holds_125 (by decide) ?_
                      refine lv_goto (tgt := 130) hx hb dX4_holds_126 (by decide) ?_
                      exact xr_zret (v := nI 1) hx hb hr hlocks (by first | rfl | exact bI_nar _) (bI_1 (by unfold holdsM; rw [if_neg h_14, if_neg hl9, if_neg h_41, if_neg h_58, if_neg h_70, if_neg (by first | exact fun z => h_75 z.1 | exact fun z => z.2 h_85)]; first | (rw [if_neg h_92]; done) | (rw [if_pos h_92, decide_eq_false h_122]; rfl))) dX4_holds_130
                · skip
                  refine lv_iconst (v := nI 0) hx hb dX4_holds_88 (by decide) ?_
                  exact xr_zret (v := nI 0) hx hb hr hlocks (by first | rfl | exact bI_nar _) (bI_0 (by unfold holdsM; rw [if_neg h_14, if_neg hl9, if_neg h_41, if_neg h_58]; first | (rw [if_pos h_70]; done) | (rw [if_neg h_70, if_pos ⟨h_75, h_85⟩]; done))) dX4_holds_89
          · skip
            refine lv_iconst (v := nI 1) hx hb dX4_holds_61 (by decide) ?_
            have hl9 : ¬ (¬ mLi (sK M) c = (-1 : Int32) ∧ ¬ t < mLi (sK M) c) := by first | exact fun z => z.1 h_24 | exact fun z => z.2 h_34
            exact xr_zret (v := nI 1) hx hb hr hlocks (by first | rfl | exact bI_nar _) (bI_1 (by unfold holdsM; rw [if_neg h_14, if_neg hl9, if_neg h_41, if_pos h_58])) dX4_holds_62
        · skip
          obtain ⟨i, hi, ei⟩ := (hO.2.2 c hc).1 h_41
          refine lv_aload_n hx hb dX4_holds_44 rfl (lv_at hl 1 rfl) ?_
          refine va_get (D := D) (ci := 4) (v := .ref (a 10)) (C := RX4) (T := TX4) (N := 18) hx hb ht inX4 hown hK hP 0 rfl rfl 12 (by decide) (ht _ wd584) (fun _ h9 => h9) rfl dX4_holds_45 ?_
          refine lv_aload_n hx hb dX4_holds_48 rfl (lv_at hl 1 rfl) ?_
          refine va_get (D := D) (ci := 4) (v := .ref (a 6)) (C := RX4) (T := TX4) (N := 18) hx hb ht inX4 hown hK hP 0 rfl rfl 8 (by decide) (ht _ wd580) (fun _ h9 => h9) rfl dX4_holds_49 ?_
          refine lv_iload_n hx hb dX4_holds_52 rfl (lv_at hl 2 rfl) ?_
          refine xa_iald hx hb hK hP 6 0 (i := c) rfl rfl (by omega) (by decide) dX4_holds_53 ?_
          refine xtop (y := nI i) ei ?_
          refine xa_zald hx hb hK hP 10 1 (i := i) rfl rfl (by omega) (by decide) dX4_holds_54 ?_
          exact xr_zret (v := (mOp (sK M)) i) hx hb hr hlocks (by rcases hO.2.1 i hi with z | z <;> rw [z] <;> rfl) (by unfold holdsM; rw [if_neg h_14, if_neg hl9, if_pos h_41, ei, nI_clamp (by omega)]; rcases hO.2.1 i hi with z | z <;> rw [z] <;> rfl) dX4_holds_55
      · skip
        refine lv_iconst (v := nI 0) hx hb dX4_holds_37 (by decide) ?_
        exact xr_zret (v := nI 0) hx hb hr hlocks (by first | rfl | exact bI_nar _) (bI_0 (by unfold holdsM; first | (rw [if_pos h_14]; done) | (rw [if_neg h_14, if_pos ⟨h_24, h_34⟩]; done))) dX4_holds_38
set_option maxHeartbeats 4000000 in
set_option maxRecDepth 100000 in
theorem r_X4_isOn (l : Launch) (D : va_G) (a : Nat → Nat) (cI cZ : ClassId) (M : MS) (hO : mOk (sK M)) (c : Nat) (hc : c < mN (sK M)) (p1 s1 : Int32) : xRO l yX4_isOn cX4_isOn 4 (some .boolean) (xrm 0 0) [.ref (a 0), .int (nI c), .int (p1), .int (s1)] D (wM a cI cZ M) (tyL cI cZ) (bI (isOnM (sK M) c p1 s1)) := by
  refine xRO.of (by decide +kernel) (Nat.le_of_ble_eq_true rfl) ?_
  intro p e s m args below meth cd hx hb hr hml hown hlocks ht hN hP hK ls hl
  have hl : lv_has ls 4 [(0, .ref (a 0)), (1, .int (nI c)), (2, .int (p1)), (3, .int (s1))] := hl
  have hown : s.vm.findClass RX4 = some m.cls := hown
  have hn := hO.1
  refine lv_aload_n hx hb dX4_isOn_0 rfl (lv_at hl 0 rfl) ?_
  refine va_get (D := D) (ci := 4) (v := .ref (a 2)) (C := RX4) (T := TX4) (N := 18) hx hb ht inX4 hown hK hP 0 rfl rfl 4 (by decide) (ht _ wd576) (fun _ h9 => h9) rfl dX4_isOn_1 ?_
  refine lv_iload_n hx hb dX4_isOn_4 rfl (lv_at hl 1 rfl) ?_
  refine xa_iald hx hb hK hP 2 0 (i := c) rfl rfl (by omega) (by decide) dX4_isOn_5 ?_
  refine lv_iload_n hx hb dX4_isOn_6 rfl (lv_at hl 2 rfl) ?_
  refine lv_icmp_ne (tgt := 34) hx hb dX4_isOn_7 (by decide) (fun h_7 => ?_) (fun h_7 => ?_)
  · skip
    refine lv_iconst (v := nI 0) hx hb dX4_isOn_34 (by decide) ?_
    exact xr_zret (v := nI 0) hx hb hr hlocks (by first | rfl | exact bI_nar _) (bI_0 (by unfold isOnM; first | (rw [decide_eq_false h_7]; rfl) | (rw [decide_eq_false h_17, decide_eq_false h_27, Bool.or_false, Bool.and_false]; done))) dX4_isOn_35
  · skip
    refine lv_aload_n hx hb dX4_isOn_10 rfl (lv_at hl 0 rfl) ?_
    refine va_get (D := D) (ci := 4) (v := .ref (a 3)) (C := RX4) (T := TX4) (N := 18) hx hb ht inX4 hown hK hP 0 rfl rfl 5 (by decide) (ht _ wd577) (fun _ h9 => h9) rfl dX4_isOn_11 ?_
    refine lv_iload_n hx hb dX4_isOn_14 rfl (lv_at hl 1 rfl) ?_
    refine xa_iald hx hb hK hP 3 0 (i := c) rfl rfl (by omega) (by decide) dX4_isOn_15 ?_
    refine lv_iconst (v := nI 3) hx hb dX4_isOn_16 (by decide) ?_
    refine lv_icmp_eq (tgt := 30) hx hb dX4_isOn_17 (by decide) (fun h_17 => ?_) (fun h_17 => ?_)
    · skip
      refine lv_iconst (v := nI 1) hx hb dX4_isOn_30 (by decide) ?_
      refine lv_goto (tgt := 35) hx hb dX4_isOn_31 (by decide) ?_
      exact xr_zret (v := nI 1) hx hb hr hlocks (by first | rfl | exact bI_nar _) (bI_1 (by unfold isOnM; rw [decide_eq_true h_7]; first | (rw [decide_eq_true h_17]; rfl) | (rw [decide_eq_true h_27, Bool.or_true]; rfl))) dX4_isOn_35
    · skip
      refine lv_aload_n hx hb dX4_isOn_20 rfl (lv_at hl 0 rfl) ?_
      refine va_get (D := D) (ci := 4) (v := .ref (a 3)) (C := RX4) (T := TX4) (N := 18) hx hb ht inX4 hown hK hP 0 rfl rfl 5 (by decide) (ht _ wd577) (fun _ h9 => h9) rfl dX4_isOn_21 ?_
      refine lv_iload_n hx hb dX4_isOn_24 rfl (lv_at hl 1 rfl) ?_
      refine xa_iald hx hb hK hP 3 0 (i := c) rfl rfl (by omega) (by decide) dX4_isOn_25 ?_
      refine lv_iload_n hx hb dX4_isOn_26 rfl (lv_at hl 3 rfl) ?_
      refine lv_icmp_ne (tgt := 34) hx hb dX4_isOn_27 (by decide) (fun h_27 => ?_) (fun h_27 => ?_)
      · skip
        refine lv_iconst (v := nI 0) hx hb dX4_isOn_34 (by decide) ?_
        exact xr_zret (v := nI 0) hx hb hr hlocks (by first | rfl | exact bI_nar _) (bI_0 (by unfold isOnM; first | (rw [decide_eq_false h_7]; rfl) | (rw [decide_eq_false h_17, decide_eq_false h_27, Bool.or_false, Bool.and_false]; done))) dX4_isOn_35
      · skip
        refine lv_iconst (v := nI 1) hx hb dX4_isOn_30 (by decide) ?_
        refine lv_goto (tgt := 35) hx hb dX4_isOn_31 (by decide) ?_
        exact xr_zret (v := nI 1) hx hb hr hlocks (by first | rfl | exact bI_nar _) (bI_1 (by unfold isOnM; rw [decide_eq_true h_7]; first | (rw [decide_eq_true h_17]; rfl) | (rw [decide_eq_true h_27, Bool.or_true]; rfl))) dX4_isOn_35
set_option maxHeartbeats 4000000 in
set_option maxRecDepth 100000 in
theorem r_X4_isClosed (l : Launch) (D : va_G) (a : Nat → Nat) (cI cZ : ClassId) (M : MS) (hO : mOk (sK M)) (p1 s1 t : Int32) : xRO l yX4_isClosed cX4_isClosed 6 (some .boolean) (xrm 1 23) [.ref (a 0), .int (p1), .int (s1), .int (t)] D (wM a cI cZ M) (tyL cI cZ) (bI (isClosedM (sK M) p1 s1 t)) := by
  refine xRO.of (by decide +kernel) (Nat.le_of_ble_eq_true rfl) ?_
  intro p e s m args below meth cd hx hb hr hml hown hlocks ht hN hP hK ls hl
  have hl : lv_has ls 6 [(0, .ref (a 0)), (1, .int (p1)), (2, .int (s1)), (3, .int (t))] := hl
  have hown : s.vm.findClass RX4 = some m.cls := hown
  have hn := hO.1
  have L6 : ∀ (n : Nat) (bb : Bool) (c : Nat), mN (sK M) < c + n → c ≤ mN (sK M) → bb = anyN (fun c => !decide (mKd (sK M) c = nI 5) && (isOnM (sK M) c p1 s1 && holdsM (sK M) c t)) c → ∀ ls : Array Slot, lv_has ls 6 [(0, .ref (a 0)), (1, .int (p1)), (2, .int (s1)), (3, .int (t)), (4, .int (bI bb)), (5, .int (nI c))] → W p l e (xrm 1 23) s m args below meth cd s.heap [] 0 0 (MQ below (QcRead (bI (isClosedM (sK M) p1 s1 t))) args s 0 0 (fun _ => False)) (F0 m 6 ls []) := by
    intro n
    induction n with
    | zero =>
      intro bb c hfuel hi hv
      exact absurd hfuel (by omega)
    | succ n ih6 =>
      intro bb c hfuel hi hv ls hl
      refine lv_iload hx hb dX4_isClosed_6 (lv_at hl 5 rfl) ?_
      refine lv_aload_n hx hb dX4_isClosed_8 rfl (lv_at hl 0 rfl) ?_
      refine va_get (D := D) (ci := 4) (v := .int (nI (mN (sK M)))) (C := RX4) (T := TX4) (N := 18) hx hb ht inX4 hown hK hP 0 rfl rfl 2 (by decide) (ht _ wd574) (fun _ h9 => h9) rfl dX4_isClosed_9 ?_
      refine lv_icmp_ge (tgt := 65) hx hb dX4_isClosed_12 (by decide) (fun h_12 => ?_) (fun h_12 => ?_)
      · skip
        have h_12 : (mN (sK M)) ≤ c := (nI_leI (by omega) (by omega)).mp h_12
        refine lv_iload hx hb dX4_isClosed_65 (lv_at hl 4 rfl) ?_
        exact xr_zret (v := bI bb) hx hb hr hlocks (by first | rfl | exact bI_nar _) (by rw [isClosedM, show mN (sK M) = c by omega, ← hv]) dX4_isClosed_67
      · skip
        have h_12 : ¬ ((mN (sK M)) ≤ c) := fun z => h_12 ((nI_leI (by omega) (by omega)).mpr z)
        refine lv_iload hx hb dX4_isClosed_15 (lv_at hl 4 rfl) ?_
        refine lv_if_ne (tgt := 52) hx hb dX4_isClosed_17 (by decide) (fun h_17 => ?_) (fun h_17 => ?_)
        · skip
          refine lv_iconst (v := nI 1) hx hb dX4_isClosed_52 (by decide) ?_
          refine lv_goto (tgt := 57) hx hb dX4_isClosed_53 (by decide) ?_
          refine lv_istore (lv' := [(4, .int (nI 1)), (0, .ref (a 0)), (1, .int (p1)), (2, .int (s1)), (3, .int (t)), (5, .int (nI c))]) hx hb dX4_isClosed_57 hl (by decide) rfl (fun ls hl => ?_)
          refine lv_iinc (v := nI (c + 1)) (lv' := [(5, .int (nI (c + 1))), (4, .int (nI 1)), (0, .ref (a 0)), (1, .int (p1)), (2, .int (s1)), (3, .int (t))]) hx hb dX4_isClosed_59 hl (k := 5) rfl (nI_1 _) (by decide) rfl (fun ls hl => ?_)
          refine lv_goto (tgt := 6) hx hb dX4_isClosed_62 (by decide) ?_
          exact ih6 true (c + 1) (by omega) (by omega) (by rw [anyN, ← hv]; first | (rw [bI_t h_17]; rfl) | (rw [decide_eq_false h_28, bI_t h_39, bI_t h_49, Bool.or_comm]; rfl)) ls (lv_sub hl [2, 3, 4, 5, 1, 0] rfl)
        · skip
          refine lv_aload_n hx hb dX4_isClosed_20 rfl (lv_at hl 0 rfl) ?_
          refine va_get (D := D) (ci := 4) (v := .ref (a 1)) (C := RX4) (T := TX4) (N := 18) hx hb ht inX4 hown hK hP 0 rfl rfl 3 (by decide) (ht _ wd575) (fun _ h9 => h9) rfl dX4_isClosed_21 ?_
          refine lv_iload hx hb dX4_isClosed_24 (lv_at hl 5 rfl) ?_
          refine xa_iald hx hb hK hP 1 0 (i := c) rfl rfl (by omega) (by decide) dX4_isClosed_26 ?_
          refine lv_iconst (v := nI 5) hx hb dX4_isClosed_27 (by decide) ?_
          refine lv_icmp_eq (tgt := 56) hx hb dX4_isClosed_28 (by decide) (fun h_28 => ?_) (fun h_28 => ?_)
          · skip
            refine lv_iconst (v := nI 0) hx hb dX4_isClosed_56 (by decide) ?_
            refine lv_istore (lv' := [(4, .int (nI 0)), (0, .ref (a 0)), (1, .int (p1)), (2, .int (s1)), (3, .int (t)), (5, .int (nI c))]) hx hb dX4_isClosed_57 hl (by decide) rfl (fun ls hl => ?_)
            refine lv_iinc (v := nI (c + 1)) (lv' := [(5, .int (nI (c + 1))), (4, .int (nI 0)), (0, .ref (a 0)), (1, .int (p1)), (2, .int (s1)), (3, .int (t))]) hx hb dX4_isClosed_59 hl (k := 5) rfl (nI_1 _) (by decide) rfl (fun ls hl => ?_)
            refine lv_goto (tgt := 6) hx hb dX4_isClosed_62 (by decide) ?_
            exact ih6 false (c + 1) (by omega) (by omega) (by rw [anyN, ← hv, bI_f h_17]; first | (rw [decide_eq_true h_28]; rfl) | (rw [bI_f h_39, Bool.false_and, Bool.and_false]; rfl) | (rw [bI_f h_49, Bool.and_false, Bool.and_false]; rfl)) ls (lv_sub hl [2, 3, 4, 5, 1, 0] rfl)
          · skip
            refine lv_aload_n hx hb dX4_isClosed_31 rfl (lv_at hl 0 rfl) ?_
            refine lv_iload hx hb dX4_isClosed_32 (lv_at hl 5 rfl) ?_
            refine lv_iload_n hx hb dX4_isClosed_34 rfl (lv_at hl 1 rfl) ?_
            refine lv_iload_n hx hb dX4_isClosed_35 rfl (lv_at hl 2 rfl) ?_
            refine xrV (As := [.int (nI c), .int (p1), .int (s1)]) (rest := []) hx hb hml hown ht hN kV_X4_65 (r_X4_isOn l D a cI cZ M hO c (by omega) p1 s1) ⟨by decide, by decide⟩ hP hK rfl rfl rfl rfl hl.1 rfl (Nat.le_of_ble_eq_true rfl) dX4_isClosed_36 ⟨Nat.zero_le _, Nat.zero_le _⟩ ?_
            refine lv_if_eq (tgt := 56) hx hb dX4_isClosed_39 (by decide) (fun h_39 => ?_) (fun h_39 => ?_)
            · skip
              refine lv_iconst (v := nI 0) hx hb dX4_isClosed_56 (by decide) ?_
              refine lv_istore (lv' := [(4, .int (nI 0)), (0, .ref (a 0)), (1, .int (p1)), (2, .int (s1)), (3, .int (t)), (5, .int (nI c))]) hx hb dX4_isClosed_57 hl (by decide) rfl (fun ls hl => ?_)
              refine lv_iinc (v := nI (c + 1)) (lv' := [(5, .int (nI (c + 1))), (4, .int (nI 0)), (0, .ref (a 0)), (1, .int (p1)), (2, .int (s1)), (3, .int (t))]) hx hb dX4_isClosed_59 hl (k := 5) rfl (nI_1 _) (by decide) rfl (fun ls hl => ?_)
              refine lv_goto (tgt := 6) hx hb dX4_isClosed_62 (by decide) ?_
              exact ih6 false (c + 1) (by omega) (by omega) (by rw [anyN, ← hv, bI_f h_17]; first | (rw [decide_eq_true h_28]; rfl) | (rw [bI_f h_39, Bool.false_and, Bool.and_false]; rfl) | (rw [bI_f h_49, Bool.and_false, Bool.and_false]; rfl)) ls (lv_sub hl [2, 3, 4, 5, 1, 0] rfl)
            · skip
              refine lv_aload_n hx hb dX4_isClosed_42 rfl (lv_at hl 0 rfl) ?_
              refine lv_iload hx hb dX4_isClosed_43 (lv_at hl 5 rfl) ?_
              refine lv_iload_n hx hb dX4_isClosed_45 rfl (lv_at hl 3 rfl) ?_
              refine xrV (As := [.int (nI c), .int (t)]) (rest := []) hx hb hml hown ht hN kV_X4_68 (r_X4_holds l D a cI cZ M hO c (by omega) t) ⟨by decide, by decide⟩ hP hK rfl rfl rfl rfl hl.1 rfl (Nat.le_of_ble_eq_true rfl) dX4_isClosed_46 ⟨Nat.zero_le _, Nat.zero_le _⟩ ?_
              refine lv_if_eq (tgt := 56) hx hb dX4_isClosed_49 (by decide) (fun h_49 => ?_) (fun h_49 => ?_)
              · skip
                refine lv_iconst (v := nI 0) hx hb dX4_isClosed_56 (by decide) ?_
                refine lv_istore (lv' := [(4, .int (nI 0)), (0, .ref (a 0)), (1, .int (p1)), (2, .int (s1)), (3, .int (t)), (5, .int (nI c))]) hx hb dX4_isClosed_57 hl (by decide) rfl (fun ls hl => ?_)
                refine lv_iinc (v := nI (c + 1)) (lv' := [(5, .int (nI (c + 1))), (4, .int (nI 0)), (0, .ref (a 0)), (1, .int (p1)), (2, .int (s1)), (3, .int (t))]) hx hb dX4_isClosed_59 hl (k := 5) rfl (nI_1 _) (by decide) rfl (fun ls hl => ?_)
                refine lv_goto (tgt := 6) hx hb dX4_isClosed_62 (by decide) ?_
                exact ih6 false (c + 1) (by omega) (by omega) (by rw [anyN, ← hv, bI_f h_17]; first | (rw [decide_eq_true h_28]; rfl) | (rw [bI_f h_39, Bool.false_and, Bool.and_false]; rfl) | (rw [bI_f h_49, Bool.and_false, Bool.and_false]; rfl)) ls (lv_sub hl [2, 3, 4, 5, 1, 0] rfl)
              · skip
                refine lv_iconst (v := nI 1) hx hb dX4_isClosed_52 (by decide) ?_
                refine lv_goto (tgt := 57) hx hb dX4_isClosed_53 (by decide) ?_
                refine lv_istore (lv' := [(4, .int (nI 1)), (0, .ref (a 0)), (1, .int (p1)), (2, .int (s1)), (3, .int (t)), (5, .int (nI c))]) hx hb dX4_isClosed_57 hl (by decide) rfl (fun ls hl => ?_)
                refine lv_iinc (v := nI (c + 1)) (lv' := [(5, .int (nI (c + 1))), (4, .int (nI 1)), (0, .ref (a 0)), (1, .int (p1)), (2, .int (s1)), (3, .int (t))]) hx hb dX4_isClosed_59 hl (k := 5) rfl (nI_1 _) (by decide) rfl (fun ls hl => ?_)
                refine lv_goto (tgt := 6) hx hb dX4_isClosed_62 (by decide) ?_
                exact ih6 true (c + 1) (by omega) (by omega) (by rw [anyN, ← hv]; first | (rw [bI_t h_17]; rfl) | (rw [decide_eq_false h_28, bI_t h_39, bI_t h_49, Bool.or_comm]; rfl)) ls (lv_sub hl [2, 3, 4, 5, 1, 0] rfl)
  refine lv_iconst (v := nI 0) hx hb dX4_isClosed_0 (by decide) ?_
  refine lv_istore (lv' := [(4, .int (nI 0)), (0, .ref (a 0)), (1, .int (p1)), (2, .int (s1)), (3, .int (t))]) hx hb dX4_isClosed_1 hl (by decide) rfl (fun ls hl => ?_)
  refine lv_iconst (v := nI 0) hx hb dX4_isClosed_3 (by decide) ?_
  refine lv_istore (lv' := [(5, .int (nI 0)), (4, .int (nI 0)), (0, .ref (a 0)), (1, .int (p1)), (2, .int (s1)), (3, .int (t))]) hx hb dX4_isClosed_4 hl (by decide) rfl (fun ls hl => ?_)
  exact L6 (mN (sK M) + 1) false 0 (by omega) (by omega) rfl ls (lv_sub hl [2, 3, 4, 5, 1, 0] rfl)
set_option maxHeartbeats 4000000 in
set_option maxRecDepth 100000 in
theorem r_X4_has (l : Launch) (D : va_G) (a : Nat → Nat) (cI cZ : ClassId) (M : MS) (hR : rOk (sR M)) (u : Nat) (hu : u < 10) (pl : Nat) (hp : pl < 120) : xRO l yX4_has cX4_has 5 (some .boolean) (xrm 0 0) [.ref (a 0), .int (nI u), .int (nI pl)] D (wM a cI cZ M) (tyL cI cZ) (bI (hasR (sR M) u pl)) := by
  refine xRO.of (by decide +kernel) (Nat.le_of_ble_eq_true rfl) ?_
  intro p e s m args below meth cd hx hb hr hml hown hlocks ht hN hP hK ls hl
  have hl : lv_has ls 5 [(0, .ref (a 0)), (1, .int (nI u)), (2, .int (nI pl))] := hl
  have hown : s.vm.findClass RX4 = some m.cls := hown
  have hk := (hR u hu).1
  have hq := (hR u hu).2
  have L5 : ∀ (n : Nat) (bb : Bool) (k : Nat), rL (sR M) u < k + n → k ≤ rL (sR M) u → bb = anyN (fun k => decide (rP (sR M) (u * 12 + k) = pl)) k → ∀ ls : Array Slot, lv_has ls 5 [(0, .ref (a 0)), (1, .int (nI u)), (2, .int (nI pl)), (3, .int (bI bb)), (4, .int (nI k))] → W p l e (xrm 0 0) s m args below meth cd s.heap [] 0 0 (MQ below (QcRead (bI (hasR (sR M) u pl))) args s 0 0 (fun _ => False)) (F0 m 5 ls []) := by
    intro n
    induction n with
    | zero =>
      intro bb k hfuel hi hv
      exact absurd hfuel (by omega)
    | succ n ih5 =>
      intro bb k hfuel hi hv ls hl
      refine lv_iload hx hb dX4_has_5 (lv_at hl 4 rfl) ?_
      refine lv_aload_n hx hb dX4_has_7 rfl (lv_at hl 0 rfl) ?_
      refine va_get (D := D) (ci := 4) (v := .ref (a 11)) (C := RX4) (T := TX4) (N := 18) hx hb ht inX4 hown hK hP 0 rfl rfl 13 (by decide) (ht _ wd585) (fun _ h9 => h9) rfl dX4_has_8 ?_
      refine lv_iload_n hx hb dX4_has_11 rfl (lv_at hl 1 rfl) ?_
      refine xa_iald hx hb hK hP 11 0 (i := u) rfl rfl (by omega) (by decide) dX4_has_12 ?_
      refine lv_icmp_ge (tgt := 48) hx hb dX4_has_13 (by decide) (fun h_13 => ?_) (fun h_13 => ?_)
      · skip
        have h_13 : (rL (sR M) u) ≤ k := (nI_leI (by omega) (by omega)).mp h_13
        refine lv_iload_n hx hb dX4_has_48 rfl (lv_at hl 3 rfl) ?_
        exact xr_zret (v := bI bb) hx hb hr hlocks (by first | rfl | exact bI_nar _) (by rw [hasR, show rL (sR M) u = k by omega, ← hv]) dX4_has_49
      · skip
        have h_13 : ¬ ((rL (sR M) u) ≤ k) := fun z => h_13 ((nI_leI (by omega) (by omega)).mpr z)
        have hk9 := hq k (by omega)
        refine lv_iload_n hx hb dX4_has_16 rfl (lv_at hl 3 rfl) ?_
        refine lv_if_ne (tgt := 36) hx hb dX4_has_17 (by decide) (fun h_17 => ?_) (fun h_17 => ?_)
        · skip
          refine lv_iconst (v := nI 1) hx hb dX4_has_36 (by decide) ?_
          refine lv_goto (tgt := 41) hx hb dX4_has_37 (by decide) ?_
          refine lv_istore_n (lv' := [(3, .int (nI 1)), (0, .ref (a 0)), (1, .int (nI u)), (2, .int (nI pl)), (4, .int (nI k))]) hx hb dX4_has_41 rfl hl (by decide) rfl (fun ls hl => ?_)
          refine lv_iinc (v := nI (k + 1)) (lv' := [(4, .int (nI (k + 1))), (3, .int (nI 1)), (0, .ref (a 0)), (1, .int (nI u)), (2, .int (nI pl))]) hx hb dX4_has_42 hl (k := 4) rfl (nI_1 _) (by decide) rfl (fun ls hl => ?_)
          refine lv_goto (tgt := 5) hx hb dX4_has_45 (by decide) ?_
          exact ih5 true (k + 1) (by omega) (by omega) (by rw [anyN, ← hv]; first | (rw [bI_t h_17]; rfl) | (rw [decide_eq_true h_33, Bool.or_comm]; rfl)) ls (lv_sub hl [2, 3, 4, 1, 0] rfl)
        · skip
          refine lv_aload_n hx hb dX4_has_20 rfl (lv_at hl 0 rfl) ?_
          refine va_get (D := D) (ci := 4) (v := .ref (a 12)) (C := RX4) (T := TX4) (N := 18) hx hb ht inX4 hown hK hP 0 rfl rfl 14 (by decide) (ht _ wd586) (fun _ h9 => h9) rfl dX4_has_21 ?_
          refine lv_bipush (v := nI 12) hx hb dX4_has_24 (by decide) ?_
          refine lv_iload_n hx hb dX4_has_26 rfl (lv_at hl 1 rfl) ?_
          refine lv_imul hx hb dX4_has_27 ?_
          refine xtop (y := nI (u * 12)) (by rw [pk_mul, Nat.mul_comm]) ?_
          refine lv_iload hx hb dX4_has_28 (lv_at hl 4 rfl) ?_
          refine lv_iadd hx hb dX4_has_30 ?_
          refine xtop (y := nI (u * 12 + k)) (nI_add _ _) ?_
          refine xa_iald hx hb hK hP 12 0 (i := (u * 12 + k)) rfl rfl (by omega) (by decide) dX4_has_31 ?_
          refine lv_iload_n hx hb dX4_has_32 rfl (lv_at hl 2 rfl) ?_
          refine lv_icmp_ne (tgt := 40) hx hb dX4_has_33 (by decide) (fun h_33 => ?_) (fun h_33 => ?_)
          · skip
            have h_33 : ¬ ((rP (sR M) (u * 12 + k)) = pl) := fun z => h_33 ((nI_eq (by omega) (by omega)).mpr z)
            refine lv_iconst (v := nI 0) hx hb dX4_has_40 (by decide) ?_
            refine lv_istore_n (lv' := [(3, .int (nI 0)), (0, .ref (a 0)), (1, .int (nI u)), (2, .int (nI pl)), (4, .int (nI k))]) hx hb dX4_has_41 rfl hl (by decide) rfl (fun ls hl => ?_)
            refine lv_iinc (v := nI (k + 1)) (lv' := [(4, .int (nI (k + 1))), (3, .int (nI 0)), (0, .ref (a 0)), (1, .int (nI u)), (2, .int (nI pl))]) hx hb dX4_has_42 hl (k := 4) rfl (nI_1 _) (by decide) rfl (fun ls hl => ?_)
            refine lv_goto (tgt := 5) hx hb dX4_has_45 (by decide) ?_
            exact ih5 false (k + 1) (by omega) (by omega) (by rw [anyN, ← hv, bI_f h_17, decide_eq_false h_33]; rfl) ls (lv_sub hl [2, 3, 4, 1, 0] rfl)
          · skip
            have h_33 : (rP (sR M) (u * 12 + k)) = pl := (nI_eq (by omega) (by omega)).mp h_33
            refine lv_iconst (v := nI 1) hx hb dX4_has_36 (by decide) ?_
            refine lv_goto (tgt := 41) hx hb dX4_has_37 (by decide) ?_
            refine lv_istore_n (lv' := [(3, .int (nI 1)), (0, .ref (a 0)), (1, .int (nI u)), (2, .int (nI pl)), (4, .int (nI k))]) hx hb dX4_has_41 rfl hl (by decide) rfl (fun ls hl => ?_)
            refine lv_iinc (v := nI (k + 1)) (lv' := [(4, .int (nI (k + 1))), (3, .int (nI 1)), (0, .ref (a 0)), (1, .int (nI u)), (2, .int (nI pl))]) hx hb dX4_has_42 hl (k := 4) rfl (nI_1 _) (by decide) rfl (fun ls hl => ?_)
            refine lv_goto (tgt := 5) hx hb dX4_has_45 (by decide) ?_
            exact ih5 true (k + 1) (by omega) (by omega) (by rw [anyN, ← hv]; first | (rw [bI_t h_17]; rfl) | (rw [decide_eq_true h_33, Bool.or_comm]; rfl)) ls (lv_sub hl [2, 3, 4, 1, 0] rfl)
  refine lv_iconst (v := nI 0) hx hb dX4_has_0 (by decide) ?_
  refine lv_istore_n (lv' := [(3, .int (nI 0)), (0, .ref (a 0)), (1, .int (nI u)), (2, .int (nI pl))]) hx hb dX4_has_1 rfl hl (by decide) rfl (fun ls hl => ?_)
  refine lv_iconst (v := nI 0) hx hb dX4_has_2 (by decide) ?_
  refine lv_istore (lv' := [(4, .int (nI 0)), (3, .int (nI 0)), (0, .ref (a 0)), (1, .int (nI u)), (2, .int (nI pl))]) hx hb dX4_has_3 hl (by decide) rfl (fun ls hl => ?_)
  exact L5 (rL (sR M) u + 1) false 0 (by omega) (by omega) rfl ls (lv_sub hl [2, 3, 4, 1, 0] rfl)
set_option maxHeartbeats 4000000 in
set_option maxRecDepth 100000 in
theorem r_X4_endOf (l : Launch) (D : va_G) (a : Nat → Nat) (cI cZ : ClassId) (M : MS) (hO : mOk (sK M)) (c : Nat) (hc : c < mN (sK M)) : xRO l yX4_endOf cX4_endOf 2 (some .int) (xrm 0 0) [.ref (a 0), .int (nI c)] D (wM a cI cZ M) (tyL cI cZ) (endM (sK M) c) := by
  refine xRO.of (by decide +kernel) (Nat.le_of_ble_eq_true rfl) ?_
  intro p e s m args below meth cd hx hb hr hml hown hlocks ht hN hP hK ls hl
  have hl : lv_has ls 2 [(0, .ref (a 0)), (1, .int (nI c))] := hl
  have hown : s.vm.findClass RX4 = some m.cls := hown
  have hn := hO.1
  refine lv_aload_n hx hb dX4_endOf_0 rfl (lv_at hl 0 rfl) ?_
  refine va_get (D := D) (ci := 4) (v := .ref (a 8)) (C := RX4) (T := TX4) (N := 18) hx hb ht inX4 hown hK hP 0 rfl rfl 10 (by decide) (ht _ wd582) (fun _ h9 => h9) rfl dX4_endOf_1 ?_
  refine lv_iload_n hx hb dX4_endOf_4 rfl (lv_at hl 1 rfl) ?_
  refine xa_iald hx hb hK hP 8 0 (i := c) rfl rfl (by omega) (by decide) dX4_endOf_5 ?_
  refine lv_iconst (v := (-1 : Int32)) hx hb dX4_endOf_6 (by decide) ?_
  refine lv_icmp_eq (tgt := 17) hx hb dX4_endOf_7 (by decide) (fun h_7 => ?_) (fun h_7 => ?_)
  · skip
    refine lv_aload_n hx hb dX4_endOf_17 rfl (lv_at hl 0 rfl) ?_
    refine va_get (D := D) (ci := 4) (v := .ref (a 1)) (C := RX4) (T := TX4) (N := 18) hx hb ht inX4 hown hK hP 0 rfl rfl 3 (by decide) (ht _ wd575) (fun _ h9 => h9) rfl dX4_endOf_18 ?_
    refine lv_iload_n hx hb dX4_endOf_21 rfl (lv_at hl 1 rfl) ?_
    refine xa_iald hx hb hK hP 1 0 (i := c) rfl rfl (by omega) (by decide) dX4_endOf_22 ?_
    refine lv_iconst (v := nI 2) hx hb dX4_endOf_23 (by decide) ?_
    refine lv_icmp_eq (tgt := 37) hx hb dX4_endOf_24 (by decide) (fun h_24 => ?_) (fun h_24 => ?_)
    · skip
      refine lv_ldc (v := nI 1000000) hx hb hown (ht _ wd723) dX4_endOf_37 ?_
      refine lv_goto (tgt := 48) hx hb dX4_endOf_39 (by decide) ?_
      exact xr_iret (v := nI 1000000) hx hb hr hlocks (by rw [endM, if_pos h_7]; first | (rw [if_pos (Or.inl h_24)]; done) | (rw [if_pos (Or.inr h_34)]; done) | (rw [if_neg (fun z => z.elim h_24 h_34)]; done)) dX4_endOf_48
    · skip
      refine lv_aload_n hx hb dX4_endOf_27 rfl (lv_at hl 0 rfl) ?_
      refine va_get (D := D) (ci := 4) (v := .ref (a 1)) (C := RX4) (T := TX4) (N := 18) hx hb ht inX4 hown hK hP 0 rfl rfl 3 (by decide) (ht _ wd575) (fun _ h9 => h9) rfl dX4_endOf_28 ?_
      refine lv_iload_n hx hb dX4_endOf_31 rfl (lv_at hl 1 rfl) ?_
      refine xa_iald hx hb hK hP 1 0 (i := c) rfl rfl (by omega) (by decide) dX4_endOf_32 ?_
      refine lv_iconst (v := nI 3) hx hb dX4_endOf_33 (by decide) ?_
      refine lv_icmp_ne (tgt := 42) hx hb dX4_endOf_34 (by decide) (fun h_34 => ?_) (fun h_34 => ?_)
      · skip
        refine lv_aload_n hx hb dX4_endOf_42 rfl (lv_at hl 0 rfl) ?_
        refine va_get (D := D) (ci := 4) (v := .ref (a 5)) (C := RX4) (T := TX4) (N := 18) hx hb ht inX4 hown hK hP 0 rfl rfl 7 (by decide) (ht _ wd579) (fun _ h9 => h9) rfl dX4_endOf_43 ?_
        refine lv_iload_n hx hb dX4_endOf_46 rfl (lv_at hl 1 rfl) ?_
        refine xa_iald hx hb hK hP 5 0 (i := c) rfl rfl (by omega) (by decide) dX4_endOf_47 ?_
        exact xr_iret (v := (mTo (sK M)) c) hx hb hr hlocks (by rw [endM, if_pos h_7]; first | (rw [if_pos (Or.inl h_24)]; done) | (rw [if_pos (Or.inr h_34)]; done) | (rw [if_neg (fun z => z.elim h_24 h_34)]; done)) dX4_endOf_48
      · skip
        refine lv_ldc (v := nI 1000000) hx hb hown (ht _ wd723) dX4_endOf_37 ?_
        refine lv_goto (tgt := 48) hx hb dX4_endOf_39 (by decide) ?_
        exact xr_iret (v := nI 1000000) hx hb hr hlocks (by rw [endM, if_pos h_7]; first | (rw [if_pos (Or.inl h_24)]; done) | (rw [if_pos (Or.inr h_34)]; done) | (rw [if_neg (fun z => z.elim h_24 h_34)]; done)) dX4_endOf_48
  · skip
    refine lv_aload_n hx hb dX4_endOf_10 rfl (lv_at hl 0 rfl) ?_
    refine va_get (D := D) (ci := 4) (v := .ref (a 8)) (C := RX4) (T := TX4) (N := 18) hx hb ht inX4 hown hK hP 0 rfl rfl 10 (by decide) (ht _ wd582) (fun _ h9 => h9) rfl dX4_endOf_11 ?_
    refine lv_iload_n hx hb dX4_endOf_14 rfl (lv_at hl 1 rfl) ?_
    refine xa_iald hx hb hK hP 8 0 (i := c) rfl rfl (by omega) (by decide) dX4_endOf_15 ?_
    exact xr_iret (v := (mLi (sK M)) c) hx hb hr hlocks (by rw [endM, if_neg h_7]) dX4_endOf_16
end
section
/-! the reference's look() -/
abbrev clM (K : MK) (t : Nat) : Nat → Bool := fun pl => isClosedM K (nI (pl / 2)) (nI (pl % 2 + 1)) (nI t)
def setE (M : MS) (v : Int32) : MS := (sK M, sR M, sN M, sW M, sC M, v)
def lookMi (M : MS) (i : Nat) : MS := (sK M, sR M, lookN (sR M) (sW M) (clM (sK M) (sC M)) (nI (sC M)) (sN M) i, toldB (sW M) (clM (sK M) (sC M)) i, sC M, sE M)
def lookMu (M : MS) (i u : Nat) : MS := (sK M, sR M, tellN (sR M) i (clM (sK M) (sC M) i) (nI (sC M)) (lookN (sR M) (sW M) (clM (sK M) (sC M)) (nI (sC M)) (sN M) i) u, toldB (sW M) (clM (sK M) (sC M)) i, sC M, sE M)
def lookMn (M : MS) (i u : Nat) : MS := (sK M, sR M, noteN (tellN (sR M) i (clM (sK M) (sC M) i) (nI (sC M)) (lookN (sR M) (sW M) (clM (sK M) (sC M)) (nI (sC M)) (sN M) i) u) u i (clM (sK M) (sC M) i) (nI (sC M)), toldB (sW M) (clM (sK M) (sC M)) i, sC M, sE M)
def lookM (M : MS) : MS := lookMi M 120
theorem lookMu_s {M : MS} {i u : Nat} (h : hasR (sR M) u i = true) : lookMn M i u = lookMu M i (u + 1) := by
  unfold lookMn lookMu
  rw [tellN, if_pos h]
theorem lookMu_n {M : MS} {i u : Nat} (h : hasR (sR M) u i = false) : lookMu M i u = lookMu M i (u + 1) := by
  unfold lookMu
  rw [tellN, if_neg (by rw [h]; decide)]
/-- what look() has behind a place: was is now -/
def lookMw (M : MS) (i u : Nat) : MS := (sK M, sR M, tellN (sR M) i (clM (sK M) (sC M) i) (nI (sC M)) (lookN (sR M) (sW M) (clM (sK M) (sC M)) (nI (sC M)) (sN M) i) u, updB (toldB (sW M) (clM (sK M) (sC M)) i) i (clM (sK M) (sC M) i), sC M, sE M)
theorem lookMw_e {M : MS} {i u : Nat} (h : u = 10 ∧ ¬ sW M i = clM (sK M) (sC M) i ∨ u = 0 ∧ sW M i = clM (sK M) (sC M) i) : lookMw M i u = lookMi M (i + 1) := by
  unfold lookMw lookMi
  rw [toldB_s, lookN]
  rcases h with ⟨rfl, h⟩ | ⟨rfl, h⟩
  · rw [if_neg h]
  · rw [if_pos h, tellN]
def thrM (o t h : Bool) : Int32 := if o then nI 1 else if t then nI 2 else if h then nI 3 else nI 0
end
section
theorem kV_X4_78 : xcV RX4 RX4 78 yX4_has cX4_has 5 (some .boolean) 2 := ⟨wd671, wd668, wd670, wd17, wd25, rfl, ⟨by decide +kernel, by decide +kernel, by decide +kernel⟩⟩
theorem kV_X4_75 : xcV RX4 RX4 75 yX4_isClosed cX4_isClosed 6 (some .boolean) 3 := ⟨wd659, wd656, wd658, wd14, wd25, rfl, ⟨by decide +kernel, by decide +kernel, by decide +kernel⟩⟩
set_option maxHeartbeats 4000000 in
set_option maxRecDepth 100000 in
theorem r_X4_throwing (l : Launch) (D : va_G) (a : Nat → Nat) (cI cZ : ClassId) (M : MS) (o t h : Bool) : xWR l yX4_throwing cX4_throwing 4 (some .boolean) (xrm 0 0) [.ref (a 0), .int (bI o), .int (bI t), .int (bI h)] D (wM a cI cZ M) (tyL cI cZ) (some (.int (bI (o || t || h)))) (wM a cI cZ (setE M (thrM o t h))) := by
  refine xWR.of (by decide +kernel) (Nat.le_of_ble_eq_true rfl) ?_
  intro p e s m args below meth cd hx hb hr hml hown hlocks ht hN hP hK hD hS ls hl
  have hl : lv_has ls 4 [(0, .ref (a 0)), (1, .int (bI o)), (2, .int (bI t)), (3, .int (bI h))] := hl
  have hown : s.vm.findClass RX4 = some m.cls := hown
  refine lv_aload_n hx hb dX4_throwing_0 rfl (lv_at hl 0 rfl) ?_
  refine lv_iload_n hx hb dX4_throwing_1 rfl (lv_at hl 1 rfl) ?_
  refine lv_if_eq (tgt := 9) hx hb dX4_throwing_2 (by decide) (fun h_2 => ?_) (fun h_2 => ?_)
  · skip
    refine lv_iload_n hx hb dX4_throwing_9 rfl (lv_at hl 2 rfl) ?_
    refine lv_if_eq (tgt := 17) hx hb dX4_throwing_10 (by decide) (fun h_10 => ?_) (fun h_10 => ?_)
    · skip
      refine lv_iload_n hx hb dX4_throwing_17 rfl (lv_at hl 3 rfl) ?_
      refine lv_if_eq (tgt := 25) hx hb dX4_throwing_18 (by decide) (fun h_18 => ?_) (fun h_18 => ?_)
      · skip
        refine lv_iconst (v := nI 0) hx hb dX4_throwing_25 (by decide) ?_
        refine va_put (D := D) (ci := 4) (v := .int (nI 0)) (ty := .int) (C := RX4) (T := TX4) (N := 18) hx hb ht inX4 tyX4 tyX4_ok nmX4 hown hK hP hD hS 0 rfl rfl 0 (by decide) (ht _ wd572) (fun _ h9 => h9) rfl (by decide +kernel) rfl rfl (Nat.le_of_ble_eq_true rfl) dX4_throwing_26 (fun H locs hP hD hS => ?_)
        have hP : va_P D vwCl [(a 0, .inr (4, [.int (nI 0), .int (nI (sC M)), .int (nI (mN (sK M))), .ref (a 1), .ref (a 2), .ref (a 3), .ref (a 4), .ref (a 5), .ref (a 6), .ref (a 7), .ref (a 8), .ref (a 9), .ref (a 10), .ref (a 11), .ref (a 12), .ref (a 13), .int (nI (nT (sN M))), .ref (a 14)])), (a 1, .inl (cI, 100, .inl (mKd (sK M)))), (a 2, .inl (cI, 100, .inl (mPc (sK M)))), (a 3, .inl (cI, 100, .inl (mSd (sK M)))), (a 4, .inl (cI, 100, .inl (mFr (sK M)))), (a 5, .inl (cI, 100, .inl (mTo (sK M)))), (a 6, .inl (cI, 100, .inl (mNu (sK M)))), (a 7, .inl (cI, 100, .inl (mAn (sK M)))), (a 8, .inl (cI, 100, .inl (mLi (sK M)))), (a 9, .inl (cI, 100, .inl (mWd (sK M)))), (a 10, .inl (cZ, 20, .inl (mOp (sK M)))), (a 11, .inl (cI, 10, .inl (nF (rL (sR M))))), (a 12, .inl (cI, 120, .inl (nF (rP (sR M))))), (a 13, .inl (cZ, 120, .inl (bF (sW M)))), (a 14, .inl (cI, 500, .inl (nRw (sN M))))] H := hP
        have hD : va_D (xA (wM a cI cZ M)) [(a 0, .inr (4, [.int (nI 0), .int (nI (sC M)), .int (nI (mN (sK M))), .ref (a 1), .ref (a 2), .ref (a 3), .ref (a 4), .ref (a 5), .ref (a 6), .ref (a 7), .ref (a 8), .ref (a 9), .ref (a 10), .ref (a 11), .ref (a 12), .ref (a 13), .int (nI (nT (sN M))), .ref (a 14)])), (a 1, .inl (cI, 100, .inl (mKd (sK M)))), (a 2, .inl (cI, 100, .inl (mPc (sK M)))), (a 3, .inl (cI, 100, .inl (mSd (sK M)))), (a 4, .inl (cI, 100, .inl (mFr (sK M)))), (a 5, .inl (cI, 100, .inl (mTo (sK M)))), (a 6, .inl (cI, 100, .inl (mNu (sK M)))), (a 7, .inl (cI, 100, .inl (mAn (sK M)))), (a 8, .inl (cI, 100, .inl (mLi (sK M)))), (a 9, .inl (cI, 100, .inl (mWd (sK M)))), (a 10, .inl (cZ, 20, .inl (mOp (sK M)))), (a 11, .inl (cI, 10, .inl (nF (rL (sR M))))), (a 12, .inl (cI, 120, .inl (nF (rP (sR M))))), (a 13, .inl (cZ, 120, .inl (bF (sW M)))), (a 14, .inl (cI, 500, .inl (nRw (sN M))))] := hD
        refine lv_aload_n hx hb dX4_throwing_29 rfl (lv_at hl 0 rfl) ?_
        refine va_get (D := D) (ci := 4) (v := .int (nI 0)) (C := RX4) (T := TX4) (N := 18) hx hb ht inX4 hown hK hP 0 rfl rfl 0 (by decide) (ht _ wd572) (fun _ h9 => h9) rfl dX4_throwing_30 ?_
        refine lv_if_le (tgt := 40) hx hb dX4_throwing_33 (by decide) (fun h_33 => ?_) (fun h_33 => ?_)
        · skip
          refine lv_iconst (v := nI 0) hx hb dX4_throwing_40 (by decide) ?_
          exact xw_zret (v := nI 0) hx hb hr hlocks (by first | rfl | exact bI_nar _) hS (by unfold thrM; first | (rw [bI_t h_2]; exact hP) | (rw [bI_f h_2, bI_t h_10]; exact hP) | (rw [bI_f h_2, bI_f h_10, bI_t h_18]; exact hP) | (rw [bI_f h_2, bI_f h_10, bI_f h_18]; exact hP)) (bI_0 (by first | (rw [bI_f h_2, bI_f h_10, bI_f h_18]; rfl) | exact absurd h_33 (by decide))) dX4_throwing_41
        · skip
          refine lv_iconst (v := nI 1) hx hb dX4_throwing_36 (by decide) ?_
          refine lv_goto (tgt := 41) hx hb dX4_throwing_37 (by decide) ?_
          exact xw_zret (v := nI 1) hx hb hr hlocks (by first | rfl | exact bI_nar _) hS (by unfold thrM; first | (rw [bI_t h_2]; exact hP) | (rw [bI_f h_2, bI_t h_10]; exact hP) | (rw [bI_f h_2, bI_f h_10, bI_t h_18]; exact hP) | (rw [bI_f h_2, bI_f h_10, bI_f h_18]; exact hP)) (bI_1 (by first | (rw [bI_t h_2]; rfl) | (rw [bI_t h_10, Bool.or_true]; rfl) | (rw [bI_t h_18, Bool.or_true]; done) | exact absurd h_33 (by decide))) dX4_throwing_41
      · skip
        refine lv_iconst (v := nI 3) hx hb dX4_throwing_21 (by decide) ?_
        refine lv_goto (tgt := 26) hx hb dX4_throwing_22 (by decide) ?_
        refine va_put (D := D) (ci := 4) (v := .int (nI 3)) (ty := .int) (C := RX4) (T := TX4) (N := 18) hx hb ht inX4 tyX4 tyX4_ok nmX4 hown hK hP hD hS 0 rfl rfl 0 (by decide) (ht _ wd572) (fun _ h9 => h9) rfl (by decide +kernel) rfl rfl (Nat.le_of_ble_eq_true rfl) dX4_throwing_26 (fun H locs hP hD hS => ?_)
        have hP : va_P D vwCl [(a 0, .inr (4, [.int (nI 3), .int (nI (sC M)), .int (nI (mN (sK M))), .ref (a 1), .ref (a 2), .ref (a 3), .ref (a 4), .ref (a 5), .ref (a 6), .ref (a 7), .ref (a 8), .ref (a 9), .ref (a 10), .ref (a 11), .ref (a 12), .ref (a 13), .int (nI (nT (sN M))), .ref (a 14)])), (a 1, .inl (cI, 100, .inl (mKd (sK M)))), (a 2, .inl (cI, 100, .inl (mPc (sK M)))), (a 3, .inl (cI, 100, .inl (mSd (sK M)))), (a 4, .inl (cI, 100, .inl (mFr (sK M)))), (a 5, .inl (cI, 100, .inl (mTo (sK M)))), (a 6, .inl (cI, 100, .inl (mNu (sK M)))), (a 7, .inl (cI, 100, .inl (mAn (sK M)))), (a 8, .inl (cI, 100, .inl (mLi (sK M)))), (a 9, .inl (cI, 100, .inl (mWd (sK M)))), (a 10, .inl (cZ, 20, .inl (mOp (sK M)))), (a 11, .inl (cI, 10, .inl (nF (rL (sR M))))), (a 12, .inl (cI, 120, .inl (nF (rP (sR M))))), (a 13, .inl (cZ, 120, .inl (bF (sW M)))), (a 14, .inl (cI, 500, .inl (nRw (sN M))))] H := hP
        have hD : va_D (xA (wM a cI cZ M)) [(a 0, .inr (4, [.int (nI 3), .int (nI (sC M)), .int (nI (mN (sK M))), .ref (a 1), .ref (a 2), .ref (a 3), .ref (a 4), .ref (a 5), .ref (a 6), .ref (a 7), .ref (a 8), .ref (a 9), .ref (a 10), .ref (a 11), .ref (a 12), .ref (a 13), .int (nI (nT (sN M))), .ref (a 14)])), (a 1, .inl (cI, 100, .inl (mKd (sK M)))), (a 2, .inl (cI, 100, .inl (mPc (sK M)))), (a 3, .inl (cI, 100, .inl (mSd (sK M)))), (a 4, .inl (cI, 100, .inl (mFr (sK M)))), (a 5, .inl (cI, 100, .inl (mTo (sK M)))), (a 6, .inl (cI, 100, .inl (mNu (sK M)))), (a 7, .inl (cI, 100, .inl (mAn (sK M)))), (a 8, .inl (cI, 100, .inl (mLi (sK M)))), (a 9, .inl (cI, 100, .inl (mWd (sK M)))), (a 10, .inl (cZ, 20, .inl (mOp (sK M)))), (a 11, .inl (cI, 10, .inl (nF (rL (sR M))))), (a 12, .inl (cI, 120, .inl (nF (rP (sR M))))), (a 13, .inl (cZ, 120, .inl (bF (sW M)))), (a 14, .inl (cI, 500, .inl (nRw (sN M))))] := hD
        refine lv_aload_n hx hb dX4_throwing_29 rfl (lv_at hl 0 rfl) ?_
        refine va_get (D := D) (ci := 4) (v := .int (nI 3)) (C := RX4) (T := TX4) (N := 18) hx hb ht inX4 hown hK hP 0 rfl rfl 0 (by decide) (ht _ wd572) (fun _ h9 => h9) rfl dX4_throwing_30 ?_
        refine lv_if_le (tgt := 40) hx hb dX4_throwing_33 (by decide) (fun h_33 => ?_) (fun h_33 => ?_)
        · skip
          refine lv_iconst (v := nI 0) hx hb dX4_throwing_40 (by decide) ?_
          exact xw_zret (v := nI 0) hx hb hr hlocks (by first | rfl | exact bI_nar _) hS (by unfold thrM; first | (rw [bI_t h_2]; exact hP) | (rw [bI_f h_2, bI_t h_10]; exact hP) | (rw [bI_f h_2, bI_f h_10, bI_t h_18]; exact hP) | (rw [bI_f h_2, bI_f h_10, bI_f h_18]; exact hP)) (bI_0 (by first | (rw [bI_f h_2, bI_f h_10, bI_f h_18]; rfl) | exact absurd h_33 (by decide))) dX4_throwing_41
        · skip
          refine lv_iconst (v := nI 1) hx hb dX4_throwing_36 (by decide) ?_
          refine lv_goto (tgt := 41) hx hb dX4_throwing_37 (by decide) ?_
          exact xw_zret (v := nI 1) hx hb hr hlocks (by first | rfl | exact bI_nar _) hS (by unfold thrM; first | (rw [bI_t h_2]; exact hP) | (rw [bI_f h_2, bI_t h_10]; exact hP) | (rw [bI_f h_2, bI_f h_10, bI_t h_18]; exact hP) | (rw [bI_f h_2, bI_f h_10, bI_f h_18]; exact hP)) (bI_1 (by first | (rw [bI_t h_2]; rfl) | (rw [bI_t h_10, Bool.or_true]; rfl) | (rw [bI_t h_18, Bool.or_true]; done) | exact absurd h_33 (by decide))) dX4_throwing_41
    · skip
      refine lv_iconst (v := nI 2) hx hb dX4_throwing_13 (by decide) ?_
      refine lv_goto (tgt := 26) hx hb dX4_throwing_14 (by decide) ?_
      refine va_put (D := D) (ci := 4) (v := .int (nI 2)) (ty := .int) (C := RX4) (T := TX4) (N := 18) hx hb ht inX4 tyX4 tyX4_ok nmX4 hown hK hP hD hS 0 rfl rfl 0 (by decide) (ht _ wd572) (fun _ h9 => h9) rfl (by decide +kernel) rfl rfl (Nat.le_of_ble_eq_true rfl) dX4_throwing_26 (fun H locs hP hD hS => ?_)
      have hP : va_P D vwCl [(a 0, .inr (4, [.int (nI 2), .int (nI (sC M)), .int (nI (mN (sK M))), .ref (a 1), .ref (a 2), .ref (a 3), .ref (a 4), .ref (a 5), .ref (a 6), .ref (a 7), .ref (a 8), .ref (a 9), .ref (a 10), .ref (a 11), .ref (a 12), .ref (a 13), .int (nI (nT (sN M))), .ref (a 14)])), (a 1, .inl (cI, 100, .inl (mKd (sK M)))), (a 2, .inl (cI, 100, .inl (mPc (sK M)))), (a 3, .inl (cI, 100, .inl (mSd (sK M)))), (a 4, .inl (cI, 100, .inl (mFr (sK M)))), (a 5, .inl (cI, 100, .inl (mTo (sK M)))), (a 6, .inl (cI, 100, .inl (mNu (sK M)))), (a 7, .inl (cI, 100, .inl (mAn (sK M)))), (a 8, .inl (cI, 100, .inl (mLi (sK M)))), (a 9, .inl (cI, 100, .inl (mWd (sK M)))), (a 10, .inl (cZ, 20, .inl (mOp (sK M)))), (a 11, .inl (cI, 10, .inl (nF (rL (sR M))))), (a 12, .inl (cI, 120, .inl (nF (rP (sR M))))), (a 13, .inl (cZ, 120, .inl (bF (sW M)))), (a 14, .inl (cI, 500, .inl (nRw (sN M))))] H := hP
      have hD : va_D (xA (wM a cI cZ M)) [(a 0, .inr (4, [.int (nI 2), .int (nI (sC M)), .int (nI (mN (sK M))), .ref (a 1), .ref (a 2), .ref (a 3), .ref (a 4), .ref (a 5), .ref (a 6), .ref (a 7), .ref (a 8), .ref (a 9), .ref (a 10), .ref (a 11), .ref (a 12), .ref (a 13), .int (nI (nT (sN M))), .ref (a 14)])), (a 1, .inl (cI, 100, .inl (mKd (sK M)))), (a 2, .inl (cI, 100, .inl (mPc (sK M)))), (a 3, .inl (cI, 100, .inl (mSd (sK M)))), (a 4, .inl (cI, 100, .inl (mFr (sK M)))), (a 5, .inl (cI, 100, .inl (mTo (sK M)))), (a 6, .inl (cI, 100, .inl (mNu (sK M)))), (a 7, .inl (cI, 100, .inl (mAn (sK M)))), (a 8, .inl (cI, 100, .inl (mLi (sK M)))), (a 9, .inl (cI, 100, .inl (mWd (sK M)))), (a 10, .inl (cZ, 20, .inl (mOp (sK M)))), (a 11, .inl (cI, 10, .inl (nF (rL (sR M))))), (a 12, .inl (cI, 120, .inl (nF (rP (sR M))))), (a 13, .inl (cZ, 120, .inl (bF (sW M)))), (a 14, .inl (cI, 500, .inl (nRw (sN M))))] := hD
      refine lv_aload_n hx hb dX4_throwing_29 rfl (lv_at hl 0 rfl) ?_
      refine va_get (D := D) (ci := 4) (v := .int (nI 2)) (C := RX4) (T := TX4) (N := 18) hx hb ht inX4 hown hK hP 0 rfl rfl 0 (by decide) (ht _ wd572) (fun _ h9 => h9) rfl dX4_throwing_30 ?_
      refine lv_if_le (tgt := 40) hx hb dX4_throwing_33 (by decide) (fun h_33 => ?_) (fun h_33 => ?_)
      · skip
        refine lv_iconst (v := nI 0) hx hb dX4_throwing_40 (by decide) ?_
        exact xw_zret (v := nI 0) hx hb hr hlocks (by first | rfl | exact bI_nar _) hS (by unfold thrM; first | (rw [bI_t h_2]; exact hP) | (rw [bI_f h_2, bI_t h_10]; exact hP) | (rw [bI_f h_2, bI_f h_10, bI_t h_18]; exact hP) | (rw [bI_f h_2, bI_f h_10, bI_f h_18]; exact hP)) (bI_0 (by first | (rw [bI_f h_2, bI_f h_10, bI_f h_18]; rfl) | exact absurd h_33 (by decide))) dX4_throwing_41
      · skip
        refine lv_iconst (v := nI 1) hx hb dX4_throwing_36 (by decide) ?_
        refine lv_goto (tgt := 41) hx hb dX4_throwing_37 (by decide) ?_
        exact xw_zret (v := nI 1) hx hb hr hlocks (by first | rfl | exact bI_nar _) hS (by unfold thrM; first | (rw [bI_t h_2]; exact hP) | (rw [bI_f h_2, bI_t h_10]; exact hP) | (rw [bI_f h_2, bI_f h_10, bI_t h_18]; exact hP) | (rw [bI_f h_2, bI_f h_10, bI_f h_18]; exact hP)) (bI_1 (by first | (rw [bI_t h_2]; rfl) | (rw [bI_t h_10, Bool.or_true]; rfl) | (rw [bI_t h_18, Bool.or_true]; done) | exact absurd h_33 (by decide))) dX4_throwing_41
  · skip
    refine lv_iconst (v := nI 1) hx hb dX4_throwing_5 (by decide) ?_
    refine lv_goto (tgt := 26) hx hb dX4_throwing_6 (by decide) ?_
    refine va_put (D := D) (ci := 4) (v := .int (nI 1)) (ty := .int) (C := RX4) (T := TX4) (N := 18) hx hb ht inX4 tyX4 tyX4_ok nmX4 hown hK hP hD hS 0 rfl rfl 0 (by decide) (ht _ wd572) (fun _ h9 => h9) rfl (by decide +kernel) rfl rfl (Nat.le_of_ble_eq_true rfl) dX4_throwing_26 (fun H locs hP hD hS => ?_)
    have hP : va_P D vwCl [(a 0, .inr (4, [.int (nI 1), .int (nI (sC M)), .int (nI (mN (sK M))), .ref (a 1), .ref (a 2), .ref (a 3), .ref (a 4), .ref (a 5), .ref (a 6), .ref (a 7), .ref (a 8), .ref (a 9), .ref (a 10), .ref (a 11), .ref (a 12), .ref (a 13), .int (nI (nT (sN M))), .ref (a 14)])), (a 1, .inl (cI, 100, .inl (mKd (sK M)))), (a 2, .inl (cI, 100, .inl (mPc (sK M)))), (a 3, .inl (cI, 100, .inl (mSd (sK M)))), (a 4, .inl (cI, 100, .inl (mFr (sK M)))), (a 5, .inl (cI, 100, .inl (mTo (sK M)))), (a 6, .inl (cI, 100, .inl (mNu (sK M)))), (a 7, .inl (cI, 100, .inl (mAn (sK M)))), (a 8, .inl (cI, 100, .inl (mLi (sK M)))), (a 9, .inl (cI, 100, .inl (mWd (sK M)))), (a 10, .inl (cZ, 20, .inl (mOp (sK M)))), (a 11, .inl (cI, 10, .inl (nF (rL (sR M))))), (a 12, .inl (cI, 120, .inl (nF (rP (sR M))))), (a 13, .inl (cZ, 120, .inl (bF (sW M)))), (a 14, .inl (cI, 500, .inl (nRw (sN M))))] H := hP
    have hD : va_D (xA (wM a cI cZ M)) [(a 0, .inr (4, [.int (nI 1), .int (nI (sC M)), .int (nI (mN (sK M))), .ref (a 1), .ref (a 2), .ref (a 3), .ref (a 4), .ref (a 5), .ref (a 6), .ref (a 7), .ref (a 8), .ref (a 9), .ref (a 10), .ref (a 11), .ref (a 12), .ref (a 13), .int (nI (nT (sN M))), .ref (a 14)])), (a 1, .inl (cI, 100, .inl (mKd (sK M)))), (a 2, .inl (cI, 100, .inl (mPc (sK M)))), (a 3, .inl (cI, 100, .inl (mSd (sK M)))), (a 4, .inl (cI, 100, .inl (mFr (sK M)))), (a 5, .inl (cI, 100, .inl (mTo (sK M)))), (a 6, .inl (cI, 100, .inl (mNu (sK M)))), (a 7, .inl (cI, 100, .inl (mAn (sK M)))), (a 8, .inl (cI, 100, .inl (mLi (sK M)))), (a 9, .inl (cI, 100, .inl (mWd (sK M)))), (a 10, .inl (cZ, 20, .inl (mOp (sK M)))), (a 11, .inl (cI, 10, .inl (nF (rL (sR M))))), (a 12, .inl (cI, 120, .inl (nF (rP (sR M))))), (a 13, .inl (cZ, 120, .inl (bF (sW M)))), (a 14, .inl (cI, 500, .inl (nRw (sN M))))] := hD
    refine lv_aload_n hx hb dX4_throwing_29 rfl (lv_at hl 0 rfl) ?_
    refine va_get (D := D) (ci := 4) (v := .int (nI 1)) (C := RX4) (T := TX4) (N := 18) hx hb ht inX4 hown hK hP 0 rfl rfl 0 (by decide) (ht _ wd572) (fun _ h9 => h9) rfl dX4_throwing_30 ?_
    refine lv_if_le (tgt := 40) hx hb dX4_throwing_33 (by decide) (fun h_33 => ?_) (fun h_33 => ?_)
    · skip
      refine lv_iconst (v := nI 0) hx hb dX4_throwing_40 (by decide) ?_
      exact xw_zret (v := nI 0) hx hb hr hlocks (by first | rfl | exact bI_nar _) hS (by unfold thrM; first | (rw [bI_t h_2]; exact hP) | (rw [bI_f h_2, bI_t h_10]; exact hP) | (rw [bI_f h_2, bI_f h_10, bI_t h_18]; exact hP) | (rw [bI_f h_2, bI_f h_10, bI_f h_18]; exact hP)) (bI_0 (by first | (rw [bI_f h_2, bI_f h_10, bI_f h_18]; rfl) | exact absurd h_33 (by decide))) dX4_throwing_41
    · skip
      refine lv_iconst (v := nI 1) hx hb dX4_throwing_36 (by decide) ?_
      refine lv_goto (tgt := 41) hx hb dX4_throwing_37 (by decide) ?_
      exact xw_zret (v := nI 1) hx hb hr hlocks (by first | rfl | exact bI_nar _) hS (by unfold thrM; first | (rw [bI_t h_2]; exact hP) | (rw [bI_f h_2, bI_t h_10]; exact hP) | (rw [bI_f h_2, bI_f h_10, bI_t h_18]; exact hP) | (rw [bI_f h_2, bI_f h_10, bI_f h_18]; exact hP)) (bI_1 (by first | (rw [bI_t h_2]; rfl) | (rw [bI_t h_10, Bool.or_true]; rfl) | (rw [bI_t h_18, Bool.or_true]; done) | exact absurd h_33 (by decide))) dX4_throwing_41
set_option maxHeartbeats 4000000 in
set_option maxRecDepth 100000 in
theorem r_X4_look (l : Launch) (D : va_G) (a : Nat → Nat) (cI cZ : ClassId) (M : MS) (hO : mOk (sK M)) (hR : rOk (sR M)) (hT : nT (sN M) + 1200 < 2 ^ 31) : xWR l yX4_look cX4_look 5 none (xrm 2 48) [.ref (a 0)] D (wM a cI cZ M) (tyL cI cZ) none (wM a cI cZ (lookM M)) := by
  refine xWR.of (by decide +kernel) (Nat.le_of_ble_eq_true rfl) ?_
  intro p e s m args below meth cd hx hb hr hml hown hlocks ht hN hP hK hD hS ls hl
  have hl : lv_has ls 5 [(0, .ref (a 0))] := hl
  have hown : s.vm.findClass RX4 = some m.cls := hown
  have L2 : ∀ (n : Nat) (i : Nat), (120 < i + n) → (i ≤ 120) → ∀ (H : Heap) (locs : List Loc), va_P D vwCl (wM a cI cZ (lookMi M i)) H → va_D (xA (wM a cI cZ M)) (wM a cI cZ (lookMi M i)) → va_S (xA (wM a cI cZ M)) s.heap H locs → ∀ ls : Array Slot, lv_has ls 5 [(0, .ref (a 0)), (1, .int (nI i))] → W p l e (xrm 2 48) s m args below meth cd H locs 0 0 (MQ below (xQw none D (wM a cI cZ M) (wM a cI cZ (lookM M))) args s 0 0 (xA (wM a cI cZ M))) (F0 m 2 ls []) := by
    intro n
    induction n with
    | zero =>
      intro i hfuel hi
      exact absurd hfuel (by omega)
    | succ n ih2 =>
      intro i hfuel hi H locs hP hD hS ls hl
      have hle := (lookN_le (sR M) (sW M) (clM (sK M) (sC M)) (nI (sC M)) (sN M) i).2
      have L27 : ∀ (n : Nat) (u : Nat), (10 < u + n) → (u ≤ 10) → (i < 120) → (0 < u → ¬ sW M i = clM (sK M) (sC M) i) → ∀ (H : Heap) (locs : List Loc), va_P D vwCl (wM a cI cZ (lookMu M i u)) H → va_D (xA (wM a cI cZ M)) (wM a cI cZ (lookMu M i u)) → va_S (xA (wM a cI cZ M)) s.heap H locs → ∀ ls : Array Slot, lv_has ls 5 [(0, .ref (a 0)), (1, .int (nI i)), (2, .int (bI (clM (sK M) (sC M) i))), (3, .int (nI u))] → W p l e (xrm 2 48) s m args below meth cd H locs 0 0 (MQ below (xQw none D (wM a cI cZ M) (wM a cI cZ (lookM M))) args s 0 0 (xA (wM a cI cZ M))) (F0 m 27 ls []) := by
        intro n
        induction n with
        | zero =>
          intro u hfuel hu hi9 hne
          exact absurd hfuel (by omega)
        | succ n ih27 =>
          intro u hfuel hu hi9 hne H locs hP hD hS ls hl
          have hle2 := (tellN_le (sR M) i (clM (sK M) (sC M) i) (nI (sC M)) (lookN (sR M) (sW M) (clM (sK M) (sC M)) (nI (sC M)) (sN M) i) u).2
          refine lv_iload_n hx hb dX4_look_27 rfl (lv_at hl 3 rfl) ?_
          refine lv_bipush (v := nI 10) hx hb dX4_look_28 (by decide) ?_
          refine lv_icmp_ge (tgt := 144) hx hb dX4_look_30 (by decide) (fun h_30 => ?_) (fun h_30 => ?_)
          · skip
            have h_30 : 10 ≤ u := (nI_leI (by omega) (by omega)).mp h_30
            refine lv_aload_n hx hb dX4_look_144 rfl (lv_at hl 0 rfl) ?_
            refine va_get (D := D) (ci := 4) (v := .ref (a 13)) (C := RX4) (T := TX4) (N := 18) hx hb ht inX4 hown hK hP 0 rfl rfl 15 (by decide) (ht _ wd587) (fun _ h9 => h9) rfl dX4_look_145 ?_
            refine lv_iload_n hx hb dX4_look_148 rfl (lv_at hl 1 rfl) ?_
            refine lv_iload_n hx hb dX4_look_149 rfl (lv_at hl 2 rfl) ?_
            refine xa_zast hx hb hK hP hD hS 13 1 (i := i) (x := bI (clM (sK M) (sC M) i)) rfl rfl (by omega) (by decide) (by first | rfl | exact bI_vp _) dX4_look_150 (fun H locs hP hD hS => ?_)
            have hP : va_P D vwCl [(a 0, .inr (4, [.int (sE (lookMu M i u)), .int (nI (sC (lookMu M i u))), .int (nI (mN (sK (lookMu M i u)))), .ref (a 1), .ref (a 2), .ref (a 3), .ref (a 4), .ref (a 5), .ref (a 6), .ref (a 7), .ref (a 8), .ref (a 9), .ref (a 10), .ref (a 11), .ref (a 12), .ref (a 13), .int (nI (nT (sN (lookMu M i u)))), .ref (a 14)])), (a 1, .inl (cI, 100, .inl (mKd (sK (lookMu M i u))))), (a 2, .inl (cI, 100, .inl (mPc (sK (lookMu M i u))))), (a 3, .inl (cI, 100, .inl (mSd (sK (lookMu M i u))))), (a 4, .inl (cI, 100, .inl (mFr (sK (lookMu M i u))))), (a 5, .inl (cI, 100, .inl (mTo (sK (lookMu M i u))))), (a 6, .inl (cI, 100, .inl (mNu (sK (lookMu M i u))))), (a 7, .inl (cI, 100, .inl (mAn (sK (lookMu M i u))))), (a 8, .inl (cI, 100, .inl (mLi (sK (lookMu M i u))))), (a 9, .inl (cI, 100, .inl (mWd (sK (lookMu M i u))))), (a 10, .inl (cZ, 20, .inl (mOp (sK (lookMu M i u))))), (a 11, .inl (cI, 10, .inl (nF (rL (sR (lookMu M i u)))))), (a 12, .inl (cI, 120, .inl (nF (rP (sR (lookMu M i u)))))), (a 13, .inl (cZ, 120, .inl (upd (bF (sW (lookMu M i u))) i (bI (clM (sK M) (sC M) i))))), (a 14, .inl (cI, 500, .inl (nRw (sN (lookMu M i u)))))] H := hP
            have hD : va_D (xA (wM a cI cZ M)) [(a 0, .inr (4, [.int (sE (lookMu M i u)), .int (nI (sC (lookMu M i u))), .int (nI (mN (sK (lookMu M i u)))), .ref (a 1), .ref (a 2), .ref (a 3), .ref (a 4), .ref (a 5), .ref (a 6), .ref (a 7), .ref (a 8), .ref (a 9), .ref (a 10), .ref (a 11), .ref (a 12), .ref (a 13), .int (nI (nT (sN (lookMu M i u)))), .ref (a 14)])), (a 1, .inl (cI, 100, .inl (mKd (sK (lookMu M i u))))), (a 2, .inl (cI, 100, .inl (mPc (sK (lookMu M i u))))), (a 3, .inl (cI, 100, .inl (mSd (sK (lookMu M i u))))), (a 4, .inl (cI, 100, .inl (mFr (sK (lookMu M i u))))), (a 5, .inl (cI, 100, .inl (mTo (sK (lookMu M i u))))), (a 6, .inl (cI, 100, .inl (mNu (sK (lookMu M i u))))), (a 7, .inl (cI, 100, .inl (mAn (sK (lookMu M i u))))), (a 8, .inl (cI, 100, .inl (mLi (sK (lookMu M i u))))), (a 9, .inl (cI, 100, .inl (mWd (sK (lookMu M i u))))), (a 10, .inl (cZ, 20, .inl (mOp (sK (lookMu M i u))))), (a 11, .inl (cI, 10, .inl (nF (rL (sR (lookMu M i u)))))), (a 12, .inl (cI, 120, .inl (nF (rP (sR (lookMu M i u)))))), (a 13, .inl (cZ, 120, .inl (upd (bF (sW (lookMu M i u))) i (bI (clM (sK M) (sC M) i))))), (a 14, .inl (cI, 500, .inl (nRw (sN (lookMu M i u)))))] := hD
            refine lv_iinc (v := nI (i + 1)) (lv' := [(1, .int (nI (i + 1))), (0, .ref (a 0)), (2, .int (bI (clM (sK M) (sC M) i))), (3, .int (nI u))]) hx hb dX4_look_151 hl (k := 1) rfl (nI_1 _) (by decide) rfl (fun ls hl => ?_)
            refine lv_goto (tgt := 2) hx hb dX4_look_154 (by decide) ?_
            exact ih2 (i + 1) (by omega) (by omega) _ _ (by rw [bF_upd] at hP; first | (rw [← lookMw_e (u := u) (Or.inl ⟨by omega, hne (by omega)⟩)]; exact hP) | (rw [← lookMw_e (u := u) (Or.inr ⟨hz9, he9⟩)]; exact hP)) (xD_addr hD rfl) hS ls (lv_sub hl [1, 0] rfl)
          · skip
            have h_30 : ¬ (10 ≤ u) := fun z => h_30 ((nI_leI (by omega) (by omega)).mpr z)
            refine lv_iload_n hx hb dX4_look_33 rfl (lv_at hl 2 rfl) ?_
            refine lv_aload_n hx hb dX4_look_34 rfl (lv_at hl 0 rfl) ?_
            refine va_get (D := D) (ci := 4) (v := .ref (a 13)) (C := RX4) (T := TX4) (N := 18) hx hb ht inX4 hown hK hP 0 rfl rfl 15 (by decide) (ht _ wd587) (fun _ h9 => h9) rfl dX4_look_35 ?_
            refine lv_iload_n hx hb dX4_look_38 rfl (lv_at hl 1 rfl) ?_
            refine xa_zald hx hb hK hP 13 1 (i := i) rfl rfl (by omega) (by decide) dX4_look_39 ?_
            refine lv_icmp_eq (tgt := 144) hx hb dX4_look_40 (by decide) (fun h_40 => ?_) (fun h_40 => ?_)
            · skip
              have he9 : sW M i = clM (sK M) (sC M) i := by have z := bI_inj.mp h_40; rw [show sW (lookMu M i u) i = toldB (sW M) (clM (sK M) (sC M)) i i from rfl, toldB_at] at z; exact z.symm
              have hz9 : u = 0 := by rcases Nat.eq_zero_or_pos u with z | z; exact z; exact absurd he9 (hne z)
              refine lv_aload_n hx hb dX4_look_144 rfl (lv_at hl 0 rfl) ?_
              refine va_get (D := D) (ci := 4) (v := .ref (a 13)) (C := RX4) (T := TX4) (N := 18) hx hb ht inX4 hown hK hP 0 rfl rfl 15 (by decide) (ht _ wd587) (fun _ h9 => h9) rfl dX4_look_145 ?_
              refine lv_iload_n hx hb dX4_look_148 rfl (lv_at hl 1 rfl) ?_
              refine lv_iload_n hx hb dX4_look_149 rfl (lv_at hl 2 rfl) ?_
              refine xa_zast hx hb hK hP hD hS 13 1 (i := i) (x := bI (clM (sK M) (sC M) i)) rfl rfl (by omega) (by decide) (by first | rfl | exact bI_vp _) dX4_look_150 (fun H locs hP hD hS => ?_)
              have hP : va_P D vwCl [(a 0, .inr (4, [.int (sE (lookMu M i u)), .int (nI (sC (lookMu M i u))), .int (nI (mN (sK (lookMu M i u)))), .ref (a 1), .ref (a 2), .ref (a 3), .ref (a 4), .ref (a 5), .ref (a 6), .ref (a 7), .ref (a 8), .ref (a 9), .ref (a 10), .ref (a 11), .ref (a 12), .ref (a 13), .int (nI (nT (sN (lookMu M i u)))), .ref (a 14)])), (a 1, .inl (cI, 100, .inl (mKd (sK (lookMu M i u))))), (a 2, .inl (cI, 100, .inl (mPc (sK (lookMu M i u))))), (a 3, .inl (cI, 100, .inl (mSd (sK (lookMu M i u))))), (a 4, .inl (cI, 100, .inl (mFr (sK (lookMu M i u))))), (a 5, .inl (cI, 100, .inl (mTo (sK (lookMu M i u))))), (a 6, .inl (cI, 100, .inl (mNu (sK (lookMu M i u))))), (a 7, .inl (cI, 100, .inl (mAn (sK (lookMu M i u))))), (a 8, .inl (cI, 100, .inl (mLi (sK (lookMu M i u))))), (a 9, .inl (cI, 100, .inl (mWd (sK (lookMu M i u))))), (a 10, .inl (cZ, 20, .inl (mOp (sK (lookMu M i u))))), (a 11, .inl (cI, 10, .inl (nF (rL (sR (lookMu M i u)))))), (a 12, .inl (cI, 120, .inl (nF (rP (sR (lookMu M i u)))))), (a 13, .inl (cZ, 120, .inl (upd (bF (sW (lookMu M i u))) i (bI (clM (sK M) (sC M) i))))), (a 14, .inl (cI, 500, .inl (nRw (sN (lookMu M i u)))))] H := hP
              have hD : va_D (xA (wM a cI cZ M)) [(a 0, .inr (4, [.int (sE (lookMu M i u)), .int (nI (sC (lookMu M i u))), .int (nI (mN (sK (lookMu M i u)))), .ref (a 1), .ref (a 2), .ref (a 3), .ref (a 4), .ref (a 5), .ref (a 6), .ref (a 7), .ref (a 8), .ref (a 9), .ref (a 10), .ref (a 11), .ref (a 12), .ref (a 13), .int (nI (nT (sN (lookMu M i u)))), .ref (a 14)])), (a 1, .inl (cI, 100, .inl (mKd (sK (lookMu M i u))))), (a 2, .inl (cI, 100, .inl (mPc (sK (lookMu M i u))))), (a 3, .inl (cI, 100, .inl (mSd (sK (lookMu M i u))))), (a 4, .inl (cI, 100, .inl (mFr (sK (lookMu M i u))))), (a 5, .inl (cI, 100, .inl (mTo (sK (lookMu M i u))))), (a 6, .inl (cI, 100, .inl (mNu (sK (lookMu M i u))))), (a 7, .inl (cI, 100, .inl (mAn (sK (lookMu M i u))))), (a 8, .inl (cI, 100, .inl (mLi (sK (lookMu M i u))))), (a 9, .inl (cI, 100, .inl (mWd (sK (lookMu M i u))))), (a 10, .inl (cZ, 20, .inl (mOp (sK (lookMu M i u))))), (a 11, .inl (cI, 10, .inl (nF (rL (sR (lookMu M i u)))))), (a 12, .inl (cI, 120, .inl (nF (rP (sR (lookMu M i u)))))), (a 13, .inl (cZ, 120, .inl (upd (bF (sW (lookMu M i u))) i (bI (clM (sK M) (sC M) i))))), (a 14, .inl (cI, 500, .inl (nRw (sN (lookMu M i u)))))] := hD
              refine lv_iinc (v := nI (i + 1)) (lv' := [(1, .int (nI (i + 1))), (0, .ref (a 0)), (2, .int (bI (clM (sK M) (sC M) i))), (3, .int (nI u))]) hx hb dX4_look_151 hl (k := 1) rfl (nI_1 _) (by decide) rfl (fun ls hl => ?_)
              refine lv_goto (tgt := 2) hx hb dX4_look_154 (by decide) ?_
              exact ih2 (i + 1) (by omega) (by omega) _ _ (by rw [bF_upd] at hP; first | (rw [← lookMw_e (u := u) (Or.inl ⟨by omega, hne (by omega)⟩)]; exact hP) | (rw [← lookMw_e (u := u) (Or.inr ⟨hz9, he9⟩)]; exact hP)) (xD_addr hD rfl) hS ls (lv_sub hl [1, 0] rfl)
            · skip
              have hnq : ¬ sW M i = clM (sK M) (sC M) i := fun z => h_40 (bI_inj.mpr (by rw [show sW (lookMu M i u) i = toldB (sW M) (clM (sK M) (sC M)) i i from rfl, toldB_at]; exact z.symm))
              refine lv_aload_n hx hb dX4_look_43 rfl (lv_at hl 0 rfl) ?_
              refine lv_iload_n hx hb dX4_look_44 rfl (lv_at hl 3 rfl) ?_
              refine lv_iload_n hx hb dX4_look_45 rfl (lv_at hl 1 rfl) ?_
              refine xrV (As := [.int (nI u), .int (nI i)]) (rest := []) hx hb hml hown ht hN kV_X4_78 (r_X4_has l D a cI cZ (lookMu M i u) hR u (by omega) i hi9) ⟨by decide, by decide⟩ hP hK rfl rfl rfl rfl hl.1 rfl (Nat.le_of_ble_eq_true rfl) dX4_look_46 ⟨Nat.zero_le _, Nat.zero_le _⟩ ?_
              refine lv_if_eq (tgt := 138) hx hb dX4_look_49 (by decide) (fun h_49 => ?_) (fun h_49 => ?_)
              · skip
                have h_49 : bI (hasR (sR M) u i) = 0 := h_49
                refine lv_iinc (v := nI (u + 1)) (lv' := [(3, .int (nI (u + 1))), (0, .ref (a 0)), (1, .int (nI i)), (2, .int (bI (clM (sK M) (sC M) i)))]) hx hb dX4_look_138 hl (k := 3) rfl (nI_1 _) (by decide) rfl (fun ls hl => ?_)
                refine lv_goto (tgt := 27) hx hb dX4_look_141 (by decide) ?_
                exact ih27 (u + 1) (by omega) (by omega) hi9 (fun _ => hnq) _ _ (by first | (rw [← lookMu_s (bI_t h_49)]; exact hP) | (rw [← lookMu_n (bI_f h_49)]; exact hP)) (xD_addr hD rfl) hS ls (lv_sub hl [1, 2, 3, 0] rfl)
              · skip
                have h_49 : ¬ bI (hasR (sR M) u i) = 0 := h_49
                refine lv_iconst (v := nI 5) hx hb dX4_look_52 (by decide) ?_
                refine lv_aload_n hx hb dX4_look_53 rfl (lv_at hl 0 rfl) ?_
                refine va_get (D := D) (ci := 4) (v := .int (nI (nT (sN (lookMu M i u))))) (C := RX4) (T := TX4) (N := 18) hx hb ht inX4 hown hK hP 0 rfl rfl 16 (by decide) (ht _ wd588) (fun _ h9 => h9) rfl dX4_look_54 ?_
                refine lv_bipush (v := nI 100) hx hb dX4_look_57 (by decide) ?_
                refine lv_irem hx hb dX4_look_59 (by decide) ?_
                refine xtop (y := nI (nT (tellN (sR M) i (clM (sK M) (sC M) i) (nI (sC M)) (lookN (sR M) (sW M) (clM (sK M) (sC M)) (nI (sC M)) (sN M) i) u) % 100)) (pk_rem (by show nT (tellN (sR M) i (clM (sK M) (sC M) i) (nI (sC M)) (lookN (sR M) (sW M) (clM (sK M) (sC M)) (nI (sC M)) (sN M) i) u) < 2 ^ 31; omega) (by decide) (by decide)) ?_
                refine lv_imul hx hb dX4_look_60 ?_
                refine xtop (y := nI (fstT (nT (tellN (sR M) i (clM (sK M) (sC M) i) (nI (sC M)) (lookN (sR M) (sW M) (clM (sK M) (sC M)) (nI (sC M)) (sN M) i) u)))) (by rw [pk_mul, Nat.mul_comm]) ?_
                refine lv_istore (lv' := [(4, .int (nI (fstT (nT (tellN (sR M) i (clM (sK M) (sC M) i) (nI (sC M)) (lookN (sR M) (sW M) (clM (sK M) (sC M)) (nI (sC M)) (sN M) i) u))))), (0, .ref (a 0)), (1, .int (nI i)), (2, .int (bI (clM (sK M) (sC M) i))), (3, .int (nI u))]) hx hb dX4_look_61 hl (by decide) rfl (fun ls hl => ?_)
                refine lv_aload_n hx hb dX4_look_63 rfl (lv_at hl 1 rfl) ?_
                refine va_get (D := D) (ci := 4) (v := .ref (a 14)) (C := RX4) (T := TX4) (N := 18) hx hb ht inX4 hown hK hP 0 rfl rfl 17 (by decide) (ht _ wd589) (fun _ h9 => h9) rfl dX4_look_64 ?_
                refine lv_iload hx hb dX4_look_67 (lv_at hl 0 rfl) ?_
                refine lv_iload_n hx hb dX4_look_69 rfl (lv_at hl 4 rfl) ?_
                refine xa_iast hx hb hK hP hD hS 14 0 (i := (fstT (nT (tellN (sR M) i (clM (sK M) (sC M) i) (nI (sC M)) (lookN (sR M) (sW M) (clM (sK M) (sC M)) (nI (sC M)) (sN M) i) u)))) (x := nI u) rfl rfl (by show nT (tellN (sR M) i (clM (sK M) (sC M) i) (nI (sC M)) (lookN (sR M) (sW M) (clM (sK M) (sC M)) (nI (sC M)) (sN M) i) u) % 100 * 5 + 0 < 500; omega) (by decide) dX4_look_70 (fun H locs hP hD hS => ?_)
                have hP : va_P D vwCl [(a 0, .inr (4, [.int (sE (lookMu M i u)), .int (nI (sC (lookMu M i u))), .int (nI (mN (sK (lookMu M i u)))), .ref (a 1), .ref (a 2), .ref (a 3), .ref (a 4), .ref (a 5), .ref (a 6), .ref (a 7), .ref (a 8), .ref (a 9), .ref (a 10), .ref (a 11), .ref (a 12), .ref (a 13), .int (nI (nT (sN (lookMu M i u)))), .ref (a 14)])), (a 1, .inl (cI, 100, .inl (mKd (sK (lookMu M i u))))), (a 2, .inl (cI, 100, .inl (mPc (sK (lookMu M i u))))), (a 3, .inl (cI, 100, .inl (mSd (sK (lookMu M i u))))), (a 4, .inl (cI, 100, .inl (mFr (sK (lookMu M i u))))), (a 5, .inl (cI, 100, .inl (mTo (sK (lookMu M i u))))), (a 6, .inl (cI, 100, .inl (mNu (sK (lookMu M i u))))), (a 7, .inl (cI, 100, .inl (mAn (sK (lookMu M i u))))), (a 8, .inl (cI, 100, .inl (mLi (sK (lookMu M i u))))), (a 9, .inl (cI, 100, .inl (mWd (sK (lookMu M i u))))), (a 10, .inl (cZ, 20, .inl (mOp (sK (lookMu M i u))))), (a 11, .inl (cI, 10, .inl (nF (rL (sR (lookMu M i u)))))), (a 12, .inl (cI, 120, .inl (nF (rP (sR (lookMu M i u)))))), (a 13, .inl (cZ, 120, .inl (bF (sW (lookMu M i u))))), (a 14, .inl (cI, 500, .inl (upd (nRw (sN (lookMu M i u))) (fstT (nT (tellN (sR M) i (clM (sK M) (sC M) i) (nI (sC M)) (lookN (sR M) (sW M) (clM (sK M) (sC M)) (nI (sC M)) (sN M) i) u))) (nI u))))] H := hP
                have hD : va_D (xA (wM a cI cZ M)) [(a 0, .inr (4, [.int (sE (lookMu M i u)), .int (nI (sC (lookMu M i u))), .int (nI (mN (sK (lookMu M i u)))), .ref (a 1), .ref (a 2), .ref (a 3), .ref (a 4), .ref (a 5), .ref (a 6), .ref (a 7), .ref (a 8), .ref (a 9), .ref (a 10), .ref (a 11), .ref (a 12), .ref (a 13), .int (nI (nT (sN (lookMu M i u)))), .ref (a 14)])), (a 1, .inl (cI, 100, .inl (mKd (sK (lookMu M i u))))), (a 2, .inl (cI, 100, .inl (mPc (sK (lookMu M i u))))), (a 3, .inl (cI, 100, .inl (mSd (sK (lookMu M i u))))), (a 4, .inl (cI, 100, .inl (mFr (sK (lookMu M i u))))), (a 5, .inl (cI, 100, .inl (mTo (sK (lookMu M i u))))), (a 6, .inl (cI, 100, .inl (mNu (sK (lookMu M i u))))), (a 7, .inl (cI, 100, .inl (mAn (sK (lookMu M i u))))), (a 8, .inl (cI, 100, .inl (mLi (sK (lookMu M i u))))), (a 9, .inl (cI, 100, .inl (mWd (sK (lookMu M i u))))), (a 10, .inl (cZ, 20, .inl (mOp (sK (lookMu M i u))))), (a 11, .inl (cI, 10, .inl (nF (rL (sR (lookMu M i u)))))), (a 12, .inl (cI, 120, .inl (nF (rP (sR (lookMu M i u)))))), (a 13, .inl (cZ, 120, .inl (bF (sW (lookMu M i u))))), (a 14, .inl (cI, 500, .inl (upd (nRw (sN (lookMu M i u))) (fstT (nT (tellN (sR M) i (clM (sK M) (sC M) i) (nI (sC M)) (lookN (sR M) (sW M) (clM (sK M) (sC M)) (nI (sC M)) (sN M) i) u))) (nI u))))] := hD
                refine lv_aload_n hx hb dX4_look_71 rfl (lv_at hl 1 rfl) ?_
                refine va_get (D := D) (ci := 4) (v := .ref (a 14)) (C := RX4) (T := TX4) (N := 18) hx hb ht inX4 hown hK hP 0 rfl rfl 17 (by decide) (ht _ wd589) (fun _ h9 => h9) rfl dX4_look_72 ?_
                refine lv_iload hx hb dX4_look_75 (lv_at hl 0 rfl) ?_
                refine lv_iconst (v := nI 1) hx hb dX4_look_77 (by decide) ?_
                refine lv_iadd hx hb dX4_look_78 ?_
                refine xtop (y := nI (fstT (nT (tellN (sR M) i (clM (sK M) (sC M) i) (nI (sC M)) (lookN (sR M) (sW M) (clM (sK M) (sC M)) (nI (sC M)) (sN M) i) u)) + 1)) (nI_add _ _) ?_
                refine lv_iload_n hx hb dX4_look_79 rfl (lv_at hl 2 rfl) ?_
                refine lv_iconst (v := nI 2) hx hb dX4_look_80 (by decide) ?_
                refine lv_idiv hx hb dX4_look_81 (by decide) ?_
                refine xtop (y := nI (i / 2)) (pk_div (by omega) (by decide) (by decide)) ?_
                refine xa_iast hx hb hK hP hD hS 14 0 (i := (fstT (nT (tellN (sR M) i (clM (sK M) (sC M) i) (nI (sC M)) (lookN (sR M) (sW M) (clM (sK M) (sC M)) (nI (sC M)) (sN M) i) u)) + 1)) (x := nI (i / 2)) rfl rfl (by show nT (tellN (sR M) i (clM (sK M) (sC M) i) (nI (sC M)) (lookN (sR M) (sW M) (clM (sK M) (sC M)) (nI (sC M)) (sN M) i) u) % 100 * 5 + 1 < 500; omega) (by decide) dX4_look_82 (fun H locs hP hD hS => ?_)
                have hP : va_P D vwCl [(a 0, .inr (4, [.int (sE (lookMu M i u)), .int (nI (sC (lookMu M i u))), .int (nI (mN (sK (lookMu M i u)))), .ref (a 1), .ref (a 2), .ref (a 3), .ref (a 4), .ref (a 5), .ref (a 6), .ref (a 7), .ref (a 8), .ref (a 9), .ref (a 10), .ref (a 11), .ref (a 12), .ref (a 13), .int (nI (nT (sN (lookMu M i u)))), .ref (a 14)])), (a 1, .inl (cI, 100, .inl (mKd (sK (lookMu M i u))))), (a 2, .inl (cI, 100, .inl (mPc (sK (lookMu M i u))))), (a 3, .inl (cI, 100, .inl (mSd (sK (lookMu M i u))))), (a 4, .inl (cI, 100, .inl (mFr (sK (lookMu M i u))))), (a 5, .inl (cI, 100, .inl (mTo (sK (lookMu M i u))))), (a 6, .inl (cI, 100, .inl (mNu (sK (lookMu M i u))))), (a 7, .inl (cI, 100, .inl (mAn (sK (lookMu M i u))))), (a 8, .inl (cI, 100, .inl (mLi (sK (lookMu M i u))))), (a 9, .inl (cI, 100, .inl (mWd (sK (lookMu M i u))))), (a 10, .inl (cZ, 20, .inl (mOp (sK (lookMu M i u))))), (a 11, .inl (cI, 10, .inl (nF (rL (sR (lookMu M i u)))))), (a 12, .inl (cI, 120, .inl (nF (rP (sR (lookMu M i u)))))), (a 13, .inl (cZ, 120, .inl (bF (sW (lookMu M i u))))), (a 14, .inl (cI, 500, .inl (upd (upd (nRw (sN (lookMu M i u))) (fstT (nT (tellN (sR M) i (clM (sK M) (sC M) i) (nI (sC M)) (lookN (sR M) (sW M) (clM (sK M) (sC M)) (nI (sC M)) (sN M) i) u))) (nI u)) (fstT (nT (tellN (sR M) i (clM (sK M) (sC M) i) (nI (sC M)) (lookN (sR M) (sW M) (clM (sK M) (sC M)) (nI (sC M)) (sN M) i) u)) + 1) (nI (i / 2)))))] H := hP
                have hD : va_D (xA (wM a cI cZ M)) [(a 0, .inr (4, [.int (sE (lookMu M i u)), .int (nI (sC (lookMu M i u))), .int (nI (mN (sK (lookMu M i u)))), .ref (a 1), .ref (a 2), .ref (a 3), .ref (a 4), .ref (a 5), .ref (a 6), .ref (a 7), .ref (a 8), .ref (a 9), .ref (a 10), .ref (a 11), .ref (a 12), .ref (a 13), .int (nI (nT (sN (lookMu M i u)))), .ref (a 14)])), (a 1, .inl (cI, 100, .inl (mKd (sK (lookMu M i u))))), (a 2, .inl (cI, 100, .inl (mPc (sK (lookMu M i u))))), (a 3, .inl (cI, 100, .inl (mSd (sK (lookMu M i u))))), (a 4, .inl (cI, 100, .inl (mFr (sK (lookMu M i u))))), (a 5, .inl (cI, 100, .inl (mTo (sK (lookMu M i u))))), (a 6, .inl (cI, 100, .inl (mNu (sK (lookMu M i u))))), (a 7, .inl (cI, 100, .inl (mAn (sK (lookMu M i u))))), (a 8, .inl (cI, 100, .inl (mLi (sK (lookMu M i u))))), (a 9, .inl (cI, 100, .inl (mWd (sK (lookMu M i u))))), (a 10, .inl (cZ, 20, .inl (mOp (sK (lookMu M i u))))), (a 11, .inl (cI, 10, .inl (nF (rL (sR (lookMu M i u)))))), (a 12, .inl (cI, 120, .inl (nF (rP (sR (lookMu M i u)))))), (a 13, .inl (cZ, 120, .inl (bF (sW (lookMu M i u))))), (a 14, .inl (cI, 500, .inl (upd (upd (nRw (sN (lookMu M i u))) (fstT (nT (tellN (sR M) i (clM (sK M) (sC M) i) (nI (sC M)) (lookN (sR M) (sW M) (clM (sK M) (sC M)) (nI (sC M)) (sN M) i) u))) (nI u)) (fstT (nT (tellN (sR M) i (clM (sK M) (sC M) i) (nI (sC M)) (lookN (sR M) (sW M) (clM (sK M) (sC M)) (nI (sC M)) (sN M) i) u)) + 1) (nI (i / 2)))))] := hD
                refine lv_aload_n hx hb dX4_look_83 rfl (lv_at hl 1 rfl) ?_
                refine va_get (D := D) (ci := 4) (v := .ref (a 14)) (C := RX4) (T := TX4) (N := 18) hx hb ht inX4 hown hK hP 0 rfl rfl 17 (by decide) (ht _ wd589) (fun _ h9 => h9) rfl dX4_look_84 ?_
                refine lv_iload hx hb dX4_look_87 (lv_at hl 0 rfl) ?_
                refine lv_iconst (v := nI 2) hx hb dX4_look_89 (by decide) ?_
                refine lv_iadd hx hb dX4_look_90 ?_
                refine xtop (y := nI (fstT (nT (tellN (sR M) i (clM (sK M) (sC M) i) (nI (sC M)) (lookN (sR M) (sW M) (clM (sK M) (sC M)) (nI (sC M)) (sN M) i) u)) + 2)) (nI_add _ _) ?_
                refine lv_iload_n hx hb dX4_look_91 rfl (lv_at hl 2 rfl) ?_
                refine lv_iconst (v := nI 2) hx hb dX4_look_92 (by decide) ?_
                refine lv_irem hx hb dX4_look_93 (by decide) ?_
                refine xtop (y := nI (i % 2)) (pk_rem (by omega) (by decide) (by decide)) ?_
                refine lv_iconst (v := nI 1) hx hb dX4_look_94 (by decide) ?_
                refine lv_iadd hx hb dX4_look_95 ?_
                refine xtop (y := nI (i % 2 + 1)) (nI_add _ _) ?_
                refine xa_iast hx hb hK hP hD hS 14 0 (i := (fstT (nT (tellN (sR M) i (clM (sK M) (sC M) i) (nI (sC M)) (lookN (sR M) (sW M) (clM (sK M) (sC M)) (nI (sC M)) (sN M) i) u)) + 2)) (x := nI (i % 2 + 1)) rfl rfl (by show nT (tellN (sR M) i (clM (sK M) (sC M) i) (nI (sC M)) (lookN (sR M) (sW M) (clM (sK M) (sC M)) (nI (sC M)) (sN M) i) u) % 100 * 5 + 2 < 500; omega) (by decide) dX4_look_96 (fun H locs hP hD hS => ?_)
                have hP : va_P D vwCl [(a 0, .inr (4, [.int (sE (lookMu M i u)), .int (nI (sC (lookMu M i u))), .int (nI (mN (sK (lookMu M i u)))), .ref (a 1), .ref (a 2), .ref (a 3), .ref (a 4), .ref (a 5), .ref (a 6), .ref (a 7), .ref (a 8), .ref (a 9), .ref (a 10), .ref (a 11), .ref (a 12), .ref (a 13), .int (nI (nT (sN (lookMu M i u)))), .ref (a 14)])), (a 1, .inl (cI, 100, .inl (mKd (sK (lookMu M i u))))), (a 2, .inl (cI, 100, .inl (mPc (sK (lookMu M i u))))), (a 3, .inl (cI, 100, .inl (mSd (sK (lookMu M i u))))), (a 4, .inl (cI, 100, .inl (mFr (sK (lookMu M i u))))), (a 5, .inl (cI, 100, .inl (mTo (sK (lookMu M i u))))), (a 6, .inl (cI, 100, .inl (mNu (sK (lookMu M i u))))), (a 7, .inl (cI, 100, .inl (mAn (sK (lookMu M i u))))), (a 8, .inl (cI, 100, .inl (mLi (sK (lookMu M i u))))), (a 9, .inl (cI, 100, .inl (mWd (sK (lookMu M i u))))), (a 10, .inl (cZ, 20, .inl (mOp (sK (lookMu M i u))))), (a 11, .inl (cI, 10, .inl (nF (rL (sR (lookMu M i u)))))), (a 12, .inl (cI, 120, .inl (nF (rP (sR (lookMu M i u)))))), (a 13, .inl (cZ, 120, .inl (bF (sW (lookMu M i u))))), (a 14, .inl (cI, 500, .inl (upd (upd (upd (nRw (sN (lookMu M i u))) (fstT (nT (tellN (sR M) i (clM (sK M) (sC M) i) (nI (sC M)) (lookN (sR M) (sW M) (clM (sK M) (sC M)) (nI (sC M)) (sN M) i) u))) (nI u)) (fstT (nT (tellN (sR M) i (clM (sK M) (sC M) i) (nI (sC M)) (lookN (sR M) (sW M) (clM (sK M) (sC M)) (nI (sC M)) (sN M) i) u)) + 1) (nI (i / 2))) (fstT (nT (tellN (sR M) i (clM (sK M) (sC M) i) (nI (sC M)) (lookN (sR M) (sW M) (clM (sK M) (sC M)) (nI (sC M)) (sN M) i) u)) + 2) (nI (i % 2 + 1)))))] H := hP
                have hD : va_D (xA (wM a cI cZ M)) [(a 0, .inr (4, [.int (sE (lookMu M i u)), .int (nI (sC (lookMu M i u))), .int (nI (mN (sK (lookMu M i u)))), .ref (a 1), .ref (a 2), .ref (a 3), .ref (a 4), .ref (a 5), .ref (a 6), .ref (a 7), .ref (a 8), .ref (a 9), .ref (a 10), .ref (a 11), .ref (a 12), .ref (a 13), .int (nI (nT (sN (lookMu M i u)))), .ref (a 14)])), (a 1, .inl (cI, 100, .inl (mKd (sK (lookMu M i u))))), (a 2, .inl (cI, 100, .inl (mPc (sK (lookMu M i u))))), (a 3, .inl (cI, 100, .inl (mSd (sK (lookMu M i u))))), (a 4, .inl (cI, 100, .inl (mFr (sK (lookMu M i u))))), (a 5, .inl (cI, 100, .inl (mTo (sK (lookMu M i u))))), (a 6, .inl (cI, 100, .inl (mNu (sK (lookMu M i u))))), (a 7, .inl (cI, 100, .inl (mAn (sK (lookMu M i u))))), (a 8, .inl (cI, 100, .inl (mLi (sK (lookMu M i u))))), (a 9, .inl (cI, 100, .inl (mWd (sK (lookMu M i u))))), (a 10, .inl (cZ, 20, .inl (mOp (sK (lookMu M i u))))), (a 11, .inl (cI, 10, .inl (nF (rL (sR (lookMu M i u)))))), (a 12, .inl (cI, 120, .inl (nF (rP (sR (lookMu M i u)))))), (a 13, .inl (cZ, 120, .inl (bF (sW (lookMu M i u))))), (a 14, .inl (cI, 500, .inl (upd (upd (upd (nRw (sN (lookMu M i u))) (fstT (nT (tellN (sR M) i (clM (sK M) (sC M) i) (nI (sC M)) (lookN (sR M) (sW M) (clM (sK M) (sC M)) (nI (sC M)) (sN M) i) u))) (nI u)) (fstT (nT (tellN (sR M) i (clM (sK M) (sC M) i) (nI (sC M)) (lookN (sR M) (sW M) (clM (sK M) (sC M)) (nI (sC M)) (sN M) i) u)) + 1) (nI (i / 2))) (fstT (nT (tellN (sR M) i (clM (sK M) (sC M) i) (nI (sC M)) (lookN (sR M) (sW M) (clM (sK M) (sC M)) (nI (sC M)) (sN M) i) u)) + 2) (nI (i % 2 + 1)))))] := hD
                refine lv_aload_n hx hb dX4_look_97 rfl (lv_at hl 1 rfl) ?_
                refine va_get (D := D) (ci := 4) (v := .ref (a 14)) (C := RX4) (T := TX4) (N := 18) hx hb ht inX4 hown hK hP 0 rfl rfl 17 (by decide) (ht _ wd589) (fun _ h9 => h9) rfl dX4_look_98 ?_
                refine lv_iload hx hb dX4_look_101 (lv_at hl 0 rfl) ?_
                refine lv_iconst (v := nI 3) hx hb dX4_look_103 (by decide) ?_
                refine lv_iadd hx hb dX4_look_104 ?_
                refine xtop (y := nI (fstT (nT (tellN (sR M) i (clM (sK M) (sC M) i) (nI (sC M)) (lookN (sR M) (sW M) (clM (sK M) (sC M)) (nI (sC M)) (sN M) i) u)) + 3)) (nI_add _ _) ?_
                refine lv_iload_n hx hb dX4_look_105 rfl (lv_at hl 3 rfl) ?_
                refine lv_if_eq (tgt := 113) hx hb dX4_look_106 (by decide) (fun h_106 => ?_) (fun h_106 => ?_)
                · skip
                  refine lv_iconst (v := nI 0) hx hb dX4_look_113 (by decide) ?_
                  refine xtop (y := bI (clM (sK M) (sC M) i)) (by first | exact bI_0 (bI_f h_106) | exact bI_1 (bI_t h_106)) ?_
                  refine xa_iast hx hb hK hP hD hS 14 0 (i := (fstT (nT (tellN (sR M) i (clM (sK M) (sC M) i) (nI (sC M)) (lookN (sR M) (sW M) (clM (sK M) (sC M)) (nI (sC M)) (sN M) i) u)) + 3)) (x := bI (clM (sK M) (sC M) i)) rfl rfl (by show nT (tellN (sR M) i (clM (sK M) (sC M) i) (nI (sC M)) (lookN (sR M) (sW M) (clM (sK M) (sC M)) (nI (sC M)) (sN M) i) u) % 100 * 5 + 3 < 500; omega) (by decide) dX4_look_114 (fun H locs hP hD hS => ?_)
                  have hP : va_P D vwCl [(a 0, .inr (4, [.int (sE (lookMu M i u)), .int (nI (sC (lookMu M i u))), .int (nI (mN (sK (lookMu M i u)))), .ref (a 1), .ref (a 2), .ref (a 3), .ref (a 4), .ref (a 5), .ref (a 6), .ref (a 7), .ref (a 8), .ref (a 9), .ref (a 10), .ref (a 11), .ref (a 12), .ref (a 13), .int (nI (nT (sN (lookMu M i u)))), .ref (a 14)])), (a 1, .inl (cI, 100, .inl (mKd (sK (lookMu M i u))))), (a 2, .inl (cI, 100, .inl (mPc (sK (lookMu M i u))))), (a 3, .inl (cI, 100, .inl (mSd (sK (lookMu M i u))))), (a 4, .inl (cI, 100, .inl (mFr (sK (lookMu M i u))))), (a 5, .inl (cI, 100, .inl (mTo (sK (lookMu M i u))))), (a 6, .inl (cI, 100, .inl (mNu (sK (lookMu M i u))))), (a 7, .inl (cI, 100, .inl (mAn (sK (lookMu M i u))))), (a 8, .inl (cI, 100, .inl (mLi (sK (lookMu M i u))))), (a 9, .inl (cI, 100, .inl (mWd (sK (lookMu M i u))))), (a 10, .inl (cZ, 20, .inl (mOp (sK (lookMu M i u))))), (a 11, .inl (cI, 10, .inl (nF (rL (sR (lookMu M i u)))))), (a 12, .inl (cI, 120, .inl (nF (rP (sR (lookMu M i u)))))), (a 13, .inl (cZ, 120, .inl (bF (sW (lookMu M i u))))), (a 14, .inl (cI, 500, .inl (upd (upd (upd (upd (nRw (sN (lookMu M i u))) (fstT (nT (tellN (sR M) i (clM (sK M) (sC M) i) (nI (sC M)) (lookN (sR M) (sW M) (clM (sK M) (sC M)) (nI (sC M)) (sN M) i) u))) (nI u)) (fstT (nT (tellN (sR M) i (clM (sK M) (sC M) i) (nI (sC M)) (lookN (sR M) (sW M) (clM (sK M) (sC M)) (nI (sC M)) (sN M) i) u)) + 1) (nI (i / 2))) (fstT (nT (tellN (sR M) i (clM (sK M) (sC M) i) (nI (sC M)) (lookN (sR M) (sW M) (clM (sK M) (sC M)) (nI (sC M)) (sN M) i) u)) + 2) (nI (i % 2 + 1))) (fstT (nT (tellN (sR M) i (clM (sK M) (sC M) i) (nI (sC M)) (lookN (sR M) (sW M) (clM (sK M) (sC M)) (nI (sC M)) (sN M) i) u)) + 3) (bI (clM (sK M) (sC M) i)))))] H := hP
                  have hD : va_D (xA (wM a cI cZ M)) [(a 0, .inr (4, [.int (sE (lookMu M i u)), .int (nI (sC (lookMu M i u))), .int (nI (mN (sK (lookMu M i u)))), .ref (a 1), .ref (a 2), .ref (a 3), .ref (a 4), .ref (a 5), .ref (a 6), .ref (a 7), .ref (a 8), .ref (a 9), .ref (a 10), .ref (a 11), .ref (a 12), .ref (a 13), .int (nI (nT (sN (lookMu M i u)))), .ref (a 14)])), (a 1, .inl (cI, 100, .inl (mKd (sK (lookMu M i u))))), (a 2, .inl (cI, 100, .inl (mPc (sK (lookMu M i u))))), (a 3, .inl (cI, 100, .inl (mSd (sK (lookMu M i u))))), (a 4, .inl (cI, 100, .inl (mFr (sK (lookMu M i u))))), (a 5, .inl (cI, 100, .inl (mTo (sK (lookMu M i u))))), (a 6, .inl (cI, 100, .inl (mNu (sK (lookMu M i u))))), (a 7, .inl (cI, 100, .inl (mAn (sK (lookMu M i u))))), (a 8, .inl (cI, 100, .inl (mLi (sK (lookMu M i u))))), (a 9, .inl (cI, 100, .inl (mWd (sK (lookMu M i u))))), (a 10, .inl (cZ, 20, .inl (mOp (sK (lookMu M i u))))), (a 11, .inl (cI, 10, .inl (nF (rL (sR (lookMu M i u)))))), (a 12, .inl (cI, 120, .inl (nF (rP (sR (lookMu M i u)))))), (a 13, .inl (cZ, 120, .inl (bF (sW (lookMu M i u))))), (a 14, .inl (cI, 500, .inl (upd (upd (upd (upd (nRw (sN (lookMu M i u))) (fstT (nT (tellN (sR M) i (clM (sK M) (sC M) i) (nI (sC M)) (lookN (sR M) (sW M) (clM (sK M) (sC M)) (nI (sC M)) (sN M) i) u))) (nI u)) (fstT (nT (tellN (sR M) i (clM (sK M) (sC M) i) (nI (sC M)) (lookN (sR M) (sW M) (clM (sK M) (sC M)) (nI (sC M)) (sN M) i) u)) + 1) (nI (i / 2))) (fstT (nT (tellN (sR M) i (clM (sK M) (sC M) i) (nI (sC M)) (lookN (sR M) (sW M) (clM (sK M) (sC M)) (nI (sC M)) (sN M) i) u)) + 2) (nI (i % 2 + 1))) (fstT (nT (tellN (sR M) i (clM (sK M) (sC M) i) (nI (sC M)) (lookN (sR M) (sW M) (clM (sK M) (sC M)) (nI (sC M)) (sN M) i) u)) + 3) (bI (clM (sK M) (sC M) i)))))] := hD
                  refine lv_aload_n hx hb dX4_look_115 rfl (lv_at hl 1 rfl) ?_
                  refine va_get (D := D) (ci := 4) (v := .ref (a 14)) (C := RX4) (T := TX4) (N := 18) hx hb ht inX4 hown hK hP 0 rfl rfl 17 (by decide) (ht _ wd589) (fun _ h9 => h9) rfl dX4_look_116 ?_
                  refine lv_iload hx hb dX4_look_119 (lv_at hl 0 rfl) ?_
                  refine lv_iconst (v := nI 4) hx hb dX4_look_121 (by decide) ?_
                  refine lv_iadd hx hb dX4_look_122 ?_
                  refine xtop (y := nI (fstT (nT (tellN (sR M) i (clM (sK M) (sC M) i) (nI (sC M)) (lookN (sR M) (sW M) (clM (sK M) (sC M)) (nI (sC M)) (sN M) i) u)) + 4)) (nI_add _ _) ?_
                  refine lv_aload_n hx hb dX4_look_123 rfl (lv_at hl 1 rfl) ?_
                  refine va_get (D := D) (ci := 4) (v := .int (nI (sC (lookMu M i u)))) (C := RX4) (T := TX4) (N := 18) hx hb ht inX4 hown hK hP 0 rfl rfl 1 (by decide) (ht _ wd573) (fun _ h9 => h9) rfl dX4_look_124 ?_
                  refine xa_iast hx hb hK hP hD hS 14 0 (i := (fstT (nT (tellN (sR M) i (clM (sK M) (sC M) i) (nI (sC M)) (lookN (sR M) (sW M) (clM (sK M) (sC M)) (nI (sC M)) (sN M) i) u)) + 4)) (x := nI (sC (lookMu M i u))) rfl rfl (by show nT (tellN (sR M) i (clM (sK M) (sC M) i) (nI (sC M)) (lookN (sR M) (sW M) (clM (sK M) (sC M)) (nI (sC M)) (sN M) i) u) % 100 * 5 + 4 < 500; omega) (by decide) dX4_look_127 (fun H locs hP hD hS => ?_)
                  have hP : va_P D vwCl [(a 0, .inr (4, [.int (sE (lookMu M i u)), .int (nI (sC (lookMu M i u))), .int (nI (mN (sK (lookMu M i u)))), .ref (a 1), .ref (a 2), .ref (a 3), .ref (a 4), .ref (a 5), .ref (a 6), .ref (a 7), .ref (a 8), .ref (a 9), .ref (a 10), .ref (a 11), .ref (a 12), .ref (a 13), .int (nI (nT (sN (lookMu M i u)))), .ref (a 14)])), (a 1, .inl (cI, 100, .inl (mKd (sK (lookMu M i u))))), (a 2, .inl (cI, 100, .inl (mPc (sK (lookMu M i u))))), (a 3, .inl (cI, 100, .inl (mSd (sK (lookMu M i u))))), (a 4, .inl (cI, 100, .inl (mFr (sK (lookMu M i u))))), (a 5, .inl (cI, 100, .inl (mTo (sK (lookMu M i u))))), (a 6, .inl (cI, 100, .inl (mNu (sK (lookMu M i u))))), (a 7, .inl (cI, 100, .inl (mAn (sK (lookMu M i u))))), (a 8, .inl (cI, 100, .inl (mLi (sK (lookMu M i u))))), (a 9, .inl (cI, 100, .inl (mWd (sK (lookMu M i u))))), (a 10, .inl (cZ, 20, .inl (mOp (sK (lookMu M i u))))), (a 11, .inl (cI, 10, .inl (nF (rL (sR (lookMu M i u)))))), (a 12, .inl (cI, 120, .inl (nF (rP (sR (lookMu M i u)))))), (a 13, .inl (cZ, 120, .inl (bF (sW (lookMu M i u))))), (a 14, .inl (cI, 500, .inl (upd (upd (upd (upd (upd (nRw (sN (lookMu M i u))) (fstT (nT (tellN (sR M) i (clM (sK M) (sC M) i) (nI (sC M)) (lookN (sR M) (sW M) (clM (sK M) (sC M)) (nI (sC M)) (sN M) i) u))) (nI u)) (fstT (nT (tellN (sR M) i (clM (sK M) (sC M) i) (nI (sC M)) (lookN (sR M) (sW M) (clM (sK M) (sC M)) (nI (sC M)) (sN M) i) u)) + 1) (nI (i / 2))) (fstT (nT (tellN (sR M) i (clM (sK M) (sC M) i) (nI (sC M)) (lookN (sR M) (sW M) (clM (sK M) (sC M)) (nI (sC M)) (sN M) i) u)) + 2) (nI (i % 2 + 1))) (fstT (nT (tellN (sR M) i (clM (sK M) (sC M) i) (nI (sC M)) (lookN (sR M) (sW M) (clM (sK M) (sC M)) (nI (sC M)) (sN M) i) u)) + 3) (bI (clM (sK M) (sC M) i))) (fstT (nT (tellN (sR M) i (clM (sK M) (sC M) i) (nI (sC M)) (lookN (sR M) (sW M) (clM (sK M) (sC M)) (nI (sC M)) (sN M) i) u)) + 4) (nI (sC (lookMu M i u))))))] H := hP
                  have hD : va_D (xA (wM a cI cZ M)) [(a 0, .inr (4, [.int (sE (lookMu M i u)), .int (nI (sC (lookMu M i u))), .int (nI (mN (sK (lookMu M i u)))), .ref (a 1), .ref (a 2), .ref (a 3), .ref (a 4), .ref (a 5), .ref (a 6), .ref (a 7), .ref (a 8), .ref (a 9), .ref (a 10), .ref (a 11), .ref (a 12), .ref (a 13), .int (nI (nT (sN (lookMu M i u)))), .ref (a 14)])), (a 1, .inl (cI, 100, .inl (mKd (sK (lookMu M i u))))), (a 2, .inl (cI, 100, .inl (mPc (sK (lookMu M i u))))), (a 3, .inl (cI, 100, .inl (mSd (sK (lookMu M i u))))), (a 4, .inl (cI, 100, .inl (mFr (sK (lookMu M i u))))), (a 5, .inl (cI, 100, .inl (mTo (sK (lookMu M i u))))), (a 6, .inl (cI, 100, .inl (mNu (sK (lookMu M i u))))), (a 7, .inl (cI, 100, .inl (mAn (sK (lookMu M i u))))), (a 8, .inl (cI, 100, .inl (mLi (sK (lookMu M i u))))), (a 9, .inl (cI, 100, .inl (mWd (sK (lookMu M i u))))), (a 10, .inl (cZ, 20, .inl (mOp (sK (lookMu M i u))))), (a 11, .inl (cI, 10, .inl (nF (rL (sR (lookMu M i u)))))), (a 12, .inl (cI, 120, .inl (nF (rP (sR (lookMu M i u)))))), (a 13, .inl (cZ, 120, .inl (bF (sW (lookMu M i u))))), (a 14, .inl (cI, 500, .inl (upd (upd (upd (upd (upd (nRw (sN (lookMu M i u))) (fstT (nT (tellN (sR M) i (clM (sK M) (sC M) i) (nI (sC M)) (lookN (sR M) (sW M) (clM (sK M) (sC M)) (nI (sC M)) (sN M) i) u))) (nI u)) (fstT (nT (tellN (sR M) i (clM (sK M) (sC M) i) (nI (sC M)) (lookN (sR M) (sW M) (clM (sK M) (sC M)) (nI (sC M)) (sN M) i) u)) + 1) (nI (i / 2))) (fstT (nT (tellN (sR M) i (clM (sK M) (sC M) i) (nI (sC M)) (lookN (sR M) (sW M) (clM (sK M) (sC M)) (nI (sC M)) (sN M) i) u)) + 2) (nI (i % 2 + 1))) (fstT (nT (tellN (sR M) i (clM (sK M) (sC M) i) (nI (sC M)) (lookN (sR M) (sW M) (clM (sK M) (sC M)) (nI (sC M)) (sN M) i) u)) + 3) (bI (clM (sK M) (sC M) i))) (fstT (nT (tellN (sR M) i (clM (sK M) (sC M) i) (nI (sC M)) (lookN (sR M) (sW M) (clM (sK M) (sC M)) (nI (sC M)) (sN M) i) u)) + 4) (nI (sC (lookMu M i u))))))] := hD
                  refine lv_aload_n hx hb dX4_look_128 rfl (lv_at hl 1 rfl) ?_
                  refine lv_dup hx hb dX4_look_129 rfl ?_
                  refine va_get (D := D) (ci := 4) (v := .int (nI (nT (sN (lookMu M i u))))) (C := RX4) (T := TX4) (N := 18) hx hb ht inX4 hown hK hP 0 rfl rfl 16 (by decide) (ht _ wd588) (fun _ h9 => h9) rfl dX4_look_130 ?_
                  refine lv_iconst (v := nI 1) hx hb dX4_look_133 (by decide) ?_
                  refine lv_iadd hx hb dX4_look_134 ?_
                  refine xtop (y := nI (nT (tellN (sR M) i (clM (sK M) (sC M) i) (nI (sC M)) (lookN (sR M) (sW M) (clM (sK M) (sC M)) (nI (sC M)) (sN M) i) u) + 1)) (nI_add _ _) ?_
                  refine va_put (D := D) (ci := 4) (v := .int (nI (nT (tellN (sR M) i (clM (sK M) (sC M) i) (nI (sC M)) (lookN (sR M) (sW M) (clM (sK M) (sC M)) (nI (sC M)) (sN M) i) u) + 1))) (ty := .int) (C := RX4) (T := TX4) (N := 18) hx hb ht inX4 tyX4 tyX4_ok nmX4 hown hK hP hD hS 0 rfl rfl 16 (by decide) (ht _ wd588) (fun _ h9 => h9) rfl (by decide +kernel) rfl rfl (Nat.le_of_ble_eq_true rfl) dX4_look_135 (fun H locs hP hD hS => ?_)
                  have hP : va_P D vwCl [(a 0, .inr (4, [.int (sE (lookMu M i u)), .int (nI (sC (lookMu M i u))), .int (nI (mN (sK (lookMu M i u)))), .ref (a 1), .ref (a 2), .ref (a 3), .ref (a 4), .ref (a 5), .ref (a 6), .ref (a 7), .ref (a 8), .ref (a 9), .ref (a 10), .ref (a 11), .ref (a 12), .ref (a 13), .int (nI (nT (tellN (sR M) i (clM (sK M) (sC M) i) (nI (sC M)) (lookN (sR M) (sW M) (clM (sK M) (sC M)) (nI (sC M)) (sN M) i) u) + 1)), .ref (a 14)])), (a 1, .inl (cI, 100, .inl (mKd (sK (lookMu M i u))))), (a 2, .inl (cI, 100, .inl (mPc (sK (lookMu M i u))))), (a 3, .inl (cI, 100, .inl (mSd (sK (lookMu M i u))))), (a 4, .inl (cI, 100, .inl (mFr (sK (lookMu M i u))))), (a 5, .inl (cI, 100, .inl (mTo (sK (lookMu M i u))))), (a 6, .inl (cI, 100, .inl (mNu (sK (lookMu M i u))))), (a 7, .inl (cI, 100, .inl (mAn (sK (lookMu M i u))))), (a 8, .inl (cI, 100, .inl (mLi (sK (lookMu M i u))))), (a 9, .inl (cI, 100, .inl (mWd (sK (lookMu M i u))))), (a 10, .inl (cZ, 20, .inl (mOp (sK (lookMu M i u))))), (a 11, .inl (cI, 10, .inl (nF (rL (sR (lookMu M i u)))))), (a 12, .inl (cI, 120, .inl (nF (rP (sR (lookMu M i u)))))), (a 13, .inl (cZ, 120, .inl (bF (sW (lookMu M i u))))), (a 14, .inl (cI, 500, .inl (upd (upd (upd (upd (upd (nRw (sN (lookMu M i u))) (fstT (nT (tellN (sR M) i (clM (sK M) (sC M) i) (nI (sC M)) (lookN (sR M) (sW M) (clM (sK M) (sC M)) (nI (sC M)) (sN M) i) u))) (nI u)) (fstT (nT (tellN (sR M) i (clM (sK M) (sC M) i) (nI (sC M)) (lookN (sR M) (sW M) (clM (sK M) (sC M)) (nI (sC M)) (sN M) i) u)) + 1) (nI (i / 2))) (fstT (nT (tellN (sR M) i (clM (sK M) (sC M) i) (nI (sC M)) (lookN (sR M) (sW M) (clM (sK M) (sC M)) (nI (sC M)) (sN M) i) u)) + 2) (nI (i % 2 + 1))) (fstT (nT (tellN (sR M) i (clM (sK M) (sC M) i) (nI (sC M)) (lookN (sR M) (sW M) (clM (sK M) (sC M)) (nI (sC M)) (sN M) i) u)) + 3) (bI (clM (sK M) (sC M) i))) (fstT (nT (tellN (sR M) i (clM (sK M) (sC M) i) (nI (sC M)) (lookN (sR M) (sW M) (clM (sK M) (sC M)) (nI (sC M)) (sN M) i) u)) + 4) (nI (sC (lookMu M i u))))))] H := hP
                  have hD : va_D (xA (wM a cI cZ M)) [(a 0, .inr (4, [.int (sE (lookMu M i u)), .int (nI (sC (lookMu M i u))), .int (nI (mN (sK (lookMu M i u)))), .ref (a 1), .ref (a 2), .ref (a 3), .ref (a 4), .ref (a 5), .ref (a 6), .ref (a 7), .ref (a 8), .ref (a 9), .ref (a 10), .ref (a 11), .ref (a 12), .ref (a 13), .int (nI (nT (tellN (sR M) i (clM (sK M) (sC M) i) (nI (sC M)) (lookN (sR M) (sW M) (clM (sK M) (sC M)) (nI (sC M)) (sN M) i) u) + 1)), .ref (a 14)])), (a 1, .inl (cI, 100, .inl (mKd (sK (lookMu M i u))))), (a 2, .inl (cI, 100, .inl (mPc (sK (lookMu M i u))))), (a 3, .inl (cI, 100, .inl (mSd (sK (lookMu M i u))))), (a 4, .inl (cI, 100, .inl (mFr (sK (lookMu M i u))))), (a 5, .inl (cI, 100, .inl (mTo (sK (lookMu M i u))))), (a 6, .inl (cI, 100, .inl (mNu (sK (lookMu M i u))))), (a 7, .inl (cI, 100, .inl (mAn (sK (lookMu M i u))))), (a 8, .inl (cI, 100, .inl (mLi (sK (lookMu M i u))))), (a 9, .inl (cI, 100, .inl (mWd (sK (lookMu M i u))))), (a 10, .inl (cZ, 20, .inl (mOp (sK (lookMu M i u))))), (a 11, .inl (cI, 10, .inl (nF (rL (sR (lookMu M i u)))))), (a 12, .inl (cI, 120, .inl (nF (rP (sR (lookMu M i u)))))), (a 13, .inl (cZ, 120, .inl (bF (sW (lookMu M i u))))), (a 14, .inl (cI, 500, .inl (upd (upd (upd (upd (upd (nRw (sN (lookMu M i u))) (fstT (nT (tellN (sR M) i (clM (sK M) (sC M) i) (nI (sC M)) (lookN (sR M) (sW M) (clM (sK M) (sC M)) (nI (sC M)) (sN M) i) u))) (nI u)) (fstT (nT (tellN (sR M) i (clM (sK M) (sC M) i) (nI (sC M)) (lookN (sR M) (sW M) (clM (sK M) (sC M)) (nI (sC M)) (sN M) i) u)) + 1) (nI (i / 2))) (fstT (nT (tellN (sR M) i (clM (sK M) (sC M) i) (nI (sC M)) (lookN (sR M) (sW M) (clM (sK M) (sC M)) (nI (sC M)) (sN M) i) u)) + 2) (nI (i % 2 + 1))) (fstT (nT (tellN (sR M) i (clM (sK M) (sC M) i) (nI (sC M)) (lookN (sR M) (sW M) (clM (sK M) (sC M)) (nI (sC M)) (sN M) i) u)) + 3) (bI (clM (sK M) (sC M) i))) (fstT (nT (tellN (sR M) i (clM (sK M) (sC M) i) (nI (sC M)) (lookN (sR M) (sW M) (clM (sK M) (sC M)) (nI (sC M)) (sN M) i) u)) + 4) (nI (sC (lookMu M i u))))))] := hD
                  refine lv_iinc (v := nI (u + 1)) (lv' := [(3, .int (nI (u + 1))), (4, .int (nI (fstT (nT (tellN (sR M) i (clM (sK M) (sC M) i) (nI (sC M)) (lookN (sR M) (sW M) (clM (sK M) (sC M)) (nI (sC M)) (sN M) i) u))))), (0, .ref (a 0)), (1, .int (nI i)), (2, .int (bI (clM (sK M) (sC M) i)))]) hx hb dX4_look_138 hl (k := 4) rfl (nI_1 _) (by decide) rfl (fun ls hl => ?_)
                  refine lv_goto (tgt := 27) hx hb dX4_look_141 (by decide) ?_
                  exact ih27 (u + 1) (by omega) (by omega) hi9 (fun _ => hnq) _ _ (by first | (rw [← lookMu_s (bI_t h_49)]; exact hP) | (rw [← lookMu_n (bI_f h_49)]; exact hP)) (xD_addr hD rfl) hS ls (lv_sub hl [2, 3, 4, 0] rfl)
                · skip
                  refine lv_iconst (v := nI 1) hx hb dX4_look_109 (by decide) ?_
                  refine lv_goto (tgt := 114) hx hb dX4_look_110 (by decide) ?_
                  refine xtop (y := bI (clM (sK M) (sC M) i)) (by first | exact bI_0 (bI_f h_106) | exact bI_1 (bI_t h_106)) ?_
                  refine xa_iast hx hb hK hP hD hS 14 0 (i := (fstT (nT (tellN (sR M) i (clM (sK M) (sC M) i) (nI (sC M)) (lookN (sR M) (sW M) (clM (sK M) (sC M)) (nI (sC M)) (sN M) i) u)) + 3)) (x := bI (clM (sK M) (sC M) i)) rfl rfl (by show nT (tellN (sR M) i (clM (sK M) (sC M) i) (nI (sC M)) (lookN (sR M) (sW M) (clM (sK M) (sC M)) (nI (sC M)) (sN M) i) u) % 100 * 5 + 3 < 500; omega) (by decide) dX4_look_114 (fun H locs hP hD hS => ?_)
                  have hP : va_P D vwCl [(a 0, .inr (4, [.int (sE (lookMu M i u)), .int (nI (sC (lookMu M i u))), .int (nI (mN (sK (lookMu M i u)))), .ref (a 1), .ref (a 2), .ref (a 3), .ref (a 4), .ref (a 5), .ref (a 6), .ref (a 7), .ref (a 8), .ref (a 9), .ref (a 10), .ref (a 11), .ref (a 12), .ref (a 13), .int (nI (nT (sN (lookMu M i u)))), .ref (a 14)])), (a 1, .inl (cI, 100, .inl (mKd (sK (lookMu M i u))))), (a 2, .inl (cI, 100, .inl (mPc (sK (lookMu M i u))))), (a 3, .inl (cI, 100, .inl (mSd (sK (lookMu M i u))))), (a 4, .inl (cI, 100, .inl (mFr (sK (lookMu M i u))))), (a 5, .inl (cI, 100, .inl (mTo (sK (lookMu M i u))))), (a 6, .inl (cI, 100, .inl (mNu (sK (lookMu M i u))))), (a 7, .inl (cI, 100, .inl (mAn (sK (lookMu M i u))))), (a 8, .inl (cI, 100, .inl (mLi (sK (lookMu M i u))))), (a 9, .inl (cI, 100, .inl (mWd (sK (lookMu M i u))))), (a 10, .inl (cZ, 20, .inl (mOp (sK (lookMu M i u))))), (a 11, .inl (cI, 10, .inl (nF (rL (sR (lookMu M i u)))))), (a 12, .inl (cI, 120, .inl (nF (rP (sR (lookMu M i u)))))), (a 13, .inl (cZ, 120, .inl (bF (sW (lookMu M i u))))), (a 14, .inl (cI, 500, .inl (upd (upd (upd (upd (nRw (sN (lookMu M i u))) (fstT (nT (tellN (sR M) i (clM (sK M) (sC M) i) (nI (sC M)) (lookN (sR M) (sW M) (clM (sK M) (sC M)) (nI (sC M)) (sN M) i) u))) (nI u)) (fstT (nT (tellN (sR M) i (clM (sK M) (sC M) i) (nI (sC M)) (lookN (sR M) (sW M) (clM (sK M) (sC M)) (nI (sC M)) (sN M) i) u)) + 1) (nI (i / 2))) (fstT (nT (tellN (sR M) i (clM (sK M) (sC M) i) (nI (sC M)) (lookN (sR M) (sW M) (clM (sK M) (sC M)) (nI (sC M)) (sN M) i) u)) + 2) (nI (i % 2 + 1))) (fstT (nT (tellN (sR M) i (clM (sK M) (sC M) i) (nI (sC M)) (lookN (sR M) (sW M) (clM (sK M) (sC M)) (nI (sC M)) (sN M) i) u)) + 3) (bI (clM (sK M) (sC M) i)))))] H := hP
                  have hD : va_D (xA (wM a cI cZ M)) [(a 0, .inr (4, [.int (sE (lookMu M i u)), .int (nI (sC (lookMu M i u))), .int (nI (mN (sK (lookMu M i u)))), .ref (a 1), .ref (a 2), .ref (a 3), .ref (a 4), .ref (a 5), .ref (a 6), .ref (a 7), .ref (a 8), .ref (a 9), .ref (a 10), .ref (a 11), .ref (a 12), .ref (a 13), .int (nI (nT (sN (lookMu M i u)))), .ref (a 14)])), (a 1, .inl (cI, 100, .inl (mKd (sK (lookMu M i u))))), (a 2, .inl (cI, 100, .inl (mPc (sK (lookMu M i u))))), (a 3, .inl (cI, 100, .inl (mSd (sK (lookMu M i u))))), (a 4, .inl (cI, 100, .inl (mFr (sK (lookMu M i u))))), (a 5, .inl (cI, 100, .inl (mTo (sK (lookMu M i u))))), (a 6, .inl (cI, 100, .inl (mNu (sK (lookMu M i u))))), (a 7, .inl (cI, 100, .inl (mAn (sK (lookMu M i u))))), (a 8, .inl (cI, 100, .inl (mLi (sK (lookMu M i u))))), (a 9, .inl (cI, 100, .inl (mWd (sK (lookMu M i u))))), (a 10, .inl (cZ, 20, .inl (mOp (sK (lookMu M i u))))), (a 11, .inl (cI, 10, .inl (nF (rL (sR (lookMu M i u)))))), (a 12, .inl (cI, 120, .inl (nF (rP (sR (lookMu M i u)))))), (a 13, .inl (cZ, 120, .inl (bF (sW (lookMu M i u))))), (a 14, .inl (cI, 500, .inl (upd (upd (upd (upd (nRw (sN (lookMu M i u))) (fstT (nT (tellN (sR M) i (clM (sK M) (sC M) i) (nI (sC M)) (lookN (sR M) (sW M) (clM (sK M) (sC M)) (nI (sC M)) (sN M) i) u))) (nI u)) (fstT (nT (tellN (sR M) i (clM (sK M) (sC M) i) (nI (sC M)) (lookN (sR M) (sW M) (clM (sK M) (sC M)) (nI (sC M)) (sN M) i) u)) + 1) (nI (i / 2))) (fstT (nT (tellN (sR M) i (clM (sK M) (sC M) i) (nI (sC M)) (lookN (sR M) (sW M) (clM (sK M) (sC M)) (nI (sC M)) (sN M) i) u)) + 2) (nI (i % 2 + 1))) (fstT (nT (tellN (sR M) i (clM (sK M) (sC M) i) (nI (sC M)) (lookN (sR M) (sW M) (clM (sK M) (sC M)) (nI (sC M)) (sN M) i) u)) + 3) (bI (clM (sK M) (sC M) i)))))] := hD
                  refine lv_aload_n hx hb dX4_look_115 rfl (lv_at hl 1 rfl) ?_
                  refine va_get (D := D) (ci := 4) (v := .ref (a 14)) (C := RX4) (T := TX4) (N := 18) hx hb ht inX4 hown hK hP 0 rfl rfl 17 (by decide) (ht _ wd589) (fun _ h9 => h9) rfl dX4_look_116 ?_
                  refine lv_iload hx hb dX4_look_119 (lv_at hl 0 rfl) ?_
                  refine lv_iconst (v := nI 4) hx hb dX4_look_121 (by decide) ?_
                  refine lv_iadd hx hb dX4_look_122 ?_
                  refine xtop (y := nI (fstT (nT (tellN (sR M) i (clM (sK M) (sC M) i) (nI (sC M)) (lookN (sR M) (sW M) (clM (sK M) (sC M)) (nI (sC M)) (sN M) i) u)) + 4)) (nI_add _ _) ?_
                  refine lv_aload_n hx hb dX4_look_123 rfl (lv_at hl 1 rfl) ?_
                  refine va_get (D := D) (ci := 4) (v := .int (nI (sC (lookMu M i u)))) (C := RX4) (T := TX4) (N := 18) hx hb ht inX4 hown hK hP 0 rfl rfl 1 (by decide) (ht _ wd573) (fun _ h9 => h9) rfl dX4_look_124 ?_
                  refine xa_iast hx hb hK hP hD hS 14 0 (i := (fstT (nT (tellN (sR M) i (clM (sK M) (sC M) i) (nI (sC M)) (lookN (sR M) (sW M) (clM (sK M) (sC M)) (nI (sC M)) (sN M) i) u)) + 4)) (x := nI (sC (lookMu M i u))) rfl rfl (by show nT (tellN (sR M) i (clM (sK M) (sC M) i) (nI (sC M)) (lookN (sR M) (sW M) (clM (sK M) (sC M)) (nI (sC M)) (sN M) i) u) % 100 * 5 + 4 < 500; omega) (by decide) dX4_look_127 (fun H locs hP hD hS => ?_)
                  have hP : va_P D vwCl [(a 0, .inr (4, [.int (sE (lookMu M i u)), .int (nI (sC (lookMu M i u))), .int (nI (mN (sK (lookMu M i u)))), .ref (a 1), .ref (a 2), .ref (a 3), .ref (a 4), .ref (a 5), .ref (a 6), .ref (a 7), .ref (a 8), .ref (a 9), .ref (a 10), .ref (a 11), .ref (a 12), .ref (a 13), .int (nI (nT (sN (lookMu M i u)))), .ref (a 14)])), (a 1, .inl (cI, 100, .inl (mKd (sK (lookMu M i u))))), (a 2, .inl (cI, 100, .inl (mPc (sK (lookMu M i u))))), (a 3, .inl (cI, 100, .inl (mSd (sK (lookMu M i u))))), (a 4, .inl (cI, 100, .inl (mFr (sK (lookMu M i u))))), (a 5, .inl (cI, 100, .inl (mTo (sK (lookMu M i u))))), (a 6, .inl (cI, 100, .inl (mNu (sK (lookMu M i u))))), (a 7, .inl (cI, 100, .inl (mAn (sK (lookMu M i u))))), (a 8, .inl (cI, 100, .inl (mLi (sK (lookMu M i u))))), (a 9, .inl (cI, 100, .inl (mWd (sK (lookMu M i u))))), (a 10, .inl (cZ, 20, .inl (mOp (sK (lookMu M i u))))), (a 11, .inl (cI, 10, .inl (nF (rL (sR (lookMu M i u)))))), (a 12, .inl (cI, 120, .inl (nF (rP (sR (lookMu M i u)))))), (a 13, .inl (cZ, 120, .inl (bF (sW (lookMu M i u))))), (a 14, .inl (cI, 500, .inl (upd (upd (upd (upd (upd (nRw (sN (lookMu M i u))) (fstT (nT (tellN (sR M) i (clM (sK M) (sC M) i) (nI (sC M)) (lookN (sR M) (sW M) (clM (sK M) (sC M)) (nI (sC M)) (sN M) i) u))) (nI u)) (fstT (nT (tellN (sR M) i (clM (sK M) (sC M) i) (nI (sC M)) (lookN (sR M) (sW M) (clM (sK M) (sC M)) (nI (sC M)) (sN M) i) u)) + 1) (nI (i / 2))) (fstT (nT (tellN (sR M) i (clM (sK M) (sC M) i) (nI (sC M)) (lookN (sR M) (sW M) (clM (sK M) (sC M)) (nI (sC M)) (sN M) i) u)) + 2) (nI (i % 2 + 1))) (fstT (nT (tellN (sR M) i (clM (sK M) (sC M) i) (nI (sC M)) (lookN (sR M) (sW M) (clM (sK M) (sC M)) (nI (sC M)) (sN M) i) u)) + 3) (bI (clM (sK M) (sC M) i))) (fstT (nT (tellN (sR M) i (clM (sK M) (sC M) i) (nI (sC M)) (lookN (sR M) (sW M) (clM (sK M) (sC M)) (nI (sC M)) (sN M) i) u)) + 4) (nI (sC (lookMu M i u))))))] H := hP
                  have hD : va_D (xA (wM a cI cZ M)) [(a 0, .inr (4, [.int (sE (lookMu M i u)), .int (nI (sC (lookMu M i u))), .int (nI (mN (sK (lookMu M i u)))), .ref (a 1), .ref (a 2), .ref (a 3), .ref (a 4), .ref (a 5), .ref (a 6), .ref (a 7), .ref (a 8), .ref (a 9), .ref (a 10), .ref (a 11), .ref (a 12), .ref (a 13), .int (nI (nT (sN (lookMu M i u)))), .ref (a 14)])), (a 1, .inl (cI, 100, .inl (mKd (sK (lookMu M i u))))), (a 2, .inl (cI, 100, .inl (mPc (sK (lookMu M i u))))), (a 3, .inl (cI, 100, .inl (mSd (sK (lookMu M i u))))), (a 4, .inl (cI, 100, .inl (mFr (sK (lookMu M i u))))), (a 5, .inl (cI, 100, .inl (mTo (sK (lookMu M i u))))), (a 6, .inl (cI, 100, .inl (mNu (sK (lookMu M i u))))), (a 7, .inl (cI, 100, .inl (mAn (sK (lookMu M i u))))), (a 8, .inl (cI, 100, .inl (mLi (sK (lookMu M i u))))), (a 9, .inl (cI, 100, .inl (mWd (sK (lookMu M i u))))), (a 10, .inl (cZ, 20, .inl (mOp (sK (lookMu M i u))))), (a 11, .inl (cI, 10, .inl (nF (rL (sR (lookMu M i u)))))), (a 12, .inl (cI, 120, .inl (nF (rP (sR (lookMu M i u)))))), (a 13, .inl (cZ, 120, .inl (bF (sW (lookMu M i u))))), (a 14, .inl (cI, 500, .inl (upd (upd (upd (upd (upd (nRw (sN (lookMu M i u))) (fstT (nT (tellN (sR M) i (clM (sK M) (sC M) i) (nI (sC M)) (lookN (sR M) (sW M) (clM (sK M) (sC M)) (nI (sC M)) (sN M) i) u))) (nI u)) (fstT (nT (tellN (sR M) i (clM (sK M) (sC M) i) (nI (sC M)) (lookN (sR M) (sW M) (clM (sK M) (sC M)) (nI (sC M)) (sN M) i) u)) + 1) (nI (i / 2))) (fstT (nT (tellN (sR M) i (clM (sK M) (sC M) i) (nI (sC M)) (lookN (sR M) (sW M) (clM (sK M) (sC M)) (nI (sC M)) (sN M) i) u)) + 2) (nI (i % 2 + 1))) (fstT (nT (tellN (sR M) i (clM (sK M) (sC M) i) (nI (sC M)) (lookN (sR M) (sW M) (clM (sK M) (sC M)) (nI (sC M)) (sN M) i) u)) + 3) (bI (clM (sK M) (sC M) i))) (fstT (nT (tellN (sR M) i (clM (sK M) (sC M) i) (nI (sC M)) (lookN (sR M) (sW M) (clM (sK M) (sC M)) (nI (sC M)) (sN M) i) u)) + 4) (nI (sC (lookMu M i u))))))] := hD
                  refine lv_aload_n hx hb dX4_look_128 rfl (lv_at hl 1 rfl) ?_
                  refine lv_dup hx hb dX4_look_129 rfl ?_
                  refine va_get (D := D) (ci := 4) (v := .int (nI (nT (sN (lookMu M i u))))) (C := RX4) (T := TX4) (N := 18) hx hb ht inX4 hown hK hP 0 rfl rfl 16 (by decide) (ht _ wd588) (fun _ h9 => h9) rfl dX4_look_130 ?_
                  refine lv_iconst (v := nI 1) hx hb dX4_look_133 (by decide) ?_
                  refine lv_iadd hx hb dX4_look_134 ?_
                  refine xtop (y := nI (nT (tellN (sR M) i (clM (sK M) (sC M) i) (nI (sC M)) (lookN (sR M) (sW M) (clM (sK M) (sC M)) (nI (sC M)) (sN M) i) u) + 1)) (nI_add _ _) ?_
                  refine va_put (D := D) (ci := 4) (v := .int (nI (nT (tellN (sR M) i (clM (sK M) (sC M) i) (nI (sC M)) (lookN (sR M) (sW M) (clM (sK M) (sC M)) (nI (sC M)) (sN M) i) u) + 1))) (ty := .int) (C := RX4) (T := TX4) (N := 18) hx hb ht inX4 tyX4 tyX4_ok nmX4 hown hK hP hD hS 0 rfl rfl 16 (by decide) (ht _ wd588) (fun _ h9 => h9) rfl (by decide +kernel) rfl rfl (Nat.le_of_ble_eq_true rfl) dX4_look_135 (fun H locs hP hD hS => ?_)
                  have hP : va_P D vwCl [(a 0, .inr (4, [.int (sE (lookMu M i u)), .int (nI (sC (lookMu M i u))), .int (nI (mN (sK (lookMu M i u)))), .ref (a 1), .ref (a 2), .ref (a 3), .ref (a 4), .ref (a 5), .ref (a 6), .ref (a 7), .ref (a 8), .ref (a 9), .ref (a 10), .ref (a 11), .ref (a 12), .ref (a 13), .int (nI (nT (tellN (sR M) i (clM (sK M) (sC M) i) (nI (sC M)) (lookN (sR M) (sW M) (clM (sK M) (sC M)) (nI (sC M)) (sN M) i) u) + 1)), .ref (a 14)])), (a 1, .inl (cI, 100, .inl (mKd (sK (lookMu M i u))))), (a 2, .inl (cI, 100, .inl (mPc (sK (lookMu M i u))))), (a 3, .inl (cI, 100, .inl (mSd (sK (lookMu M i u))))), (a 4, .inl (cI, 100, .inl (mFr (sK (lookMu M i u))))), (a 5, .inl (cI, 100, .inl (mTo (sK (lookMu M i u))))), (a 6, .inl (cI, 100, .inl (mNu (sK (lookMu M i u))))), (a 7, .inl (cI, 100, .inl (mAn (sK (lookMu M i u))))), (a 8, .inl (cI, 100, .inl (mLi (sK (lookMu M i u))))), (a 9, .inl (cI, 100, .inl (mWd (sK (lookMu M i u))))), (a 10, .inl (cZ, 20, .inl (mOp (sK (lookMu M i u))))), (a 11, .inl (cI, 10, .inl (nF (rL (sR (lookMu M i u)))))), (a 12, .inl (cI, 120, .inl (nF (rP (sR (lookMu M i u)))))), (a 13, .inl (cZ, 120, .inl (bF (sW (lookMu M i u))))), (a 14, .inl (cI, 500, .inl (upd (upd (upd (upd (upd (nRw (sN (lookMu M i u))) (fstT (nT (tellN (sR M) i (clM (sK M) (sC M) i) (nI (sC M)) (lookN (sR M) (sW M) (clM (sK M) (sC M)) (nI (sC M)) (sN M) i) u))) (nI u)) (fstT (nT (tellN (sR M) i (clM (sK M) (sC M) i) (nI (sC M)) (lookN (sR M) (sW M) (clM (sK M) (sC M)) (nI (sC M)) (sN M) i) u)) + 1) (nI (i / 2))) (fstT (nT (tellN (sR M) i (clM (sK M) (sC M) i) (nI (sC M)) (lookN (sR M) (sW M) (clM (sK M) (sC M)) (nI (sC M)) (sN M) i) u)) + 2) (nI (i % 2 + 1))) (fstT (nT (tellN (sR M) i (clM (sK M) (sC M) i) (nI (sC M)) (lookN (sR M) (sW M) (clM (sK M) (sC M)) (nI (sC M)) (sN M) i) u)) + 3) (bI (clM (sK M) (sC M) i))) (fstT (nT (tellN (sR M) i (clM (sK M) (sC M) i) (nI (sC M)) (lookN (sR M) (sW M) (clM (sK M) (sC M)) (nI (sC M)) (sN M) i) u)) + 4) (nI (sC (lookMu M i u))))))] H := hP
                  have hD : va_D (xA (wM a cI cZ M)) [(a 0, .inr (4, [.int (sE (lookMu M i u)), .int (nI (sC (lookMu M i u))), .int (nI (mN (sK (lookMu M i u)))), .ref (a 1), .ref (a 2), .ref (a 3), .ref (a 4), .ref (a 5), .ref (a 6), .ref (a 7), .ref (a 8), .ref (a 9), .ref (a 10), .ref (a 11), .ref (a 12), .ref (a 13), .int (nI (nT (tellN (sR M) i (clM (sK M) (sC M) i) (nI (sC M)) (lookN (sR M) (sW M) (clM (sK M) (sC M)) (nI (sC M)) (sN M) i) u) + 1)), .ref (a 14)])), (a 1, .inl (cI, 100, .inl (mKd (sK (lookMu M i u))))), (a 2, .inl (cI, 100, .inl (mPc (sK (lookMu M i u))))), (a 3, .inl (cI, 100, .inl (mSd (sK (lookMu M i u))))), (a 4, .inl (cI, 100, .inl (mFr (sK (lookMu M i u))))), (a 5, .inl (cI, 100, .inl (mTo (sK (lookMu M i u))))), (a 6, .inl (cI, 100, .inl (mNu (sK (lookMu M i u))))), (a 7, .inl (cI, 100, .inl (mAn (sK (lookMu M i u))))), (a 8, .inl (cI, 100, .inl (mLi (sK (lookMu M i u))))), (a 9, .inl (cI, 100, .inl (mWd (sK (lookMu M i u))))), (a 10, .inl (cZ, 20, .inl (mOp (sK (lookMu M i u))))), (a 11, .inl (cI, 10, .inl (nF (rL (sR (lookMu M i u)))))), (a 12, .inl (cI, 120, .inl (nF (rP (sR (lookMu M i u)))))), (a 13, .inl (cZ, 120, .inl (bF (sW (lookMu M i u))))), (a 14, .inl (cI, 500, .inl (upd (upd (upd (upd (upd (nRw (sN (lookMu M i u))) (fstT (nT (tellN (sR M) i (clM (sK M) (sC M) i) (nI (sC M)) (lookN (sR M) (sW M) (clM (sK M) (sC M)) (nI (sC M)) (sN M) i) u))) (nI u)) (fstT (nT (tellN (sR M) i (clM (sK M) (sC M) i) (nI (sC M)) (lookN (sR M) (sW M) (clM (sK M) (sC M)) (nI (sC M)) (sN M) i) u)) + 1) (nI (i / 2))) (fstT (nT (tellN (sR M) i (clM (sK M) (sC M) i) (nI (sC M)) (lookN (sR M) (sW M) (clM (sK M) (sC M)) (nI (sC M)) (sN M) i) u)) + 2) (nI (i % 2 + 1))) (fstT (nT (tellN (sR M) i (clM (sK M) (sC M) i) (nI (sC M)) (lookN (sR M) (sW M) (clM (sK M) (sC M)) (nI (sC M)) (sN M) i) u)) + 3) (bI (clM (sK M) (sC M) i))) (fstT (nT (tellN (sR M) i (clM (sK M) (sC M) i) (nI (sC M)) (lookN (sR M) (sW M) (clM (sK M) (sC M)) (nI (sC M)) (sN M) i) u)) + 4) (nI (sC (lookMu M i u))))))] := hD
                  refine lv_iinc (v := nI (u + 1)) (lv' := [(3, .int (nI (u + 1))), (4, .int (nI (fstT (nT (tellN (sR M) i (clM (sK M) (sC M) i) (nI (sC M)) (lookN (sR M) (sW M) (clM (sK M) (sC M)) (nI (sC M)) (sN M) i) u))))), (0, .ref (a 0)), (1, .int (nI i)), (2, .int (bI (clM (sK M) (sC M) i)))]) hx hb dX4_look_138 hl (k := 4) rfl (nI_1 _) (by decide) rfl (fun ls hl => ?_)
                  refine lv_goto (tgt := 27) hx hb dX4_look_141 (by decide) ?_
                  exact ih27 (u + 1) (by omega) (by omega) hi9 (fun _ => hnq) _ _ (by first | (rw [← lookMu_s (bI_t h_49)]; exact hP) | (rw [← lookMu_n (bI_f h_49)]; exact hP)) (xD_addr hD rfl) hS ls (lv_sub hl [2, 3, 4, 0] rfl)
      refine lv_iload_n hx hb dX4_look_2 rfl (lv_at hl 1 rfl) ?_
      refine lv_bipush (v := nI 120) hx hb dX4_look_3 (by decide) ?_
      refine lv_icmp_ge (tgt := 157) hx hb dX4_look_5 (by decide) (fun h_5 => ?_) (fun h_5 => ?_)
      · skip
        have h_5 : 120 ≤ i := (nI_leI (by omega) (by omega)).mp h_5
        exact xw_vret hx hb hr hlocks hS (by rw [show i = 120 by omega] at hP; exact hP) dX4_look_157
      · skip
        have h_5 : ¬ (120 ≤ i) := fun z => h_5 ((nI_leI (by omega) (by omega)).mpr z)
        refine lv_aload_n hx hb dX4_look_8 rfl (lv_at hl 0 rfl) ?_
        refine lv_iload_n hx hb dX4_look_9 rfl (lv_at hl 1 rfl) ?_
        refine lv_iconst (v := nI 2) hx hb dX4_look_10 (by decide) ?_
        refine lv_idiv hx hb dX4_look_11 (by decide) ?_
        refine xtop (y := nI (i / 2)) (pk_div (by omega) (by decide) (by decide)) ?_
        refine lv_iload_n hx hb dX4_look_12 rfl (lv_at hl 1 rfl) ?_
        refine lv_iconst (v := nI 2) hx hb dX4_look_13 (by decide) ?_
        refine lv_irem hx hb dX4_look_14 (by decide) ?_
        refine xtop (y := nI (i % 2)) (pk_rem (by omega) (by decide) (by decide)) ?_
        refine lv_iconst (v := nI 1) hx hb dX4_look_15 (by decide) ?_
        refine lv_iadd hx hb dX4_look_16 ?_
        refine xtop (y := nI (i % 2 + 1)) (nI_add _ _) ?_
        refine lv_aload_n hx hb dX4_look_17 rfl (lv_at hl 0 rfl) ?_
        refine va_get (D := D) (ci := 4) (v := .int (nI (sC (lookMi M i)))) (C := RX4) (T := TX4) (N := 18) hx hb ht inX4 hown hK hP 0 rfl rfl 1 (by decide) (ht _ wd573) (fun _ h9 => h9) rfl dX4_look_18 ?_
        refine xrV (As := [.int (nI (i / 2)), .int (nI (i % 2 + 1)), .int (nI (sC (lookMi M i)))]) (rest := []) hx hb hml hown ht hN kV_X4_75 (r_X4_isClosed l D a cI cZ (lookMi M i) hO (nI (i / 2)) (nI (i % 2 + 1)) (nI (sC M))) ⟨by decide, by decide⟩ hP hK rfl rfl rfl rfl hl.1 rfl (Nat.le_of_ble_eq_true rfl) dX4_look_21 ⟨Nat.zero_le _, Nat.zero_le _⟩ ?_
        refine lv_istore_n (lv' := [(2, .int (bI (clM (sK M) (sC M) i))), (0, .ref (a 0)), (1, .int (nI i))]) hx hb dX4_look_24 rfl hl (by decide) rfl (fun ls hl => ?_)
        refine lv_iconst (v := nI 0) hx hb dX4_look_25 (by decide) ?_
        refine lv_istore_n (lv' := [(3, .int (nI 0)), (2, .int (bI (clM (sK M) (sC M) i))), (0, .ref (a 0)), (1, .int (nI i))]) hx hb dX4_look_26 rfl hl (by decide) rfl (fun ls hl => ?_)
        exact L27 11 0 (by omega) (by omega) (by omega) (by omega) _ _ hP (xD_addr hD rfl) hS ls (lv_sub hl [2, 3, 1, 0] rfl)
  refine lv_iconst (v := nI 0) hx hb dX4_look_0 (by decide) ?_
  refine lv_istore_n (lv' := [(1, .int (nI 0)), (0, .ref (a 0))]) hx hb dX4_look_1 rfl hl (by decide) rfl (fun ls hl => ?_)
  exact L2 121 0 (by omega) (by omega) _ _ hP (xD_addr hD rfl) hS ls (lv_sub hl [1, 0] rfl)
end
