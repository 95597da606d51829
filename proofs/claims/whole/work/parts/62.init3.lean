def xcI (own : String) (index : Nat) (y : MethodName) (bytes : ByteArray) (maxL : Nat) : Prop :=
  Cond.code y bytes maxL none ∈ wBIG ∧ Cond.methodLink own index y ∈ wBIG ∧ Cond.instanceMethod y ∈ wBIG ∧ Cond.initialized y.cls ∈ wBIG ∧ xcD y 0 ∧ y.name = "<init>"
theorem xcI.cw {R : Room} {s : State} {args : Array Value} {own : String} {index maxL mc ms : Nat} {y : MethodName} {bytes : ByteArray} {rm : Room} (k : xcI own index y bytes maxL) (ht : ∀ w ∈ wBIG, w.before args s = true) (hrc : rm.cells = mc) (hrs : rm.slots = ms) (hR : rm.frames + 1 ≤ R.frames ∧ 8 + (maxL + 11) + rm.locals ≤ R.locals) :
    CallB R s args own index y bytes maxL none (.code y bytes maxL none :: wBIG) rm mc ms 0 ∧ y.name = "<init>" ∧ (Cond.instanceMethod y).before args s = true := by
  obtain ⟨h1, h2, h3, h4, h7, h8⟩ := k
  exact ⟨⟨hrc, hrs, hR.1, hR.2, xw_all ht h1, List.mem_cons_self, ht _ h1, ht _ h4, ⟨h7.1, h7.2.1⟩, h7.sig, ht _ h2⟩, h8, ht _ h3⟩
theorem kI_X3_11 : xcI RX3 11 yX0_init cX0_init 1 := ⟨wd46, wd44, wd45, wd22, ⟨by decide +kernel, by decide +kernel, by decide +kernel⟩, rfl⟩
theorem kI_X3_18 : xcI RX3 18 yX2_init cX2_init 1 := ⟨wd85, wd83, wd84, wd23, ⟨by decide +kernel, by decide +kernel, by decide +kernel⟩, rfl⟩
theorem kI_X3_25 : xcI RX3 25 yX1_init cX1_init 1 := ⟨wd98, wd96, wd97, wd24, ⟨by decide +kernel, by decide +kernel, by decide +kernel⟩, rfl⟩
theorem kI_L_64 : xcI RL 64 yX3_init cX3_init 1 := ⟨wd38, wd36, wd37, wd21, ⟨by decide +kernel, by decide +kernel, by decide +kernel⟩, rfl⟩
theorem kI_L_67 : xcI RL 67 yX4_init cX4_init 1 := ⟨wd570, wd568, wd569, wd25, ⟨by decide +kernel, by decide +kernel, by decide +kernel⟩, rfl⟩
abbrev C0 : CS := (K0, R0, N0, fun _ => false, fun _ => false, 0)
set_option maxHeartbeats 8000000 in
set_option maxRecDepth 100000 in
theorem c_X3_init (l : Launch) (D : va_G) (cI cZ : ClassId) (h0 sz : Nat) : Met l yX3_init (.code yX3_init cX3_init 1 none :: wBIG) { frames := 2, cells := 17, slots := 1704, locals := 32 } (va_Pc [.ref h0] (fun U => U.heap.size = sz ∧ xB D [(h0, .inr (3, [.null, .null, .null, .null, .null, .int 0]))] (tyL cI cZ) U ∧ va_D (fun _ => True) [(h0, .inr (3, [.null, .null, .null, .null, .null, .int 0]))])) (va_Qv (fun u : Nat → Nat => u 17 = h0) (fun u t => va_P D vwCl (wC u cI cZ C0) t.heap ∧ va_D (va_A [(h0, .inr (3, [.null, .null, .null, .null, .null, .int 0]))] sz) (wC u cI cZ C0)) (va_A [(h0, .inr (3, [.null, .null, .null, .null, .null, .int 0]))] sz)) 17 1704 (va_A [(h0, .inr (3, [.null, .null, .null, .null, .null, .int 0]))] sz) := by
  refine Met.ofW (cc := cX3_init) (maxL := 1) (ret := none) (by decide +kernel) rfl ?_
  intro p e s m args below meth c s₁ B hml hv
  obtain ⟨rfl, hsz, ⟨hP, hK, hN⟩, hD0⟩ := hv
  have hx := B.exec
  have hb := B.bytes
  have hr := B.returns
  have ht : ∀ w ∈ wBIG, w.before _ s = true := fun w h => atoms_spec (ws := .code yX3_init cX3_init 1 none :: wBIG) B.pre w (List.mem_cons_of_mem _ h)
  have hown : s.vm.findClass RX3 = some m.cls := findClass_of_methodNamed B.named
  have hlocks := B.notSynchronized
  have hin : meth.name = "<init>" := (name_of_methodNamed B.named B.method).1
  subst hsz
  have hD := hD0.self (sz := s.heap.size)
  generalize hAe : va_A [(h0, .inr (3, [.null, .null, .null, .null, .null, .int 0]))] s.heap.size = A at hD ⊢
  have hA : ∀ q : Nat, s.heap.size ≤ q → A q := fun q h => by rw [← hAe]; exact Or.inr h
  have hS : va_S A s.heap s.heap [] := va_S.rf
  have hl := lv_entry ([.ref h0]) (n := 1) (Nat.le_of_ble_eq_true rfl)
  rw [lg_entry_eq]
  generalize (lg_sl ([.ref h0]) ++ List.replicate (1 - (lg_sl ([.ref h0])).length) Slot.unset).toArray = ls at hl ⊢
  have hl : lv_has ls 1 [(0, .ref h0)] := hl
  refine lv_aload_n hx hb dX3_init_0 rfl (lv_at hl 0 rfl) ?_
  refine W.objInit hx hb hown (ht _ wd39) (ht _ wd40) (ht _ wdObj) rfl (by rw [hml]; exact hl.1) rfl dX3_init_1 (Nat.le_of_ble_eq_true rfl) (Nat.le_of_ble_eq_true rfl) ?_
  refine W.eq (g2 := F0 m 4 ls []) rfl ?_
  refine lv_aload_n hx hb dX3_init_4 rfl (lv_at hl 0 rfl) ?_
  refine va_new (ci := 0) (fs := [.null, .null, .null, .null, .null, .null, .null, .null, .null, .int 0]) (C := RX0) (T := TX0) (N := 10) hx hb ht inX0 tyX0 tyX0_ok hown (ht _ wd42) (ht _ wd43) (ht _ wd22) hK hP hD hS hA rfl (fun j hj => by rcases (show j = 0 ∨ j = 1 ∨ j = 2 ∨ j = 3 ∨ j = 4 ∨ j = 5 ∨ j = 6 ∨ j = 7 ∨ j = 8 ∨ j = 9 by omega) with rfl | rfl | rfl | rfl | rfl | rfl | rfl | rfl | rfl | rfl <;> rfl) (Nat.le_of_ble_eq_true rfl) (Nat.le_of_ble_eq_true rfl) dX3_init_5 (fun q5 H hP hD hS => ?_)
  have hP : va_P D vwCl ([(h0, .inr (3, [.null, .null, .null, .null, .null, .int 0]))] ++ [(q5, .inr (0, [.null, .null, .null, .null, .null, .null, .null, .null, .null, .int 0]))]) H := hP
  have hD : va_D A ([(h0, .inr (3, [.null, .null, .null, .null, .null, .int 0]))] ++ [(q5, .inr (0, [.null, .null, .null, .null, .null, .null, .null, .null, .null, .int 0]))]) := hD
  refine W.widen (k := 1) (n := 10) (by omega) (by omega) ?_
  refine lv_dup hx hb dX3_init_8 rfl ?_
  have hPc := hP.sub (ws' := [(q5, .inr (0, [.null, .null, .null, .null, .null, .null, .null, .null, .null, .int 0]))]) [1] rfl
  have hDc := hD.sub (ws' := [(q5, .inr (0, [.null, .null, .null, .null, .null, .null, .null, .null, .null, .int 0]))]) [1] (by decide) rfl
  have hFc := va_free (wc := [(q5, .inr (0, [.null, .null, .null, .null, .null, .null, .null, .null, .null, .int 0]))]) hD hS hA [1] rfl
  refine va_callv (va_runI (As := []) (rest := [.ref q5, .ref h0]) ⟨hx, hb, hml, hown, ht⟩ (c_X0_init l D cI cZ q5 H.size) (kI_X3_11.cw ht rfl rfl ⟨Nat.le_of_ble_eq_true rfl, Nat.le_of_ble_eq_true rfl⟩) ⟨fun a U g mk q => ⟨q.1, q.2.1, q.2.2.1.calling, q.2.2.2⟩, fun U hU hW => ⟨rfl, by rw [hU], xB.at hPc hK hN hU hW, hDc.weaken (fun _ _ _ _ => trivial)⟩⟩ rfl rfl hl.1 rfl (lv_room (Nat.le_of_ble_eq_true rfl)) dX3_init_9 ⟨Nat.le_of_ble_eq_true rfl, Nat.le_of_ble_eq_true rfl⟩) hS (fun q _ h => hFc q h) hFc (fun u5 t H1 locs ht9 hvm hw hB hz1 hk1 hS => ?_)
  obtain ⟨hP1, hD1⟩ := hB
  rw [ht9] at hP1
  obtain ⟨hP9, hD9⟩ := va_join (wr := ([(h0, .inr (3, [.null, .null, .null, .null, .null, .int 0]))])) (w1 := (wK u5 cI cZ K0)) hP hD [1] [0] rfl rfl (by decide) (by decide) hk1 hFc hP1 hD1
  generalize H1 = H at hP9 hS ⊢
  subst hw
  have hP : va_P D vwCl ([(h0, .inr (3, [.null, .null, .null, .null, .null, .int 0]))] ++ wK u5 cI cZ K0) H := hP9
  have hD : va_D A ([(h0, .inr (3, [.null, .null, .null, .null, .null, .int 0]))] ++ wK u5 cI cZ K0) := hD9
  refine W.widen (k := 10) (n := 830) (by omega) (by omega) ?_
  refine va_putF (D := D) (ci := 3) (v := .ref (u5 0)) (ty := .object "ClosureRows$Closures") (C := RX3) (T := TX3) (N := 6) hx hb ht inX3 tyX3 tyX3_ok nmX3 hown hK hP hD hS 0 rfl rfl 0 (by decide) (ht _ wd107) (fun _ h9 => h9) rfl hin rfl (by decide +kernel) rfl rfl (Nat.le_of_ble_eq_true rfl) dX3_init_12 (fun H locs hP hD hS => ?_)
  have hP : va_P D vwCl ([(h0, .inr (3, [.ref (u5 0), .null, .null, .null, .null, .int 0]))] ++ wK u5 cI cZ K0) H := hP
  have hD : va_D A ([(h0, .inr (3, [.ref (u5 0), .null, .null, .null, .null, .int 0]))] ++ wK u5 cI cZ K0) := hD
  refine lv_aload_n hx hb dX3_init_15 rfl (lv_at hl 0 rfl) ?_
  refine va_new (ci := 2) (fs := [.null, .null]) (C := RX2) (T := TX2) (N := 2) hx hb ht inX2 tyX2 tyX2_ok hown (ht _ wd81) (ht _ wd82) (ht _ wd23) hK hP hD hS hA rfl (fun j hj => by rcases (show j = 0 ∨ j = 1 by omega) with rfl | rfl <;> rfl) (Nat.le_of_ble_eq_true rfl) (Nat.le_of_ble_eq_true rfl) dX3_init_16 (fun q16 H hP hD hS => ?_)
  have hP : va_P D vwCl ([(h0, .inr (3, [.ref (u5 0), .null, .null, .null, .null, .int 0]))] ++ wK u5 cI cZ K0 ++ [(q16, .inr (2, [.null, .null]))]) H := hP
  have hD : va_D A ([(h0, .inr (3, [.ref (u5 0), .null, .null, .null, .null, .int 0]))] ++ wK u5 cI cZ K0 ++ [(q16, .inr (2, [.null, .null]))]) := hD
  refine W.widen (k := 11) (n := 832) (by omega) (by omega) ?_
  refine lv_dup hx hb dX3_init_19 rfl ?_
  have hPc := hP.sub (ws' := [(q16, .inr (2, [.null, .null]))]) [11] rfl
  have hDc := hD.sub (ws' := [(q16, .inr (2, [.null, .null]))]) [11] (by decide) rfl
  have hFc := va_free (wc := [(q16, .inr (2, [.null, .null]))]) hD hS hA [11] rfl
  refine va_callv (va_runI (As := []) (rest := [.ref q16, .ref h0]) ⟨hx, hb, hml, hown, ht⟩ (c_X2_init l D cI cZ q16 H.size) (kI_X3_18.cw ht rfl rfl ⟨Nat.le_of_ble_eq_true rfl, Nat.le_of_ble_eq_true rfl⟩) ⟨fun a U g mk q => ⟨q.1, q.2.1, q.2.2.1.calling, q.2.2.2⟩, fun U hU hW => ⟨rfl, by rw [hU], xB.at hPc hK hN hU hW, hDc.weaken (fun _ _ _ _ => trivial)⟩⟩ rfl rfl hl.1 rfl (lv_room (Nat.le_of_ble_eq_true rfl)) dX3_init_20 ⟨Nat.le_of_ble_eq_true rfl, Nat.le_of_ble_eq_true rfl⟩) hS (fun q _ h => hFc q h) hFc (fun u16 t H1 locs ht9 hvm hw hB hz1 hk1 hS => ?_)
  obtain ⟨hP1, hD1⟩ := hB
  rw [ht9] at hP1
  obtain ⟨hP9, hD9⟩ := va_join (wr := ([(h0, .inr (3, [.ref (u5 0), .null, .null, .null, .null, .int 0]))] ++ wK u5 cI cZ K0)) (w1 := (wR u16 cI R0)) hP hD [11] [0, 1, 2, 3, 4, 5, 6, 7, 8, 9, 10] rfl rfl (by decide) (by decide) hk1 hFc hP1 hD1
  generalize H1 = H at hP9 hS ⊢
  subst hw
  have hP : va_P D vwCl ([(h0, .inr (3, [.ref (u5 0), .null, .null, .null, .null, .int 0]))] ++ wK u5 cI cZ K0 ++ wR u16 cI R0) H := hP9
  have hD : va_D A ([(h0, .inr (3, [.ref (u5 0), .null, .null, .null, .null, .int 0]))] ++ wK u5 cI cZ K0 ++ wR u16 cI R0) := hD9
  refine W.widen (k := 13) (n := 962) (by omega) (by omega) ?_
  refine va_putF (D := D) (ci := 3) (v := .ref (u16 0)) (ty := .object "ClosureRows$Routes") (C := RX3) (T := TX3) (N := 6) hx hb ht inX3 tyX3 tyX3_ok nmX3 hown hK hP hD hS 0 rfl rfl 1 (by decide) (ht _ wd108) (fun _ h9 => h9) rfl hin rfl (by decide +kernel) rfl rfl (Nat.le_of_ble_eq_true rfl) dX3_init_23 (fun H locs hP hD hS => ?_)
  have hP : va_P D vwCl ([(h0, .inr (3, [.ref (u5 0), .ref (u16 0), .null, .null, .null, .int 0]))] ++ wK u5 cI cZ K0 ++ wR u16 cI R0) H := hP
  have hD : va_D A ([(h0, .inr (3, [.ref (u5 0), .ref (u16 0), .null, .null, .null, .int 0]))] ++ wK u5 cI cZ K0 ++ wR u16 cI R0) := hD
  refine lv_aload_n hx hb dX3_init_26 rfl (lv_at hl 0 rfl) ?_
  refine va_new (ci := 1) (fs := [.null, .int 0]) (C := RX1) (T := TX1) (N := 2) hx hb ht inX1 tyX1 tyX1_ok hown (ht _ wd94) (ht _ wd95) (ht _ wd24) hK hP hD hS hA rfl (fun j hj => by rcases (show j = 0 ∨ j = 1 by omega) with rfl | rfl <;> rfl) (Nat.le_of_ble_eq_true rfl) (Nat.le_of_ble_eq_true rfl) dX3_init_27 (fun q27 H hP hD hS => ?_)
  have hP : va_P D vwCl ([(h0, .inr (3, [.ref (u5 0), .ref (u16 0), .null, .null, .null, .int 0]))] ++ wK u5 cI cZ K0 ++ wR u16 cI R0 ++ [(q27, .inr (1, [.null, .int 0]))]) H := hP
  have hD : va_D A ([(h0, .inr (3, [.ref (u5 0), .ref (u16 0), .null, .null, .null, .int 0]))] ++ wK u5 cI cZ K0 ++ wR u16 cI R0 ++ [(q27, .inr (1, [.null, .int 0]))]) := hD
  refine W.widen (k := 14) (n := 964) (by omega) (by omega) ?_
  refine lv_dup hx hb dX3_init_30 rfl ?_
  have hPc := hP.sub (ws' := [(q27, .inr (1, [.null, .int 0]))]) [14] rfl
  have hDc := hD.sub (ws' := [(q27, .inr (1, [.null, .int 0]))]) [14] (by decide) rfl
  have hFc := va_free (wc := [(q27, .inr (1, [.null, .int 0]))]) hD hS hA [14] rfl
  refine va_callv (va_runI (As := []) (rest := [.ref q27, .ref h0]) ⟨hx, hb, hml, hown, ht⟩ (c_X1_init l D cI cZ q27 H.size) (kI_X3_25.cw ht rfl rfl ⟨Nat.le_of_ble_eq_true rfl, Nat.le_of_ble_eq_true rfl⟩) ⟨fun a U g mk q => ⟨q.1, q.2.1, q.2.2.1.calling, q.2.2.2⟩, fun U hU hW => ⟨rfl, by rw [hU], xB.at hPc hK hN hU hW, hDc.weaken (fun _ _ _ _ => trivial)⟩⟩ rfl rfl hl.1 rfl (lv_room (Nat.le_of_ble_eq_true rfl)) dX3_init_31 ⟨Nat.le_of_ble_eq_true rfl, Nat.le_of_ble_eq_true rfl⟩) hS (fun q _ h => hFc q h) hFc (fun u27 t H1 locs ht9 hvm hw hB hz1 hk1 hS => ?_)
  obtain ⟨hP1, hD1⟩ := hB
  rw [ht9] at hP1
  obtain ⟨hP9, hD9⟩ := va_join (wr := ([(h0, .inr (3, [.ref (u5 0), .ref (u16 0), .null, .null, .null, .int 0]))] ++ wK u5 cI cZ K0 ++ wR u16 cI R0)) (w1 := (wNt u27 cI N0)) hP hD [14] [0, 1, 2, 3, 4, 5, 6, 7, 8, 9, 10, 11, 12, 13] rfl rfl (by decide) (by decide) hk1 hFc hP1 hD1
  generalize H1 = H at hP9 hS ⊢
  subst hw
  have hP : va_P D vwCl ([(h0, .inr (3, [.ref (u5 0), .ref (u16 0), .null, .null, .null, .int 0]))] ++ wK u5 cI cZ K0 ++ wR u16 cI R0 ++ wNt u27 cI N0) H := hP9
  have hD : va_D A ([(h0, .inr (3, [.ref (u5 0), .ref (u16 0), .null, .null, .null, .int 0]))] ++ wK u5 cI cZ K0 ++ wR u16 cI R0 ++ wNt u27 cI N0) := hD9
  refine W.widen (k := 15) (n := 1464) (by omega) (by omega) ?_
  refine va_putF (D := D) (ci := 3) (v := .ref (u27 0)) (ty := .object "ClosureRows$Notices") (C := RX3) (T := TX3) (N := 6) hx hb ht inX3 tyX3 tyX3_ok nmX3 hown hK hP hD hS 0 rfl rfl 2 (by decide) (ht _ wd109) (fun _ h9 => h9) rfl hin rfl (by decide +kernel) rfl rfl (Nat.le_of_ble_eq_true rfl) dX3_init_34 (fun H locs hP hD hS => ?_)
  have hP : va_P D vwCl ([(h0, .inr (3, [.ref (u5 0), .ref (u16 0), .ref (u27 0), .null, .null, .int 0]))] ++ wK u5 cI cZ K0 ++ wR u16 cI R0 ++ wNt u27 cI N0) H := hP
  have hD : va_D A ([(h0, .inr (3, [.ref (u5 0), .ref (u16 0), .ref (u27 0), .null, .null, .int 0]))] ++ wK u5 cI cZ K0 ++ wR u16 cI R0 ++ wNt u27 cI N0) := hD
  refine lv_aload_n hx hb dX3_init_37 rfl (lv_at hl 0 rfl) ?_
  refine lv_bipush (v := nI 120) hx hb dX3_init_38 (by decide) ?_
  refine xa_newa (a0 := (120, .inl zF)) (N' := 120) (atype := .boolean) hx hb (ht _ wd80) (ty := .boolean) rfl (fun _ _ h => h) 1 rfl hK hP hD hS hA (fun _ => rfl) (by decide) (by decide) (by decide) (Nat.le_of_ble_eq_true rfl) (Nat.le_of_ble_eq_true rfl) dX3_init_40 (fun q40 H hP hD hS => ?_)
  have hP : va_P D vwCl ([(h0, .inr (3, [.ref (u5 0), .ref (u16 0), .ref (u27 0), .null, .null, .int 0]))] ++ wK u5 cI cZ K0 ++ wR u16 cI R0 ++ wNt u27 cI N0 ++ [(q40, .inl (cZ, 120, .inl zF))]) H := hP
  have hD : va_D A ([(h0, .inr (3, [.ref (u5 0), .ref (u16 0), .ref (u27 0), .null, .null, .int 0]))] ++ wK u5 cI cZ K0 ++ wR u16 cI R0 ++ wNt u27 cI N0 ++ [(q40, .inl (cZ, 120, .inl zF))]) := hD
  refine W.widen (k := 16) (n := 1584) (by omega) (by omega) ?_
  refine va_putF (D := D) (ci := 3) (v := .ref (q40)) (ty := .array .boolean) (C := RX3) (T := TX3) (N := 6) hx hb ht inX3 tyX3 tyX3_ok nmX3 hown hK hP hD hS 0 rfl rfl 3 (by decide) (ht _ wd110) (fun _ h9 => h9) rfl hin rfl (by decide +kernel) rfl rfl (Nat.le_of_ble_eq_true rfl) dX3_init_42 (fun H locs hP hD hS => ?_)
  have hP : va_P D vwCl ([(h0, .inr (3, [.ref (u5 0), .ref (u16 0), .ref (u27 0), .ref (q40), .null, .int 0]))] ++ wK u5 cI cZ K0 ++ wR u16 cI R0 ++ wNt u27 cI N0 ++ [(q40, .inl (cZ, 120, .inl zF))]) H := hP
  have hD : va_D A ([(h0, .inr (3, [.ref (u5 0), .ref (u16 0), .ref (u27 0), .ref (q40), .null, .int 0]))] ++ wK u5 cI cZ K0 ++ wR u16 cI R0 ++ wNt u27 cI N0 ++ [(q40, .inl (cZ, 120, .inl zF))]) := hD
  refine lv_aload_n hx hb dX3_init_45 rfl (lv_at hl 0 rfl) ?_
  refine lv_bipush (v := nI 120) hx hb dX3_init_46 (by decide) ?_
  refine xa_newa (a0 := (120, .inl zF)) (N' := 120) (atype := .boolean) hx hb (ht _ wd80) (ty := .boolean) rfl (fun _ _ h => h) 1 rfl hK hP hD hS hA (fun _ => rfl) (by decide) (by decide) (by decide) (Nat.le_of_ble_eq_true rfl) (Nat.le_of_ble_eq_true rfl) dX3_init_48 (fun q48 H hP hD hS => ?_)
  have hP : va_P D vwCl ([(h0, .inr (3, [.ref (u5 0), .ref (u16 0), .ref (u27 0), .ref (q40), .null, .int 0]))] ++ wK u5 cI cZ K0 ++ wR u16 cI R0 ++ wNt u27 cI N0 ++ [(q40, .inl (cZ, 120, .inl zF))] ++ [(q48, .inl (cZ, 120, .inl zF))]) H := hP
  have hD : va_D A ([(h0, .inr (3, [.ref (u5 0), .ref (u16 0), .ref (u27 0), .ref (q40), .null, .int 0]))] ++ wK u5 cI cZ K0 ++ wR u16 cI R0 ++ wNt u27 cI N0 ++ [(q40, .inl (cZ, 120, .inl zF))] ++ [(q48, .inl (cZ, 120, .inl zF))]) := hD
  refine W.widen (k := 17) (n := 1704) (by omega) (by omega) ?_
  refine va_putF (D := D) (ci := 3) (v := .ref (q48)) (ty := .array .boolean) (C := RX3) (T := TX3) (N := 6) hx hb ht inX3 tyX3 tyX3_ok nmX3 hown hK hP hD hS 0 rfl rfl 4 (by decide) (ht _ wd111) (fun _ h9 => h9) rfl hin rfl (by decide +kernel) rfl rfl (Nat.le_of_ble_eq_true rfl) dX3_init_50 (fun H locs hP hD hS => ?_)
  have hP : va_P D vwCl ([(h0, .inr (3, [.ref (u5 0), .ref (u16 0), .ref (u27 0), .ref (q40), .ref (q48), .int 0]))] ++ wK u5 cI cZ K0 ++ wR u16 cI R0 ++ wNt u27 cI N0 ++ [(q40, .inl (cZ, 120, .inl zF))] ++ [(q48, .inl (cZ, 120, .inl zF))]) H := hP
  have hD : va_D A ([(h0, .inr (3, [.ref (u5 0), .ref (u16 0), .ref (u27 0), .ref (q40), .ref (q48), .int 0]))] ++ wK u5 cI cZ K0 ++ wR u16 cI R0 ++ wNt u27 cI N0 ++ [(q40, .inl (cZ, 120, .inl zF))] ++ [(q48, .inl (cZ, 120, .inl zF))]) := hD
  refine lv_aload_n hx hb dX3_init_53 rfl (lv_at hl 0 rfl) ?_
  refine lv_iconst (v := 0) hx hb dX3_init_54 (by decide) ?_
  refine va_put (D := D) (ci := 3) (v := .int 0) (ty := .int) (C := RX3) (T := TX3) (N := 6) hx hb ht inX3 tyX3 tyX3_ok nmX3 hown hK hP hD hS 0 rfl rfl 5 (by decide) (ht _ wd112) (fun _ h9 => h9) rfl (by decide +kernel) rfl rfl (Nat.le_of_ble_eq_true rfl) dX3_init_55 (fun H locs hP hD hS => ?_)
  have hP : va_P D vwCl ([(h0, .inr (3, [.ref (u5 0), .ref (u16 0), .ref (u27 0), .ref (q40), .ref (q48), .int 0]))] ++ wK u5 cI cZ K0 ++ wR u16 cI R0 ++ wNt u27 cI N0 ++ [(q40, .inl (cZ, 120, .inl zF))] ++ [(q48, .inl (cZ, 120, .inl zF))]) H := hP
  have hD : va_D A ([(h0, .inr (3, [.ref (u5 0), .ref (u16 0), .ref (u27 0), .ref (q40), .ref (q48), .int 0]))] ++ wK u5 cI cZ K0 ++ wR u16 cI R0 ++ wNt u27 cI N0 ++ [(q40, .inl (cZ, 120, .inl zF))] ++ [(q48, .inl (cZ, 120, .inl zF))]) := hD
  exact W.vret hx hb hr (fun t ht9 hW => ⟨⟨(fun i => ([u5 0, u5 1, u5 2, u5 3, u5 4, u5 5, u5 6, u5 7, u5 8, u5 9, u16 0, u16 1, u16 2, u27 0, u27 1, q40, q48, h0] : List Nat).getD i 0), rfl, rfl, by rw [ht9]; exact hP, hD⟩, hS.F ht9⟩) hS.2.2 dX3_init_58 hlocks
