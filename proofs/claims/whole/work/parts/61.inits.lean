set_option maxHeartbeats 4000000 in
set_option maxRecDepth 100000 in
theorem c_X0_init (l : Launch) (D : va_G) (cI cZ : ClassId) (h0 sz : Nat) : Met l yX0_init (.code yX0_init cX0_init 1 none :: wBIG) { frames := 1, cells := 9, slots := 820, locals := 12 } (va_Pc [.ref h0] (fun U => U.heap.size = sz ∧ xB D [(h0, .inr (0, [.null, .null, .null, .null, .null, .null, .null, .null, .null, .int 0]))] (tyL cI cZ) U ∧ va_D (fun _ => True) [(h0, .inr (0, [.null, .null, .null, .null, .null, .null, .null, .null, .null, .int 0]))])) (va_Qv (fun u : Nat → Nat => u 0 = h0) (fun u t => va_P D vwCl (wK u cI cZ K0) t.heap ∧ va_D (va_A [(h0, .inr (0, [.null, .null, .null, .null, .null, .null, .null, .null, .null, .int 0]))] sz) (wK u cI cZ K0)) (va_A [(h0, .inr (0, [.null, .null, .null, .null, .null, .null, .null, .null, .null, .int 0]))] sz)) 9 820 (va_A [(h0, .inr (0, [.null, .null, .null, .null, .null, .null, .null, .null, .null, .int 0]))] sz) := by
  refine Met.ofW (cc := cX0_init) (maxL := 1) (ret := none) (by decide +kernel) rfl ?_
  intro p e s m args below meth c s₁ B hml hv
  obtain ⟨rfl, hsz, ⟨hP, hK, hN⟩, hD0⟩ := hv
  have hx := B.exec
  have hb := B.bytes
  have hr := B.returns
  have ht : ∀ w ∈ wBIG, w.before _ s = true := fun w h => atoms_spec (ws := .code yX0_init cX0_init 1 none :: wBIG) B.pre w (List.mem_cons_of_mem _ h)
  have hown : s.vm.findClass RX0 = some m.cls := findClass_of_methodNamed B.named
  have hlocks := B.notSynchronized
  have hin : meth.name = "<init>" := (name_of_methodNamed B.named B.method).1
  subst hsz
  have hD := hD0.self (sz := s.heap.size)
  generalize hAe : va_A [(h0, .inr (0, [.null, .null, .null, .null, .null, .null, .null, .null, .null, .int 0]))] s.heap.size = A at hD ⊢
  have hA : ∀ q : Nat, s.heap.size ≤ q → A q := fun q h => by rw [← hAe]; exact Or.inr h
  have hS : va_S A s.heap s.heap [] := va_S.rf
  have hl := lv_entry ([.ref h0]) (n := 1) (Nat.le_of_ble_eq_true rfl)
  rw [lg_entry_eq]
  generalize (lg_sl ([.ref h0]) ++ List.replicate (1 - (lg_sl ([.ref h0])).length) Slot.unset).toArray = ls at hl ⊢
  have hl : lv_has ls 1 [(0, .ref h0)] := hl
  refine lv_aload_n hx hb dX0_init_0 rfl (lv_at hl 0 rfl) ?_
  refine W.objInit hx hb hown (ht _ wd47) (ht _ wd40) (ht _ wdObj) rfl (by rw [hml]; exact hl.1) rfl dX0_init_1 (Nat.le_of_ble_eq_true rfl) (Nat.le_of_ble_eq_true rfl) ?_
  refine W.eq (g2 := F0 m 4 ls []) rfl ?_
  refine lv_aload_n hx hb dX0_init_4 rfl (lv_at hl 0 rfl) ?_
  refine lv_bipush (v := nI 100) hx hb dX0_init_5 (by decide) ?_
  refine xa_newa (a0 := (100, .inl zF)) (N' := 100) (atype := .int) hx hb (ht _ wd79) (ty := .int) rfl (fun _ _ h => h) 0 rfl hK hP hD hS hA (fun _ => rfl) (by decide) (by decide) (by decide) (Nat.le_of_ble_eq_true rfl) (Nat.le_of_ble_eq_true rfl) dX0_init_7 (fun q7 H hP hD hS => ?_)
  have hP : va_P D vwCl [(h0, .inr (0, [.null, .null, .null, .null, .null, .null, .null, .null, .null, .int 0])), (q7, .inl (cI, 100, .inl zF))] H := hP
  have hD : va_D A [(h0, .inr (0, [.null, .null, .null, .null, .null, .null, .null, .null, .null, .int 0])), (q7, .inl (cI, 100, .inl zF))] := hD
  refine W.widen (k := 1) (n := 100) (by omega) (by omega) ?_
  refine va_putF (D := D) (ci := 0) (v := .ref q7) (ty := .array .int) (C := RX0) (T := TX0) (N := 10) hx hb ht inX0 tyX0 tyX0_ok nmX0 hown hK hP hD hS 0 rfl rfl 0 (by decide) (ht _ wd48) (fun _ h9 => h9) rfl hin rfl (by decide +kernel) rfl rfl (Nat.le_of_ble_eq_true rfl) dX0_init_9 (fun H locs hP hD hS => ?_)
  have hP : va_P D vwCl [(h0, .inr (0, [.ref q7, .null, .null, .null, .null, .null, .null, .null, .null, .int 0])), (q7, .inl (cI, 100, .inl zF))] H := hP
  have hD : va_D A [(h0, .inr (0, [.ref q7, .null, .null, .null, .null, .null, .null, .null, .null, .int 0])), (q7, .inl (cI, 100, .inl zF))] := hD
  refine lv_aload_n hx hb dX0_init_12 rfl (lv_at hl 0 rfl) ?_
  refine lv_bipush (v := nI 100) hx hb dX0_init_13 (by decide) ?_
  refine xa_newa (a0 := (100, .inl zF)) (N' := 100) (atype := .int) hx hb (ht _ wd79) (ty := .int) rfl (fun _ _ h => h) 0 rfl hK hP hD hS hA (fun _ => rfl) (by decide) (by decide) (by decide) (Nat.le_of_ble_eq_true rfl) (Nat.le_of_ble_eq_true rfl) dX0_init_15 (fun q15 H hP hD hS => ?_)
  have hP : va_P D vwCl [(h0, .inr (0, [.ref q7, .null, .null, .null, .null, .null, .null, .null, .null, .int 0])), (q7, .inl (cI, 100, .inl zF)), (q15, .inl (cI, 100, .inl zF))] H := hP
  have hD : va_D A [(h0, .inr (0, [.ref q7, .null, .null, .null, .null, .null, .null, .null, .null, .int 0])), (q7, .inl (cI, 100, .inl zF)), (q15, .inl (cI, 100, .inl zF))] := hD
  refine W.widen (k := 2) (n := 200) (by omega) (by omega) ?_
  refine va_putF (D := D) (ci := 0) (v := .ref q15) (ty := .array .int) (C := RX0) (T := TX0) (N := 10) hx hb ht inX0 tyX0 tyX0_ok nmX0 hown hK hP hD hS 0 rfl rfl 1 (by decide) (ht _ wd49) (fun _ h9 => h9) rfl hin rfl (by decide +kernel) rfl rfl (Nat.le_of_ble_eq_true rfl) dX0_init_17 (fun H locs hP hD hS => ?_)
  have hP : va_P D vwCl [(h0, .inr (0, [.ref q7, .ref q15, .null, .null, .null, .null, .null, .null, .null, .int 0])), (q7, .inl (cI, 100, .inl zF)), (q15, .inl (cI, 100, .inl zF))] H := hP
  have hD : va_D A [(h0, .inr (0, [.ref q7, .ref q15, .null, .null, .null, .null, .null, .null, .null, .int 0])), (q7, .inl (cI, 100, .inl zF)), (q15, .inl (cI, 100, .inl zF))] := hD
  refine lv_aload_n hx hb dX0_init_20 rfl (lv_at hl 0 rfl) ?_
  refine lv_bipush (v := nI 100) hx hb dX0_init_21 (by decide) ?_
  refine xa_newa (a0 := (100, .inl zF)) (N' := 100) (atype := .int) hx hb (ht _ wd79) (ty := .int) rfl (fun _ _ h => h) 0 rfl hK hP hD hS hA (fun _ => rfl) (by decide) (by decide) (by decide) (Nat.le_of_ble_eq_true rfl) (Nat.le_of_ble_eq_true rfl) dX0_init_23 (fun q23 H hP hD hS => ?_)
  have hP : va_P D vwCl [(h0, .inr (0, [.ref q7, .ref q15, .null, .null, .null, .null, .null, .null, .null, .int 0])), (q7, .inl (cI, 100, .inl zF)), (q15, .inl (cI, 100, .inl zF)), (q23, .inl (cI, 100, .inl zF))] H := hP
  have hD : va_D A [(h0, .inr (0, [.ref q7, .ref q15, .null, .null, .null, .null, .null, .null, .null, .int 0])), (q7, .inl (cI, 100, .inl zF)), (q15, .inl (cI, 100, .inl zF)), (q23, .inl (cI, 100, .inl zF))] := hD
  refine W.widen (k := 3) (n := 300) (by omega) (by omega) ?_
  refine va_putF (D := D) (ci := 0) (v := .ref q23) (ty := .array .int) (C := RX0) (T := TX0) (N := 10) hx hb ht inX0 tyX0 tyX0_ok nmX0 hown hK hP hD hS 0 rfl rfl 2 (by decide) (ht _ wd50) (fun _ h9 => h9) rfl hin rfl (by decide +kernel) rfl rfl (Nat.le_of_ble_eq_true rfl) dX0_init_25 (fun H locs hP hD hS => ?_)
  have hP : va_P D vwCl [(h0, .inr (0, [.ref q7, .ref q15, .ref q23, .null, .null, .null, .null, .null, .null, .int 0])), (q7, .inl (cI, 100, .inl zF)), (q15, .inl (cI, 100, .inl zF)), (q23, .inl (cI, 100, .inl zF))] H := hP
  have hD : va_D A [(h0, .inr (0, [.ref q7, .ref q15, .ref q23, .null, .null, .null, .null, .null, .null, .int 0])), (q7, .inl (cI, 100, .inl zF)), (q15, .inl (cI, 100, .inl zF)), (q23, .inl (cI, 100, .inl zF))] := hD
  refine lv_aload_n hx hb dX0_init_28 rfl (lv_at hl 0 rfl) ?_
  refine lv_bipush (v := nI 100) hx hb dX0_init_29 (by decide) ?_
  refine xa_newa (a0 := (100, .inl zF)) (N' := 100) (atype := .int) hx hb (ht _ wd79) (ty := .int) rfl (fun _ _ h => h) 0 rfl hK hP hD hS hA (fun _ => rfl) (by decide) (by decide) (by decide) (Nat.le_of_ble_eq_true rfl) (Nat.le_of_ble_eq_true rfl) dX0_init_31 (fun q31 H hP hD hS => ?_)
  have hP : va_P D vwCl [(h0, .inr (0, [.ref q7, .ref q15, .ref q23, .null, .null, .null, .null, .null, .null, .int 0])), (q7, .inl (cI, 100, .inl zF)), (q15, .inl (cI, 100, .inl zF)), (q23, .inl (cI, 100, .inl zF)), (q31, .inl (cI, 100, .inl zF))] H := hP
  have hD : va_D A [(h0, .inr (0, [.ref q7, .ref q15, .ref q23, .null, .null, .null, .null, .null, .null, .int 0])), (q7, .inl (cI, 100, .inl zF)), (q15, .inl (cI, 100, .inl zF)), (q23, .inl (cI, 100, .inl zF)), (q31, .inl (cI, 100, .inl zF))] := hD
  refine W.widen (k := 4) (n := 400) (by omega) (by omega) ?_
  refine va_putF (D := D) (ci := 0) (v := .ref q31) (ty := .array .int) (C := RX0) (T := TX0) (N := 10) hx hb ht inX0 tyX0 tyX0_ok nmX0 hown hK hP hD hS 0 rfl rfl 3 (by decide) (ht _ wd51) (fun _ h9 => h9) rfl hin rfl (by decide +kernel) rfl rfl (Nat.le_of_ble_eq_true rfl) dX0_init_33 (fun H locs hP hD hS => ?_)
  have hP : va_P D vwCl [(h0, .inr (0, [.ref q7, .ref q15, .ref q23, .ref q31, .null, .null, .null, .null, .null, .int 0])), (q7, .inl (cI, 100, .inl zF)), (q15, .inl (cI, 100, .inl zF)), (q23, .inl (cI, 100, .inl zF)), (q31, .inl (cI, 100, .inl zF))] H := hP
  have hD : va_D A [(h0, .inr (0, [.ref q7, .ref q15, .ref q23, .ref q31, .null, .null, .null, .null, .null, .int 0])), (q7, .inl (cI, 100, .inl zF)), (q15, .inl (cI, 100, .inl zF)), (q23, .inl (cI, 100, .inl zF)), (q31, .inl (cI, 100, .inl zF))] := hD
  refine lv_aload_n hx hb dX0_init_36 rfl (lv_at hl 0 rfl) ?_
  refine lv_bipush (v := nI 100) hx hb dX0_init_37 (by decide) ?_
  refine xa_newa (a0 := (100, .inl zF)) (N' := 100) (atype := .int) hx hb (ht _ wd79) (ty := .int) rfl (fun _ _ h => h) 0 rfl hK hP hD hS hA (fun _ => rfl) (by decide) (by decide) (by decide) (Nat.le_of_ble_eq_true rfl) (Nat.le_of_ble_eq_true rfl) dX0_init_39 (fun q39 H hP hD hS => ?_)
  have hP : va_P D vwCl [(h0, .inr (0, [.ref q7, .ref q15, .ref q23, .ref q31, .null, .null, .null, .null, .null, .int 0])), (q7, .inl (cI, 100, .inl zF)), (q15, .inl (cI, 100, .inl zF)), (q23, .inl (cI, 100, .inl zF)), (q31, .inl (cI, 100, .inl zF)), (q39, .inl (cI, 100, .inl zF))] H := hP
  have hD : va_D A [(h0, .inr (0, [.ref q7, .ref q15, .ref q23, .ref q31, .null, .null, .null, .null, .null, .int 0])), (q7, .inl (cI, 100, .inl zF)), (q15, .inl (cI, 100, .inl zF)), (q23, .inl (cI, 100, .inl zF)), (q31, .inl (cI, 100, .inl zF)), (q39, .inl (cI, 100, .inl zF))] := hD
  refine W.widen (k := 5) (n := 500) (by omega) (by omega) ?_
  refine va_putF (D := D) (ci := 0) (v := .ref q39) (ty := .array .int) (C := RX0) (T := TX0) (N := 10) hx hb ht inX0 tyX0 tyX0_ok nmX0 hown hK hP hD hS 0 rfl rfl 4 (by decide) (ht _ wd52) (fun _ h9 => h9) rfl hin rfl (by decide +kernel) rfl rfl (Nat.le_of_ble_eq_true rfl) dX0_init_41 (fun H locs hP hD hS => ?_)
  have hP : va_P D vwCl [(h0, .inr (0, [.ref q7, .ref q15, .ref q23, .ref q31, .ref q39, .null, .null, .null, .null, .int 0])), (q7, .inl (cI, 100, .inl zF)), (q15, .inl (cI, 100, .inl zF)), (q23, .inl (cI, 100, .inl zF)), (q31, .inl (cI, 100, .inl zF)), (q39, .inl (cI, 100, .inl zF))] H := hP
  have hD : va_D A [(h0, .inr (0, [.ref q7, .ref q15, .ref q23, .ref q31, .ref q39, .null, .null, .null, .null, .int 0])), (q7, .inl (cI, 100, .inl zF)), (q15, .inl (cI, 100, .inl zF)), (q23, .inl (cI, 100, .inl zF)), (q31, .inl (cI, 100, .inl zF)), (q39, .inl (cI, 100, .inl zF))] := hD
  refine lv_aload_n hx hb dX0_init_44 rfl (lv_at hl 0 rfl) ?_
  refine lv_bipush (v := nI 100) hx hb dX0_init_45 (by decide) ?_
  refine xa_newa (a0 := (100, .inl zF)) (N' := 100) (atype := .int) hx hb (ht _ wd79) (ty := .int) rfl (fun _ _ h => h) 0 rfl hK hP hD hS hA (fun _ => rfl) (by decide) (by decide) (by decide) (Nat.le_of_ble_eq_true rfl) (Nat.le_of_ble_eq_true rfl) dX0_init_47 (fun q47 H hP hD hS => ?_)
  have hP : va_P D vwCl [(h0, .inr (0, [.ref q7, .ref q15, .ref q23, .ref q31, .ref q39, .null, .null, .null, .null, .int 0])), (q7, .inl (cI, 100, .inl zF)), (q15, .inl (cI, 100, .inl zF)), (q23, .inl (cI, 100, .inl zF)), (q31, .inl (cI, 100, .inl zF)), (q39, .inl (cI, 100, .inl zF)), (q47, .inl (cI, 100, .inl zF))] H := hP
  have hD : va_D A [(h0, .inr (0, [.ref q7, .ref q15, .ref q23, .ref q31, .ref q39, .null, .null, .null, .null, .int 0])), (q7, .inl (cI, 100, .inl zF)), (q15, .inl (cI, 100, .inl zF)), (q23, .inl (cI, 100, .inl zF)), (q31, .inl (cI, 100, .inl zF)), (q39, .inl (cI, 100, .inl zF)), (q47, .inl (cI, 100, .inl zF))] := hD
  refine W.widen (k := 6) (n := 600) (by omega) (by omega) ?_
  refine va_putF (D := D) (ci := 0) (v := .ref q47) (ty := .array .int) (C := RX0) (T := TX0) (N := 10) hx hb ht inX0 tyX0 tyX0_ok nmX0 hown hK hP hD hS 0 rfl rfl 5 (by decide) (ht _ wd53) (fun _ h9 => h9) rfl hin rfl (by decide +kernel) rfl rfl (Nat.le_of_ble_eq_true rfl) dX0_init_49 (fun H locs hP hD hS => ?_)
  have hP : va_P D vwCl [(h0, .inr (0, [.ref q7, .ref q15, .ref q23, .ref q31, .ref q39, .ref q47, .null, .null, .null, .int 0])), (q7, .inl (cI, 100, .inl zF)), (q15, .inl (cI, 100, .inl zF)), (q23, .inl (cI, 100, .inl zF)), (q31, .inl (cI, 100, .inl zF)), (q39, .inl (cI, 100, .inl zF)), (q47, .inl (cI, 100, .inl zF))] H := hP
  have hD : va_D A [(h0, .inr (0, [.ref q7, .ref q15, .ref q23, .ref q31, .ref q39, .ref q47, .null, .null, .null, .int 0])), (q7, .inl (cI, 100, .inl zF)), (q15, .inl (cI, 100, .inl zF)), (q23, .inl (cI, 100, .inl zF)), (q31, .inl (cI, 100, .inl zF)), (q39, .inl (cI, 100, .inl zF)), (q47, .inl (cI, 100, .inl zF))] := hD
  refine lv_aload_n hx hb dX0_init_52 rfl (lv_at hl 0 rfl) ?_
  refine lv_bipush (v := nI 100) hx hb dX0_init_53 (by decide) ?_
  refine xa_newa (a0 := (100, .inl zF)) (N' := 100) (atype := .int) hx hb (ht _ wd79) (ty := .int) rfl (fun _ _ h => h) 0 rfl hK hP hD hS hA (fun _ => rfl) (by decide) (by decide) (by decide) (Nat.le_of_ble_eq_true rfl) (Nat.le_of_ble_eq_true rfl) dX0_init_55 (fun q55 H hP hD hS => ?_)
  have hP : va_P D vwCl [(h0, .inr (0, [.ref q7, .ref q15, .ref q23, .ref q31, .ref q39, .ref q47, .null, .null, .null, .int 0])), (q7, .inl (cI, 100, .inl zF)), (q15, .inl (cI, 100, .inl zF)), (q23, .inl (cI, 100, .inl zF)), (q31, .inl (cI, 100, .inl zF)), (q39, .inl (cI, 100, .inl zF)), (q47, .inl (cI, 100, .inl zF)), (q55, .inl (cI, 100, .inl zF))] H := hP
  have hD : va_D A [(h0, .inr (0, [.ref q7, .ref q15, .ref q23, .ref q31, .ref q39, .ref q47, .null, .null, .null, .int 0])), (q7, .inl (cI, 100, .inl zF)), (q15, .inl (cI, 100, .inl zF)), (q23, .inl (cI, 100, .inl zF)), (q31, .inl (cI, 100, .inl zF)), (q39, .inl (cI, 100, .inl zF)), (q47, .inl (cI, 100, .inl zF)), (q55, .inl (cI, 100, .inl zF))] := hD
  refine W.widen (k := 7) (n := 700) (by omega) (by omega) ?_
  refine va_putF (D := D) (ci := 0) (v := .ref q55) (ty := .array .int) (C := RX0) (T := TX0) (N := 10) hx hb ht inX0 tyX0 tyX0_ok nmX0 hown hK hP hD hS 0 rfl rfl 6 (by decide) (ht _ wd54) (fun _ h9 => h9) rfl hin rfl (by decide +kernel) rfl rfl (Nat.le_of_ble_eq_true rfl) dX0_init_57 (fun H locs hP hD hS => ?_)
  have hP : va_P D vwCl [(h0, .inr (0, [.ref q7, .ref q15, .ref q23, .ref q31, .ref q39, .ref q47, .ref q55, .null, .null, .int 0])), (q7, .inl (cI, 100, .inl zF)), (q15, .inl (cI, 100, .inl zF)), (q23, .inl (cI, 100, .inl zF)), (q31, .inl (cI, 100, .inl zF)), (q39, .inl (cI, 100, .inl zF)), (q47, .inl (cI, 100, .inl zF)), (q55, .inl (cI, 100, .inl zF))] H := hP
  have hD : va_D A [(h0, .inr (0, [.ref q7, .ref q15, .ref q23, .ref q31, .ref q39, .ref q47, .ref q55, .null, .null, .int 0])), (q7, .inl (cI, 100, .inl zF)), (q15, .inl (cI, 100, .inl zF)), (q23, .inl (cI, 100, .inl zF)), (q31, .inl (cI, 100, .inl zF)), (q39, .inl (cI, 100, .inl zF)), (q47, .inl (cI, 100, .inl zF)), (q55, .inl (cI, 100, .inl zF))] := hD
  refine lv_aload_n hx hb dX0_init_60 rfl (lv_at hl 0 rfl) ?_
  refine lv_bipush (v := nI 100) hx hb dX0_init_61 (by decide) ?_
  refine xa_newa (a0 := (100, .inl zF)) (N' := 100) (atype := .int) hx hb (ht _ wd79) (ty := .int) rfl (fun _ _ h => h) 0 rfl hK hP hD hS hA (fun _ => rfl) (by decide) (by decide) (by decide) (Nat.le_of_ble_eq_true rfl) (Nat.le_of_ble_eq_true rfl) dX0_init_63 (fun q63 H hP hD hS => ?_)
  have hP : va_P D vwCl [(h0, .inr (0, [.ref q7, .ref q15, .ref q23, .ref q31, .ref q39, .ref q47, .ref q55, .null, .null, .int 0])), (q7, .inl (cI, 100, .inl zF)), (q15, .inl (cI, 100, .inl zF)), (q23, .inl (cI, 100, .inl zF)), (q31, .inl (cI, 100, .inl zF)), (q39, .inl (cI, 100, .inl zF)), (q47, .inl (cI, 100, .inl zF)), (q55, .inl (cI, 100, .inl zF)), (q63, .inl (cI, 100, .inl zF))] H := hP
  have hD : va_D A [(h0, .inr (0, [.ref q7, .ref q15, .ref q23, .ref q31, .ref q39, .ref q47, .ref q55, .null, .null, .int 0])), (q7, .inl (cI, 100, .inl zF)), (q15, .inl (cI, 100, .inl zF)), (q23, .inl (cI, 100, .inl zF)), (q31, .inl (cI, 100, .inl zF)), (q39, .inl (cI, 100, .inl zF)), (q47, .inl (cI, 100, .inl zF)), (q55, .inl (cI, 100, .inl zF)), (q63, .inl (cI, 100, .inl zF))] := hD
  refine W.widen (k := 8) (n := 800) (by omega) (by omega) ?_
  refine va_putF (D := D) (ci := 0) (v := .ref q63) (ty := .array .int) (C := RX0) (T := TX0) (N := 10) hx hb ht inX0 tyX0 tyX0_ok nmX0 hown hK hP hD hS 0 rfl rfl 7 (by decide) (ht _ wd55) (fun _ h9 => h9) rfl hin rfl (by decide +kernel) rfl rfl (Nat.le_of_ble_eq_true rfl) dX0_init_65 (fun H locs hP hD hS => ?_)
  have hP : va_P D vwCl [(h0, .inr (0, [.ref q7, .ref q15, .ref q23, .ref q31, .ref q39, .ref q47, .ref q55, .ref q63, .null, .int 0])), (q7, .inl (cI, 100, .inl zF)), (q15, .inl (cI, 100, .inl zF)), (q23, .inl (cI, 100, .inl zF)), (q31, .inl (cI, 100, .inl zF)), (q39, .inl (cI, 100, .inl zF)), (q47, .inl (cI, 100, .inl zF)), (q55, .inl (cI, 100, .inl zF)), (q63, .inl (cI, 100, .inl zF))] H := hP
  have hD : va_D A [(h0, .inr (0, [.ref q7, .ref q15, .ref q23, .ref q31, .ref q39, .ref q47, .ref q55, .ref q63, .null, .int 0])), (q7, .inl (cI, 100, .inl zF)), (q15, .inl (cI, 100, .inl zF)), (q23, .inl (cI, 100, .inl zF)), (q31, .inl (cI, 100, .inl zF)), (q39, .inl (cI, 100, .inl zF)), (q47, .inl (cI, 100, .inl zF)), (q55, .inl (cI, 100, .inl zF)), (q63, .inl (cI, 100, .inl zF))] := hD
  refine lv_aload_n hx hb dX0_init_68 rfl (lv_at hl 0 rfl) ?_
  refine lv_bipush (v := nI 20) hx hb dX0_init_69 (by decide) ?_
  refine xa_newa (a0 := (20, .inl zF)) (N' := 20) (atype := .boolean) hx hb (ht _ wd80) (ty := .boolean) rfl (fun _ _ h => h) 1 rfl hK hP hD hS hA (fun _ => rfl) (by decide) (by decide) (by decide) (Nat.le_of_ble_eq_true rfl) (Nat.le_of_ble_eq_true rfl) dX0_init_71 (fun q71 H hP hD hS => ?_)
  have hP : va_P D vwCl [(h0, .inr (0, [.ref q7, .ref q15, .ref q23, .ref q31, .ref q39, .ref q47, .ref q55, .ref q63, .null, .int 0])), (q7, .inl (cI, 100, .inl zF)), (q15, .inl (cI, 100, .inl zF)), (q23, .inl (cI, 100, .inl zF)), (q31, .inl (cI, 100, .inl zF)), (q39, .inl (cI, 100, .inl zF)), (q47, .inl (cI, 100, .inl zF)), (q55, .inl (cI, 100, .inl zF)), (q63, .inl (cI, 100, .inl zF)), (q71, .inl (cZ, 20, .inl zF))] H := hP
  have hD : va_D A [(h0, .inr (0, [.ref q7, .ref q15, .ref q23, .ref q31, .ref q39, .ref q47, .ref q55, .ref q63, .null, .int 0])), (q7, .inl (cI, 100, .inl zF)), (q15, .inl (cI, 100, .inl zF)), (q23, .inl (cI, 100, .inl zF)), (q31, .inl (cI, 100, .inl zF)), (q39, .inl (cI, 100, .inl zF)), (q47, .inl (cI, 100, .inl zF)), (q55, .inl (cI, 100, .inl zF)), (q63, .inl (cI, 100, .inl zF)), (q71, .inl (cZ, 20, .inl zF))] := hD
  refine W.widen (k := 9) (n := 820) (by omega) (by omega) ?_
  refine va_putF (D := D) (ci := 0) (v := .ref q71) (ty := .array .boolean) (C := RX0) (T := TX0) (N := 10) hx hb ht inX0 tyX0 tyX0_ok nmX0 hown hK hP hD hS 0 rfl rfl 8 (by decide) (ht _ wd56) (fun _ h9 => h9) rfl hin rfl (by decide +kernel) rfl rfl (Nat.le_of_ble_eq_true rfl) dX0_init_73 (fun H locs hP hD hS => ?_)
  have hP : va_P D vwCl [(h0, .inr (0, [.ref q7, .ref q15, .ref q23, .ref q31, .ref q39, .ref q47, .ref q55, .ref q63, .ref q71, .int 0])), (q7, .inl (cI, 100, .inl zF)), (q15, .inl (cI, 100, .inl zF)), (q23, .inl (cI, 100, .inl zF)), (q31, .inl (cI, 100, .inl zF)), (q39, .inl (cI, 100, .inl zF)), (q47, .inl (cI, 100, .inl zF)), (q55, .inl (cI, 100, .inl zF)), (q63, .inl (cI, 100, .inl zF)), (q71, .inl (cZ, 20, .inl zF))] H := hP
  have hD : va_D A [(h0, .inr (0, [.ref q7, .ref q15, .ref q23, .ref q31, .ref q39, .ref q47, .ref q55, .ref q63, .ref q71, .int 0])), (q7, .inl (cI, 100, .inl zF)), (q15, .inl (cI, 100, .inl zF)), (q23, .inl (cI, 100, .inl zF)), (q31, .inl (cI, 100, .inl zF)), (q39, .inl (cI, 100, .inl zF)), (q47, .inl (cI, 100, .inl zF)), (q55, .inl (cI, 100, .inl zF)), (q63, .inl (cI, 100, .inl zF)), (q71, .inl (cZ, 20, .inl zF))] := hD
  refine lv_aload_n hx hb dX0_init_76 rfl (lv_at hl 0 rfl) ?_
  refine lv_iconst (v := 0) hx hb dX0_init_77 (by decide) ?_
  refine va_put (D := D) (ci := 0) (v := .int 0) (ty := .int) (C := RX0) (T := TX0) (N := 10) hx hb ht inX0 tyX0 tyX0_ok nmX0 hown hK hP hD hS 0 rfl rfl 9 (by decide) (ht _ wd57) (fun _ h9 => h9) rfl (by decide +kernel) rfl rfl (Nat.le_of_ble_eq_true rfl) dX0_init_78 (fun H locs hP hD hS => ?_)
  have hP : va_P D vwCl [(h0, .inr (0, [.ref q7, .ref q15, .ref q23, .ref q31, .ref q39, .ref q47, .ref q55, .ref q63, .ref q71, .int 0])), (q7, .inl (cI, 100, .inl zF)), (q15, .inl (cI, 100, .inl zF)), (q23, .inl (cI, 100, .inl zF)), (q31, .inl (cI, 100, .inl zF)), (q39, .inl (cI, 100, .inl zF)), (q47, .inl (cI, 100, .inl zF)), (q55, .inl (cI, 100, .inl zF)), (q63, .inl (cI, 100, .inl zF)), (q71, .inl (cZ, 20, .inl zF))] H := hP
  have hD : va_D A [(h0, .inr (0, [.ref q7, .ref q15, .ref q23, .ref q31, .ref q39, .ref q47, .ref q55, .ref q63, .ref q71, .int 0])), (q7, .inl (cI, 100, .inl zF)), (q15, .inl (cI, 100, .inl zF)), (q23, .inl (cI, 100, .inl zF)), (q31, .inl (cI, 100, .inl zF)), (q39, .inl (cI, 100, .inl zF)), (q47, .inl (cI, 100, .inl zF)), (q55, .inl (cI, 100, .inl zF)), (q63, .inl (cI, 100, .inl zF)), (q71, .inl (cZ, 20, .inl zF))] := hD
  exact W.vret hx hb hr (fun t ht9 hW => ⟨⟨(fun i => ([h0, q7, q15, q23, q31, q39, q47, q55, q63, q71] : List Nat).getD i 0), rfl, rfl, by rw [ht9]; exact hP, hD⟩, hS.F ht9⟩) hS.2.2 dX0_init_81 hlocks
set_option maxHeartbeats 4000000 in
set_option maxRecDepth 100000 in
theorem c_X1_init (l : Launch) (D : va_G) (cI cZ : ClassId) (h0 sz : Nat) : Met l yX1_init (.code yX1_init cX1_init 1 none :: wBIG) { frames := 1, cells := 1, slots := 500, locals := 12 } (va_Pc [.ref h0] (fun U => U.heap.size = sz ∧ xB D [(h0, .inr (1, [.null, .int 0]))] (tyL cI cZ) U ∧ va_D (fun _ => True) [(h0, .inr (1, [.null, .int 0]))])) (va_Qv (fun u : Nat → Nat => u 0 = h0) (fun u t => va_P D vwCl (wNt u cI N0) t.heap ∧ va_D (va_A [(h0, .inr (1, [.null, .int 0]))] sz) (wNt u cI N0)) (va_A [(h0, .inr (1, [.null, .int 0]))] sz)) 1 500 (va_A [(h0, .inr (1, [.null, .int 0]))] sz) := by
  refine Met.ofW (cc := cX1_init) (maxL := 1) (ret := none) (by decide +kernel) rfl ?_
  intro p e s m args below meth c s₁ B hml hv
  obtain ⟨rfl, hsz, ⟨hP, hK, hN⟩, hD0⟩ := hv
  have hx := B.exec
  have hb := B.bytes
  have hr := B.returns
  have ht : ∀ w ∈ wBIG, w.before _ s = true := fun w h => atoms_spec (ws := .code yX1_init cX1_init 1 none :: wBIG) B.pre w (List.mem_cons_of_mem _ h)
  have hown : s.vm.findClass RX1 = some m.cls := findClass_of_methodNamed B.named
  have hlocks := B.notSynchronized
  have hin : meth.name = "<init>" := (name_of_methodNamed B.named B.method).1
  subst hsz
  have hD := hD0.self (sz := s.heap.size)
  generalize hAe : va_A [(h0, .inr (1, [.null, .int 0]))] s.heap.size = A at hD ⊢
  have hA : ∀ q : Nat, s.heap.size ≤ q → A q := fun q h => by rw [← hAe]; exact Or.inr h
  have hS : va_S A s.heap s.heap [] := va_S.rf
  have hl := lv_entry ([.ref h0]) (n := 1) (Nat.le_of_ble_eq_true rfl)
  rw [lg_entry_eq]
  generalize (lg_sl ([.ref h0]) ++ List.replicate (1 - (lg_sl ([.ref h0])).length) Slot.unset).toArray = ls at hl ⊢
  have hl : lv_has ls 1 [(0, .ref h0)] := hl
  refine lv_aload_n hx hb dX1_init_0 rfl (lv_at hl 0 rfl) ?_
  refine W.objInit hx hb hown (ht _ wd99) (ht _ wd40) (ht _ wdObj) rfl (by rw [hml]; exact hl.1) rfl dX1_init_1 (Nat.le_of_ble_eq_true rfl) (Nat.le_of_ble_eq_true rfl) ?_
  refine W.eq (g2 := F0 m 4 ls []) rfl ?_
  refine lv_aload_n hx hb dX1_init_4 rfl (lv_at hl 0 rfl) ?_
  refine lv_sipush (v := nI 500) hx hb dX1_init_5 (by decide) ?_
  refine xa_newa (a0 := (500, .inl zF)) (N' := 500) (atype := .int) hx hb (ht _ wd79) (ty := .int) rfl (fun _ _ h => h) 0 rfl hK hP hD hS hA (fun _ => rfl) (by decide) (by decide) (by decide) (Nat.le_of_ble_eq_true rfl) (Nat.le_of_ble_eq_true rfl) dX1_init_8 (fun q8 H hP hD hS => ?_)
  have hP : va_P D vwCl [(h0, .inr (1, [.null, .int 0])), (q8, .inl (cI, 500, .inl zF))] H := hP
  have hD : va_D A [(h0, .inr (1, [.null, .int 0])), (q8, .inl (cI, 500, .inl zF))] := hD
  refine W.widen (k := 1) (n := 500) (by omega) (by omega) ?_
  refine va_putF (D := D) (ci := 1) (v := .ref q8) (ty := .array .int) (C := RX1) (T := TX1) (N := 2) hx hb ht inX1 tyX1 tyX1_ok nmX1 hown hK hP hD hS 0 rfl rfl 0 (by decide) (ht _ wd100) (fun _ h9 => h9) rfl hin rfl (by decide +kernel) rfl rfl (Nat.le_of_ble_eq_true rfl) dX1_init_10 (fun H locs hP hD hS => ?_)
  have hP : va_P D vwCl [(h0, .inr (1, [.ref q8, .int 0])), (q8, .inl (cI, 500, .inl zF))] H := hP
  have hD : va_D A [(h0, .inr (1, [.ref q8, .int 0])), (q8, .inl (cI, 500, .inl zF))] := hD
  refine lv_aload_n hx hb dX1_init_13 rfl (lv_at hl 0 rfl) ?_
  refine lv_iconst (v := 0) hx hb dX1_init_14 (by decide) ?_
  refine va_put (D := D) (ci := 1) (v := .int 0) (ty := .int) (C := RX1) (T := TX1) (N := 2) hx hb ht inX1 tyX1 tyX1_ok nmX1 hown hK hP hD hS 0 rfl rfl 1 (by decide) (ht _ wd101) (fun _ h9 => h9) rfl (by decide +kernel) rfl rfl (Nat.le_of_ble_eq_true rfl) dX1_init_15 (fun H locs hP hD hS => ?_)
  have hP : va_P D vwCl [(h0, .inr (1, [.ref q8, .int 0])), (q8, .inl (cI, 500, .inl zF))] H := hP
  have hD : va_D A [(h0, .inr (1, [.ref q8, .int 0])), (q8, .inl (cI, 500, .inl zF))] := hD
  exact W.vret hx hb hr (fun t ht9 hW => ⟨⟨(fun i => ([h0, q8] : List Nat).getD i 0), rfl, rfl, by rw [ht9]; exact hP, hD⟩, hS.F ht9⟩) hS.2.2 dX1_init_18 hlocks
set_option maxHeartbeats 4000000 in
set_option maxRecDepth 100000 in
theorem c_X2_init (l : Launch) (D : va_G) (cI cZ : ClassId) (h0 sz : Nat) : Met l yX2_init (.code yX2_init cX2_init 1 none :: wBIG) { frames := 1, cells := 2, slots := 130, locals := 12 } (va_Pc [.ref h0] (fun U => U.heap.size = sz ∧ xB D [(h0, .inr (2, [.null, .null]))] (tyL cI cZ) U ∧ va_D (fun _ => True) [(h0, .inr (2, [.null, .null]))])) (va_Qv (fun u : Nat → Nat => u 0 = h0) (fun u t => va_P D vwCl (wR u cI R0) t.heap ∧ va_D (va_A [(h0, .inr (2, [.null, .null]))] sz) (wR u cI R0)) (va_A [(h0, .inr (2, [.null, .null]))] sz)) 2 130 (va_A [(h0, .inr (2, [.null, .null]))] sz) := by
  refine Met.ofW (cc := cX2_init) (maxL := 1) (ret := none) (by decide +kernel) rfl ?_
  intro p e s m args below meth c s₁ B hml hv
  obtain ⟨rfl, hsz, ⟨hP, hK, hN⟩, hD0⟩ := hv
  have hx := B.exec
  have hb := B.bytes
  have hr := B.returns
  have ht : ∀ w ∈ wBIG, w.before _ s = true := fun w h => atoms_spec (ws := .code yX2_init cX2_init 1 none :: wBIG) B.pre w (List.mem_cons_of_mem _ h)
  have hown : s.vm.findClass RX2 = some m.cls := findClass_of_methodNamed B.named
  have hlocks := B.notSynchronized
  have hin : meth.name = "<init>" := (name_of_methodNamed B.named B.method).1
  subst hsz
  have hD := hD0.self (sz := s.heap.size)
  generalize hAe : va_A [(h0, .inr (2, [.null, .null]))] s.heap.size = A at hD ⊢
  have hA : ∀ q : Nat, s.heap.size ≤ q → A q := fun q h => by rw [← hAe]; exact Or.inr h
  have hS : va_S A s.heap s.heap [] := va_S.rf
  have hl := lv_entry ([.ref h0]) (n := 1) (Nat.le_of_ble_eq_true rfl)
  rw [lg_entry_eq]
  generalize (lg_sl ([.ref h0]) ++ List.replicate (1 - (lg_sl ([.ref h0])).length) Slot.unset).toArray = ls at hl ⊢
  have hl : lv_has ls 1 [(0, .ref h0)] := hl
  refine lv_aload_n hx hb dX2_init_0 rfl (lv_at hl 0 rfl) ?_
  refine W.objInit hx hb hown (ht _ wd86) (ht _ wd40) (ht _ wdObj) rfl (by rw [hml]; exact hl.1) rfl dX2_init_1 (Nat.le_of_ble_eq_true rfl) (Nat.le_of_ble_eq_true rfl) ?_
  refine W.eq (g2 := F0 m 4 ls []) rfl ?_
  refine lv_aload_n hx hb dX2_init_4 rfl (lv_at hl 0 rfl) ?_
  refine lv_bipush (v := nI 120) hx hb dX2_init_5 (by decide) ?_
  refine xa_newa (a0 := (120, .inl zF)) (N' := 120) (atype := .int) hx hb (ht _ wd79) (ty := .int) rfl (fun _ _ h => h) 0 rfl hK hP hD hS hA (fun _ => rfl) (by decide) (by decide) (by decide) (Nat.le_of_ble_eq_true rfl) (Nat.le_of_ble_eq_true rfl) dX2_init_7 (fun q7 H hP hD hS => ?_)
  have hP : va_P D vwCl [(h0, .inr (2, [.null, .null])), (q7, .inl (cI, 120, .inl zF))] H := hP
  have hD : va_D A [(h0, .inr (2, [.null, .null])), (q7, .inl (cI, 120, .inl zF))] := hD
  refine W.widen (k := 1) (n := 120) (by omega) (by omega) ?_
  refine va_putF (D := D) (ci := 2) (v := .ref q7) (ty := .array .int) (C := RX2) (T := TX2) (N := 2) hx hb ht inX2 tyX2 tyX2_ok nmX2 hown hK hP hD hS 0 rfl rfl 0 (by decide) (ht _ wd87) (fun _ h9 => h9) rfl hin rfl (by decide +kernel) rfl rfl (Nat.le_of_ble_eq_true rfl) dX2_init_9 (fun H locs hP hD hS => ?_)
  have hP : va_P D vwCl [(h0, .inr (2, [.ref q7, .null])), (q7, .inl (cI, 120, .inl zF))] H := hP
  have hD : va_D A [(h0, .inr (2, [.ref q7, .null])), (q7, .inl (cI, 120, .inl zF))] := hD
  refine lv_aload_n hx hb dX2_init_12 rfl (lv_at hl 0 rfl) ?_
  refine lv_bipush (v := nI 10) hx hb dX2_init_13 (by decide) ?_
  refine xa_newa (a0 := (10, .inl zF)) (N' := 10) (atype := .int) hx hb (ht _ wd79) (ty := .int) rfl (fun _ _ h => h) 0 rfl hK hP hD hS hA (fun _ => rfl) (by decide) (by decide) (by decide) (Nat.le_of_ble_eq_true rfl) (Nat.le_of_ble_eq_true rfl) dX2_init_15 (fun q15 H hP hD hS => ?_)
  have hP : va_P D vwCl [(h0, .inr (2, [.ref q7, .null])), (q7, .inl (cI, 120, .inl zF)), (q15, .inl (cI, 10, .inl zF))] H := hP
  have hD : va_D A [(h0, .inr (2, [.ref q7, .null])), (q7, .inl (cI, 120, .inl zF)), (q15, .inl (cI, 10, .inl zF))] := hD
  refine W.widen (k := 2) (n := 130) (by omega) (by omega) ?_
  refine va_putF (D := D) (ci := 2) (v := .ref q15) (ty := .array .int) (C := RX2) (T := TX2) (N := 2) hx hb ht inX2 tyX2 tyX2_ok nmX2 hown hK hP hD hS 0 rfl rfl 1 (by decide) (ht _ wd88) (fun _ h9 => h9) rfl hin rfl (by decide +kernel) rfl rfl (Nat.le_of_ble_eq_true rfl) dX2_init_17 (fun H locs hP hD hS => ?_)
  have hP : va_P D vwCl [(h0, .inr (2, [.ref q7, .ref q15])), (q7, .inl (cI, 120, .inl zF)), (q15, .inl (cI, 10, .inl zF))] H := hP
  have hD : va_D A [(h0, .inr (2, [.ref q7, .ref q15])), (q7, .inl (cI, 120, .inl zF)), (q15, .inl (cI, 10, .inl zF))] := hD
  exact W.vret hx hb hr (fun t ht9 hW => ⟨⟨(fun i => ([h0, q7, q15] : List Nat).getD i 0), rfl, rfl, by rw [ht9]; exact hP, hD⟩, hS.F ht9⟩) hS.2.2 dX2_init_20 hlocks
set_option maxHeartbeats 4000000 in
set_option maxRecDepth 100000 in
theorem c_X4_init (l : Launch) (D : va_G) (cI cZ : ClassId) (h0 sz : Nat) : Met l yX4_init (.code yX4_init cX4_init 1 none :: wBIG) { frames := 1, cells := 14, slots := 1670, locals := 12 } (va_Pc [.ref h0] (fun U => U.heap.size = sz ∧ xB D [(h0, .inr (4, [.int 0, .int 0, .int 0, .null, .null, .null, .null, .null, .null, .null, .null, .null, .null, .null, .null, .null, .int 0, .null]))] (tyL cI cZ) U ∧ va_D (fun _ => True) [(h0, .inr (4, [.int 0, .int 0, .int 0, .null, .null, .null, .null, .null, .null, .null, .null, .null, .null, .null, .null, .null, .int 0, .null]))])) (va_Qv (fun u : Nat → Nat => u 0 = h0) (fun u t => va_P D vwCl (wM u cI cZ M0) t.heap ∧ va_D (va_A [(h0, .inr (4, [.int 0, .int 0, .int 0, .null, .null, .null, .null, .null, .null, .null, .null, .null, .null, .null, .null, .null, .int 0, .null]))] sz) (wM u cI cZ M0)) (va_A [(h0, .inr (4, [.int 0, .int 0, .int 0, .null, .null, .null, .null, .null, .null, .null, .null, .null, .null, .null, .null, .null, .int 0, .null]))] sz)) 14 1670 (va_A [(h0, .inr (4, [.int 0, .int 0, .int 0, .null, .null, .null, .null, .null, .null, .null, .null, .null, .null, .null, .null, .null, .int 0, .null]))] sz) := by
  refine Met.ofW (cc := cX4_init) (maxL := 1) (ret := none) (by decide +kernel) rfl ?_
  intro p e s m args below meth c s₁ B hml hv
  obtain ⟨rfl, hsz, ⟨hP, hK, hN⟩, hD0⟩ := hv
  have hx := B.exec
  have hb := B.bytes
  have hr := B.returns
  have ht : ∀ w ∈ wBIG, w.before _ s = true := fun w h => atoms_spec (ws := .code yX4_init cX4_init 1 none :: wBIG) B.pre w (List.mem_cons_of_mem _ h)
  have hown : s.vm.findClass RX4 = some m.cls := findClass_of_methodNamed B.named
  have hlocks := B.notSynchronized
  have hin : meth.name = "<init>" := (name_of_methodNamed B.named B.method).1
  subst hsz
  have hD := hD0.self (sz := s.heap.size)
  generalize hAe : va_A [(h0, .inr (4, [.int 0, .int 0, .int 0, .null, .null, .null, .null, .null, .null, .null, .null, .null, .null, .null, .null, .null, .int 0, .null]))] s.heap.size = A at hD ⊢
  have hA : ∀ q : Nat, s.heap.size ≤ q → A q := fun q h => by rw [← hAe]; exact Or.inr h
  have hS : va_S A s.heap s.heap [] := va_S.rf
  have hl := lv_entry ([.ref h0]) (n := 1) (Nat.le_of_ble_eq_true rfl)
  rw [lg_entry_eq]
  generalize (lg_sl ([.ref h0]) ++ List.replicate (1 - (lg_sl ([.ref h0])).length) Slot.unset).toArray = ls at hl ⊢
  have hl : lv_has ls 1 [(0, .ref h0)] := hl
  refine lv_aload_n hx hb dX4_init_0 rfl (lv_at hl 0 rfl) ?_
  refine W.objInit hx hb hown (ht _ wd571) (ht _ wd40) (ht _ wdObj) rfl (by rw [hml]; exact hl.1) rfl dX4_init_1 (Nat.le_of_ble_eq_true rfl) (Nat.le_of_ble_eq_true rfl) ?_
  refine W.eq (g2 := F0 m 4 ls []) rfl ?_
  refine lv_aload_n hx hb dX4_init_4 rfl (lv_at hl 0 rfl) ?_
  refine lv_bipush (v := nI 100) hx hb dX4_init_5 (by decide) ?_
  refine xa_newa (a0 := (100, .inl zF)) (N' := 100) (atype := .int) hx hb (ht _ wd79) (ty := .int) rfl (fun _ _ h => h) 0 rfl hK hP hD hS hA (fun _ => rfl) (by decide) (by decide) (by decide) (Nat.le_of_ble_eq_true rfl) (Nat.le_of_ble_eq_true rfl) dX4_init_7 (fun q7 H hP hD hS => ?_)
  have hP : va_P D vwCl [(h0, .inr (4, [.int 0, .int 0, .int 0, .null, .null, .null, .null, .null, .null, .null, .null, .null, .null, .null, .null, .null, .int 0, .null])), (q7, .inl (cI, 100, .inl zF))] H := hP
  have hD : va_D A [(h0, .inr (4, [.int 0, .int 0, .int 0, .null, .null, .null, .null, .null, .null, .null, .null, .null, .null, .null, .null, .null, .int 0, .null])), (q7, .inl (cI, 100, .inl zF))] := hD
  refine W.widen (k := 1) (n := 100) (by omega) (by omega) ?_
  refine va_putF (D := D) (ci := 4) (v := .ref q7) (ty := .array .int) (C := RX4) (T := TX4) (N := 18) hx hb ht inX4 tyX4 tyX4_ok nmX4 hown hK hP hD hS 0 rfl rfl 3 (by decide) (ht _ wd575) (fun _ h9 => h9) rfl hin rfl (by decide +kernel) rfl rfl (Nat.le_of_ble_eq_true rfl) dX4_init_9 (fun H locs hP hD hS => ?_)
  have hP : va_P D vwCl [(h0, .inr (4, [.int 0, .int 0, .int 0, .ref q7, .null, .null, .null, .null, .null, .null, .null, .null, .null, .null, .null, .null, .int 0, .null])), (q7, .inl (cI, 100, .inl zF))] H := hP
  have hD : va_D A [(h0, .inr (4, [.int 0, .int 0, .int 0, .ref q7, .null, .null, .null, .null, .null, .null, .null, .null, .null, .null, .null, .null, .int 0, .null])), (q7, .inl (cI, 100, .inl zF))] := hD
  refine lv_aload_n hx hb dX4_init_12 rfl (lv_at hl 0 rfl) ?_
  refine lv_bipush (v := nI 100) hx hb dX4_init_13 (by decide) ?_
  refine xa_newa (a0 := (100, .inl zF)) (N' := 100) (atype := .int) hx hb (ht _ wd79) (ty := .int) rfl (fun _ _ h => h) 0 rfl hK hP hD hS hA (fun _ => rfl) (by decide) (by decide) (by decide) (Nat.le_of_ble_eq_true rfl) (Nat.le_of_ble_eq_true rfl) dX4_init_15 (fun q15 H hP hD hS => ?_)
  have hP : va_P D vwCl [(h0, .inr (4, [.int 0, .int 0, .int 0, .ref q7, .null, .null, .null, .null, .null, .null, .null, .null, .null, .null, .null, .null, .int 0, .null])), (q7, .inl (cI, 100, .inl zF)), (q15, .inl (cI, 100, .inl zF))] H := hP
  have hD : va_D A [(h0, .inr (4, [.int 0, .int 0, .int 0, .ref q7, .null, .null, .null, .null, .null, .null, .null, .null, .null, .null, .null, .null, .int 0, .null])), (q7, .inl (cI, 100, .inl zF)), (q15, .inl (cI, 100, .inl zF))] := hD
  refine W.widen (k := 2) (n := 200) (by omega) (by omega) ?_
  refine va_putF (D := D) (ci := 4) (v := .ref q15) (ty := .array .int) (C := RX4) (T := TX4) (N := 18) hx hb ht inX4 tyX4 tyX4_ok nmX4 hown hK hP hD hS 0 rfl rfl 4 (by decide) (ht _ wd576) (fun _ h9 => h9) rfl hin rfl (by decide +kernel) rfl rfl (Nat.le_of_ble_eq_true rfl) dX4_init_17 (fun H locs hP hD hS => ?_)
  have hP : va_P D vwCl [(h0, .inr (4, [.int 0, .int 0, .int 0, .ref q7, .ref q15, .null, .null, .null, .null, .null, .null, .null, .null, .null, .null, .null, .int 0, .null])), (q7, .inl (cI, 100, .inl zF)), (q15, .inl (cI, 100, .inl zF))] H := hP
  have hD : va_D A [(h0, .inr (4, [.int 0, .int 0, .int 0, .ref q7, .ref q15, .null, .null, .null, .null, .null, .null, .null, .null, .null, .null, .null, .int 0, .null])), (q7, .inl (cI, 100, .inl zF)), (q15, .inl (cI, 100, .inl zF))] := hD
  refine lv_aload_n hx hb dX4_init_20 rfl (lv_at hl 0 rfl) ?_
  refine lv_bipush (v := nI 100) hx hb dX4_init_21 (by decide) ?_
  refine xa_newa (a0 := (100, .inl zF)) (N' := 100) (atype := .int) hx hb (ht _ wd79) (ty := .int) rfl (fun _ _ h => h) 0 rfl hK hP hD hS hA (fun _ => rfl) (by decide) (by decide) (by decide) (Nat.le_of_ble_eq_true rfl) (Nat.le_of_ble_eq_true rfl) dX4_init_23 (fun q23 H hP hD hS => ?_)
  have hP : va_P D vwCl [(h0, .inr (4, [.int 0, .int 0, .int 0, .ref q7, .ref q15, .null, .null, .null, .null, .null, .null, .null, .null, .null, .null, .null, .int 0, .null])), (q7, .inl (cI, 100, .inl zF)), (q15, .inl (cI, 100, .inl zF)), (q23, .inl (cI, 100, .inl zF))] H := hP
  have hD : va_D A [(h0, .inr (4, [.int 0, .int 0, .int 0, .ref q7, .ref q15, .null, .null, .null, .null, .null, .null, .null, .null, .null, .null, .null, .int 0, .null])), (q7, .inl (cI, 100, .inl zF)), (q15, .inl (cI, 100, .inl zF)), (q23, .inl (cI, 100, .inl zF))] := hD
  refine W.widen (k := 3) (n := 300) (by omega) (by omega) ?_
  refine va_putF (D := D) (ci := 4) (v := .ref q23) (ty := .array .int) (C := RX4) (T := TX4) (N := 18) hx hb ht inX4 tyX4 tyX4_ok nmX4 hown hK hP hD hS 0 rfl rfl 5 (by decide) (ht _ wd577) (fun _ h9 => h9) rfl hin rfl (by decide +kernel) rfl rfl (Nat.le_of_ble_eq_true rfl) dX4_init_25 (fun H locs hP hD hS => ?_)
  have hP : va_P D vwCl [(h0, .inr (4, [.int 0, .int 0, .int 0, .ref q7, .ref q15, .ref q23, .null, .null, .null, .null, .null, .null, .null, .null, .null, .null, .int 0, .null])), (q7, .inl (cI, 100, .inl zF)), (q15, .inl (cI, 100, .inl zF)), (q23, .inl (cI, 100, .inl zF))] H := hP
  have hD : va_D A [(h0, .inr (4, [.int 0, .int 0, .int 0, .ref q7, .ref q15, .ref q23, .null, .null, .null, .null, .null, .null, .null, .null, .null, .null, .int 0, .null])), (q7, .inl (cI, 100, .inl zF)), (q15, .inl (cI, 100, .inl zF)), (q23, .inl (cI, 100, .inl zF))] := hD
  refine lv_aload_n hx hb dX4_init_28 rfl (lv_at hl 0 rfl) ?_
  refine lv_bipush (v := nI 100) hx hb dX4_init_29 (by decide) ?_
  refine xa_newa (a0 := (100, .inl zF)) (N' := 100) (atype := .int) hx hb (ht _ wd79) (ty := .int) rfl (fun _ _ h => h) 0 rfl hK hP hD hS hA (fun _ => rfl) (by decide) (by decide) (by decide) (Nat.le_of_ble_eq_true rfl) (Nat.le_of_ble_eq_true rfl) dX4_init_31 (fun q31 H hP hD hS => ?_)
  have hP : va_P D vwCl [(h0, .inr (4, [.int 0, .int 0, .int 0, .ref q7, .ref q15, .ref q23, .null, .null, .null, .null, .null, .null, .null, .null, .null, .null, .int 0, .null])), (q7, .inl (cI, 100, .inl zF)), (q15, .inl (cI, 100, .inl zF)), (q23, .inl (cI, 100, .inl zF)), (q31, .inl (cI, 100, .inl zF))] H := hP
  have hD : va_D A [(h0, .inr (4, [.int 0, .int 0, .int 0, .ref q7, .ref q15, .ref q23, .null, .null, .null, .null, .null, .null, .null, .null, .null, .null, .int 0, .null])), (q7, .inl (cI, 100, .inl zF)), (q15, .inl (cI, 100, .inl zF)), (q23, .inl (cI, 100, .inl zF)), (q31, .inl (cI, 100, .inl zF))] := hD
  refine W.widen (k := 4) (n := 400) (by omega) (by omega) ?_
  refine va_putF (D := D) (ci := 4) (v := .ref q31) (ty := .array .int) (C := RX4) (T := TX4) (N := 18) hx hb ht inX4 tyX4 tyX4_ok nmX4 hown hK hP hD hS 0 rfl rfl 6 (by decide) (ht _ wd578) (fun _ h9 => h9) rfl hin rfl (by decide +kernel) rfl rfl (Nat.le_of_ble_eq_true rfl) dX4_init_33 (fun H locs hP hD hS => ?_)
  have hP : va_P D vwCl [(h0, .inr (4, [.int 0, .int 0, .int 0, .ref q7, .ref q15, .ref q23, .ref q31, .null, .null, .null, .null, .null, .null, .null, .null, .null, .int 0, .null])), (q7, .inl (cI, 100, .inl zF)), (q15, .inl (cI, 100, .inl zF)), (q23, .inl (cI, 100, .inl zF)), (q31, .inl (cI, 100, .inl zF))] H := hP
  have hD : va_D A [(h0, .inr (4, [.int 0, .int 0, .int 0, .ref q7, .ref q15, .ref q23, .ref q31, .null, .null, .null, .null, .null, .null, .null, .null, .null, .int 0, .null])), (q7, .inl (cI, 100, .inl zF)), (q15, .inl (cI, 100, .inl zF)), (q23, .inl (cI, 100, .inl zF)), (q31, .inl (cI, 100, .inl zF))] := hD
  refine lv_aload_n hx hb dX4_init_36 rfl (lv_at hl 0 rfl) ?_
  refine lv_bipush (v := nI 100) hx hb dX4_init_37 (by decide) ?_
  refine xa_newa (a0 := (100, .inl zF)) (N' := 100) (atype := .int) hx hb (ht _ wd79) (ty := .int) rfl (fun _ _ h => h) 0 rfl hK hP hD hS hA (fun _ => rfl) (by decide) (by decide) (by decide) (Nat.le_of_ble_eq_true rfl) (Nat.le_of_ble_eq_true rfl) dX4_init_39 (fun q39 H hP hD hS => ?_)
  have hP : va_P D vwCl [(h0, .inr (4, [.int 0, .int 0, .int 0, .ref q7, .ref q15, .ref q23, .ref q31, .null, .null, .null, .null, .null, .null, .null, .null, .null, .int 0, .null])), (q7, .inl (cI, 100, .inl zF)), (q15, .inl (cI, 100, .inl zF)), (q23, .inl (cI, 100, .inl zF)), (q31, .inl (cI, 100, .inl zF)), (q39, .inl (cI, 100, .inl zF))] H := hP
  have hD : va_D A [(h0, .inr (4, [.int 0, .int 0, .int 0, .ref q7, .ref q15, .ref q23, .ref q31, .null, .null, .null, .null, .null, .null, .null, .null, .null, .int 0, .null])), (q7, .inl (cI, 100, .inl zF)), (q15, .inl (cI, 100, .inl zF)), (q23, .inl (cI, 100, .inl zF)), (q31, .inl (cI, 100, .inl zF)), (q39, .inl (cI, 100, .inl zF))] := hD
  refine W.widen (k := 5) (n := 500) (by omega) (by omega) ?_
  refine va_putF (D := D) (ci := 4) (v := .ref q39) (ty := .array .int) (C := RX4) (T := TX4) (N := 18) hx hb ht inX4 tyX4 tyX4_ok nmX4 hown hK hP hD hS 0 rfl rfl 7 (by decide) (ht _ wd579) (fun _ h9 => h9) rfl hin rfl (by decide +kernel) rfl rfl (Nat.le_of_ble_eq_true rfl) dX4_init_41 (fun H locs hP hD hS => ?_)
  have hP : va_P D vwCl [(h0, .inr (4, [.int 0, .int 0, .int 0, .ref q7, .ref q15, .ref q23, .ref q31, .ref q39, .null, .null, .null, .null, .null, .null, .null, .null, .int 0, .null])), (q7, .inl (cI, 100, .inl zF)), (q15, .inl (cI, 100, .inl zF)), (q23, .inl (cI, 100, .inl zF)), (q31, .inl (cI, 100, .inl zF)), (q39, .inl (cI, 100, .inl zF))] H := hP
  have hD : va_D A [(h0, .inr (4, [.int 0, .int 0, .int 0, .ref q7, .ref q15, .ref q23, .ref q31, .ref q39, .null, .null, .null, .null, .null, .null, .null, .null, .int 0, .null])), (q7, .inl (cI, 100, .inl zF)), (q15, .inl (cI, 100, .inl zF)), (q23, .inl (cI, 100, .inl zF)), (q31, .inl (cI, 100, .inl zF)), (q39, .inl (cI, 100, .inl zF))] := hD
  refine lv_aload_n hx hb dX4_init_44 rfl (lv_at hl 0 rfl) ?_
  refine lv_bipush (v := nI 100) hx hb dX4_init_45 (by decide) ?_
  refine xa_newa (a0 := (100, .inl zF)) (N' := 100) (atype := .int) hx hb (ht _ wd79) (ty := .int) rfl (fun _ _ h => h) 0 rfl hK hP hD hS hA (fun _ => rfl) (by decide) (by decide) (by decide) (Nat.le_of_ble_eq_true rfl) (Nat.le_of_ble_eq_true rfl) dX4_init_47 (fun q47 H hP hD hS => ?_)
  have hP : va_P D vwCl [(h0, .inr (4, [.int 0, .int 0, .int 0, .ref q7, .ref q15, .ref q23, .ref q31, .ref q39, .null, .null, .null, .null, .null, .null, .null, .null, .int 0, .null])), (q7, .inl (cI, 100, .inl zF)), (q15, .inl (cI, 100, .inl zF)), (q23, .inl (cI, 100, .inl zF)), (q31, .inl (cI, 100, .inl zF)), (q39, .inl (cI, 100, .inl zF)), (q47, .inl (cI, 100, .inl zF))] H := hP
  have hD : va_D A [(h0, .inr (4, [.int 0, .int 0, .int 0, .ref q7, .ref q15, .ref q23, .ref q31, .ref q39, .null, .null, .null, .null, .null, .null, .null, .null, .int 0, .null])), (q7, .inl (cI, 100, .inl zF)), (q15, .inl (cI, 100, .inl zF)), (q23, .inl (cI, 100, .inl zF)), (q31, .inl (cI, 100, .inl zF)), (q39, .inl (cI, 100, .inl zF)), (q47, .inl (cI, 100, .inl zF))] := hD
  refine W.widen (k := 6) (n := 600) (by omega) (by omega) ?_
  refine va_putF (D := D) (ci := 4) (v := .ref q47) (ty := .array .int) (C := RX4) (T := TX4) (N := 18) hx hb ht inX4 tyX4 tyX4_ok nmX4 hown hK hP hD hS 0 rfl rfl 8 (by decide) (ht _ wd580) (fun _ h9 => h9) rfl hin rfl (by decide +kernel) rfl rfl (Nat.le_of_ble_eq_true rfl) dX4_init_49 (fun H locs hP hD hS => ?_)
  have hP : va_P D vwCl [(h0, .inr (4, [.int 0, .int 0, .int 0, .ref q7, .ref q15, .ref q23, .ref q31, .ref q39, .ref q47, .null, .null, .null, .null, .null, .null, .null, .int 0, .null])), (q7, .inl (cI, 100, .inl zF)), (q15, .inl (cI, 100, .inl zF)), (q23, .inl (cI, 100, .inl zF)), (q31, .inl (cI, 100, .inl zF)), (q39, .inl (cI, 100, .inl zF)), (q47, .inl (cI, 100, .inl zF))] H := hP
  have hD : va_D A [(h0, .inr (4, [.int 0, .int 0, .int 0, .ref q7, .ref q15, .ref q23, .ref q31, .ref q39, .ref q47, .null, .null, .null, .null, .null, .null, .null, .int 0, .null])), (q7, .inl (cI, 100, .inl zF)), (q15, .inl (cI, 100, .inl zF)), (q23, .inl (cI, 100, .inl zF)), (q31, .inl (cI, 100, .inl zF)), (q39, .inl (cI, 100, .inl zF)), (q47, .inl (cI, 100, .inl zF))] := hD
  refine lv_aload_n hx hb dX4_init_52 rfl (lv_at hl 0 rfl) ?_
  refine lv_bipush (v := nI 100) hx hb dX4_init_53 (by decide) ?_
  refine xa_newa (a0 := (100, .inl zF)) (N' := 100) (atype := .int) hx hb (ht _ wd79) (ty := .int) rfl (fun _ _ h => h) 0 rfl hK hP hD hS hA (fun _ => rfl) (by decide) (by decide) (by decide) (Nat.le_of_ble_eq_true rfl) (Nat.le_of_ble_eq_true rfl) dX4_init_55 (fun q55 H hP hD hS => ?_)
  have hP : va_P D vwCl [(h0, .inr (4, [.int 0, .int 0, .int 0, .ref q7, .ref q15, .ref q23, .ref q31, .ref q39, .ref q47, .null, .null, .null, .null, .null, .null, .null, .int 0, .null])), (q7, .inl (cI, 100, .inl zF)), (q15, .inl (cI, 100, .inl zF)), (q23, .inl (cI, 100, .inl zF)), (q31, .inl (cI, 100, .inl zF)), (q39, .inl (cI, 100, .inl zF)), (q47, .inl (cI, 100, .inl zF)), (q55, .inl (cI, 100, .inl zF))] H := hP
  have hD : va_D A [(h0, .inr (4, [.int 0, .int 0, .int 0, .ref q7, .ref q15, .ref q23, .ref q31, .ref q39, .ref q47, .null, .null, .null, .null, .null, .null, .null, .int 0, .null])), (q7, .inl (cI, 100, .inl zF)), (q15, .inl (cI, 100, .inl zF)), (q23, .inl (cI, 100, .inl zF)), (q31, .inl (cI, 100, .inl zF)), (q39, .inl (cI, 100, .inl zF)), (q47, .inl (cI, 100, .inl zF)), (q55, .inl (cI, 100, .inl zF))] := hD
  refine W.widen (k := 7) (n := 700) (by omega) (by omega) ?_
  refine va_putF (D := D) (ci := 4) (v := .ref q55) (ty := .array .int) (C := RX4) (T := TX4) (N := 18) hx hb ht inX4 tyX4 tyX4_ok nmX4 hown hK hP hD hS 0 rfl rfl 9 (by decide) (ht _ wd581) (fun _ h9 => h9) rfl hin rfl (by decide +kernel) rfl rfl (Nat.le_of_ble_eq_true rfl) dX4_init_57 (fun H locs hP hD hS => ?_)
  have hP : va_P D vwCl [(h0, .inr (4, [.int 0, .int 0, .int 0, .ref q7, .ref q15, .ref q23, .ref q31, .ref q39, .ref q47, .ref q55, .null, .null, .null, .null, .null, .null, .int 0, .null])), (q7, .inl (cI, 100, .inl zF)), (q15, .inl (cI, 100, .inl zF)), (q23, .inl (cI, 100, .inl zF)), (q31, .inl (cI, 100, .inl zF)), (q39, .inl (cI, 100, .inl zF)), (q47, .inl (cI, 100, .inl zF)), (q55, .inl (cI, 100, .inl zF))] H := hP
  have hD : va_D A [(h0, .inr (4, [.int 0, .int 0, .int 0, .ref q7, .ref q15, .ref q23, .ref q31, .ref q39, .ref q47, .ref q55, .null, .null, .null, .null, .null, .null, .int 0, .null])), (q7, .inl (cI, 100, .inl zF)), (q15, .inl (cI, 100, .inl zF)), (q23, .inl (cI, 100, .inl zF)), (q31, .inl (cI, 100, .inl zF)), (q39, .inl (cI, 100, .inl zF)), (q47, .inl (cI, 100, .inl zF)), (q55, .inl (cI, 100, .inl zF))] := hD
  refine lv_aload_n hx hb dX4_init_60 rfl (lv_at hl 0 rfl) ?_
  refine lv_bipush (v := nI 100) hx hb dX4_init_61 (by decide) ?_
  refine xa_newa (a0 := (100, .inl zF)) (N' := 100) (atype := .int) hx hb (ht _ wd79) (ty := .int) rfl (fun _ _ h => h) 0 rfl hK hP hD hS hA (fun _ => rfl) (by decide) (by decide) (by decide) (Nat.le_of_ble_eq_true rfl) (Nat.le_of_ble_eq_true rfl) dX4_init_63 (fun q63 H hP hD hS => ?_)
  have hP : va_P D vwCl [(h0, .inr (4, [.int 0, .int 0, .int 0, .ref q7, .ref q15, .ref q23, .ref q31, .ref q39, .ref q47, .ref q55, .null, .null, .null, .null, .null, .null, .int 0, .null])), (q7, .inl (cI, 100, .inl zF)), (q15, .inl (cI, 100, .inl zF)), (q23, .inl (cI, 100, .inl zF)), (q31, .inl (cI, 100, .inl zF)), (q39, .inl (cI, 100, .inl zF)), (q47, .inl (cI, 100, .inl zF)), (q55, .inl (cI, 100, .inl zF)), (q63, .inl (cI, 100, .inl zF))] H := hP
  have hD : va_D A [(h0, .inr (4, [.int 0, .int 0, .int 0, .ref q7, .ref q15, .ref q23, .ref q31, .ref q39, .ref q47, .ref q55, .null, .null, .null, .null, .null, .null, .int 0, .null])), (q7, .inl (cI, 100, .inl zF)), (q15, .inl (cI, 100, .inl zF)), (q23, .inl (cI, 100, .inl zF)), (q31, .inl (cI, 100, .inl zF)), (q39, .inl (cI, 100, .inl zF)), (q47, .inl (cI, 100, .inl zF)), (q55, .inl (cI, 100, .inl zF)), (q63, .inl (cI, 100, .inl zF))] := hD
  refine W.widen (k := 8) (n := 800) (by omega) (by omega) ?_
  refine va_putF (D := D) (ci := 4) (v := .ref q63) (ty := .array .int) (C := RX4) (T := TX4) (N := 18) hx hb ht inX4 tyX4 tyX4_ok nmX4 hown hK hP hD hS 0 rfl rfl 10 (by decide) (ht _ wd582) (fun _ h9 => h9) rfl hin rfl (by decide +kernel) rfl rfl (Nat.le_of_ble_eq_true rfl) dX4_init_65 (fun H locs hP hD hS => ?_)
  have hP : va_P D vwCl [(h0, .inr (4, [.int 0, .int 0, .int 0, .ref q7, .ref q15, .ref q23, .ref q31, .ref q39, .ref q47, .ref q55, .ref q63, .null, .null, .null, .null, .null, .int 0, .null])), (q7, .inl (cI, 100, .inl zF)), (q15, .inl (cI, 100, .inl zF)), (q23, .inl (cI, 100, .inl zF)), (q31, .inl (cI, 100, .inl zF)), (q39, .inl (cI, 100, .inl zF)), (q47, .inl (cI, 100, .inl zF)), (q55, .inl (cI, 100, .inl zF)), (q63, .inl (cI, 100, .inl zF))] H := hP
  have hD : va_D A [(h0, .inr (4, [.int 0, .int 0, .int 0, .ref q7, .ref q15, .ref q23, .ref q31, .ref q39, .ref q47, .ref q55, .ref q63, .null, .null, .null, .null, .null, .int 0, .null])), (q7, .inl (cI, 100, .inl zF)), (q15, .inl (cI, 100, .inl zF)), (q23, .inl (cI, 100, .inl zF)), (q31, .inl (cI, 100, .inl zF)), (q39, .inl (cI, 100, .inl zF)), (q47, .inl (cI, 100, .inl zF)), (q55, .inl (cI, 100, .inl zF)), (q63, .inl (cI, 100, .inl zF))] := hD
  refine lv_aload_n hx hb dX4_init_68 rfl (lv_at hl 0 rfl) ?_
  refine lv_bipush (v := nI 100) hx hb dX4_init_69 (by decide) ?_
  refine xa_newa (a0 := (100, .inl zF)) (N' := 100) (atype := .int) hx hb (ht _ wd79) (ty := .int) rfl (fun _ _ h => h) 0 rfl hK hP hD hS hA (fun _ => rfl) (by decide) (by decide) (by decide) (Nat.le_of_ble_eq_true rfl) (Nat.le_of_ble_eq_true rfl) dX4_init_71 (fun q71 H hP hD hS => ?_)
  have hP : va_P D vwCl [(h0, .inr (4, [.int 0, .int 0, .int 0, .ref q7, .ref q15, .ref q23, .ref q31, .ref q39, .ref q47, .ref q55, .ref q63, .null, .null, .null, .null, .null, .int 0, .null])), (q7, .inl (cI, 100, .inl zF)), (q15, .inl (cI, 100, .inl zF)), (q23, .inl (cI, 100, .inl zF)), (q31, .inl (cI, 100, .inl zF)), (q39, .inl (cI, 100, .inl zF)), (q47, .inl (cI, 100, .inl zF)), (q55, .inl (cI, 100, .inl zF)), (q63, .inl (cI, 100, .inl zF)), (q71, .inl (cI, 100, .inl zF))] H := hP
  have hD : va_D A [(h0, .inr (4, [.int 0, .int 0, .int 0, .ref q7, .ref q15, .ref q23, .ref q31, .ref q39, .ref q47, .ref q55, .ref q63, .null, .null, .null, .null, .null, .int 0, .null])), (q7, .inl (cI, 100, .inl zF)), (q15, .inl (cI, 100, .inl zF)), (q23, .inl (cI, 100, .inl zF)), (q31, .inl (cI, 100, .inl zF)), (q39, .inl (cI, 100, .inl zF)), (q47, .inl (cI, 100, .inl zF)), (q55, .inl (cI, 100, .inl zF)), (q63, .inl (cI, 100, .inl zF)), (q71, .inl (cI, 100, .inl zF))] := hD
  refine W.widen (k := 9) (n := 900) (by omega) (by omega) ?_
  refine va_putF (D := D) (ci := 4) (v := .ref q71) (ty := .array .int) (C := RX4) (T := TX4) (N := 18) hx hb ht inX4 tyX4 tyX4_ok nmX4 hown hK hP hD hS 0 rfl rfl 11 (by decide) (ht _ wd583) (fun _ h9 => h9) rfl hin rfl (by decide +kernel) rfl rfl (Nat.le_of_ble_eq_true rfl) dX4_init_73 (fun H locs hP hD hS => ?_)
  have hP : va_P D vwCl [(h0, .inr (4, [.int 0, .int 0, .int 0, .ref q7, .ref q15, .ref q23, .ref q31, .ref q39, .ref q47, .ref q55, .ref q63, .ref q71, .null, .null, .null, .null, .int 0, .null])), (q7, .inl (cI, 100, .inl zF)), (q15, .inl (cI, 100, .inl zF)), (q23, .inl (cI, 100, .inl zF)), (q31, .inl (cI, 100, .inl zF)), (q39, .inl (cI, 100, .inl zF)), (q47, .inl (cI, 100, .inl zF)), (q55, .inl (cI, 100, .inl zF)), (q63, .inl (cI, 100, .inl zF)), (q71, .inl (cI, 100, .inl zF))] H := hP
  have hD : va_D A [(h0, .inr (4, [.int 0, .int 0, .int 0, .ref q7, .ref q15, .ref q23, .ref q31, .ref q39, .ref q47, .ref q55, .ref q63, .ref q71, .null, .null, .null, .null, .int 0, .null])), (q7, .inl (cI, 100, .inl zF)), (q15, .inl (cI, 100, .inl zF)), (q23, .inl (cI, 100, .inl zF)), (q31, .inl (cI, 100, .inl zF)), (q39, .inl (cI, 100, .inl zF)), (q47, .inl (cI, 100, .inl zF)), (q55, .inl (cI, 100, .inl zF)), (q63, .inl (cI, 100, .inl zF)), (q71, .inl (cI, 100, .inl zF))] := hD
  refine lv_aload_n hx hb dX4_init_76 rfl (lv_at hl 0 rfl) ?_
  refine lv_bipush (v := nI 20) hx hb dX4_init_77 (by decide) ?_
  refine xa_newa (a0 := (20, .inl zF)) (N' := 20) (atype := .boolean) hx hb (ht _ wd80) (ty := .boolean) rfl (fun _ _ h => h) 1 rfl hK hP hD hS hA (fun _ => rfl) (by decide) (by decide) (by decide) (Nat.le_of_ble_eq_true rfl) (Nat.le_of_ble_eq_true rfl) dX4_init_79 (fun q79 H hP hD hS => ?_)
  have hP : va_P D vwCl [(h0, .inr (4, [.int 0, .int 0, .int 0, .ref q7, .ref q15, .ref q23, .ref q31, .ref q39, .ref q47, .ref q55, .ref q63, .ref q71, .null, .null, .null, .null, .int 0, .null])), (q7, .inl (cI, 100, .inl zF)), (q15, .inl (cI, 100, .inl zF)), (q23, .inl (cI, 100, .inl zF)), (q31, .inl (cI, 100, .inl zF)), (q39, .inl (cI, 100, .inl zF)), (q47, .inl (cI, 100, .inl zF)), (q55, .inl (cI, 100, .inl zF)), (q63, .inl (cI, 100, .inl zF)), (q71, .inl (cI, 100, .inl zF)), (q79, .inl (cZ, 20, .inl zF))] H := hP
  have hD : va_D A [(h0, .inr (4, [.int 0, .int 0, .int 0, .ref q7, .ref q15, .ref q23, .ref q31, .ref q39, .ref q47, .ref q55, .ref q63, .ref q71, .null, .null, .null, .null, .int 0, .null])), (q7, .inl (cI, 100, .inl zF)), (q15, .inl (cI, 100, .inl zF)), (q23, .inl (cI, 100, .inl zF)), (q31, .inl (cI, 100, .inl zF)), (q39, .inl (cI, 100, .inl zF)), (q47, .inl (cI, 100, .inl zF)), (q55, .inl (cI, 100, .inl zF)), (q63, .inl (cI, 100, .inl zF)), (q71, .inl (cI, 100, .inl zF)), (q79, .inl (cZ, 20, .inl zF))] := hD
  refine W.widen (k := 10) (n := 920) (by omega) (by omega) ?_
  refine va_putF (D := D) (ci := 4) (v := .ref q79) (ty := .array .boolean) (C := RX4) (T := TX4) (N := 18) hx hb ht inX4 tyX4 tyX4_ok nmX4 hown hK hP hD hS 0 rfl rfl 12 (by decide) (ht _ wd584) (fun _ h9 => h9) rfl hin rfl (by decide +kernel) rfl rfl (Nat.le_of_ble_eq_true rfl) dX4_init_81 (fun H locs hP hD hS => ?_)
  have hP : va_P D vwCl [(h0, .inr (4, [.int 0, .int 0, .int 0, .ref q7, .ref q15, .ref q23, .ref q31, .ref q39, .ref q47, .ref q55, .ref q63, .ref q71, .ref q79, .null, .null, .null, .int 0, .null])), (q7, .inl (cI, 100, .inl zF)), (q15, .inl (cI, 100, .inl zF)), (q23, .inl (cI, 100, .inl zF)), (q31, .inl (cI, 100, .inl zF)), (q39, .inl (cI, 100, .inl zF)), (q47, .inl (cI, 100, .inl zF)), (q55, .inl (cI, 100, .inl zF)), (q63, .inl (cI, 100, .inl zF)), (q71, .inl (cI, 100, .inl zF)), (q79, .inl (cZ, 20, .inl zF))] H := hP
  have hD : va_D A [(h0, .inr (4, [.int 0, .int 0, .int 0, .ref q7, .ref q15, .ref q23, .ref q31, .ref q39, .ref q47, .ref q55, .ref q63, .ref q71, .ref q79, .null, .null, .null, .int 0, .null])), (q7, .inl (cI, 100, .inl zF)), (q15, .inl (cI, 100, .inl zF)), (q23, .inl (cI, 100, .inl zF)), (q31, .inl (cI, 100, .inl zF)), (q39, .inl (cI, 100, .inl zF)), (q47, .inl (cI, 100, .inl zF)), (q55, .inl (cI, 100, .inl zF)), (q63, .inl (cI, 100, .inl zF)), (q71, .inl (cI, 100, .inl zF)), (q79, .inl (cZ, 20, .inl zF))] := hD
  refine lv_aload_n hx hb dX4_init_84 rfl (lv_at hl 0 rfl) ?_
  refine lv_bipush (v := nI 10) hx hb dX4_init_85 (by decide) ?_
  refine xa_newa (a0 := (10, .inl zF)) (N' := 10) (atype := .int) hx hb (ht _ wd79) (ty := .int) rfl (fun _ _ h => h) 0 rfl hK hP hD hS hA (fun _ => rfl) (by decide) (by decide) (by decide) (Nat.le_of_ble_eq_true rfl) (Nat.le_of_ble_eq_true rfl) dX4_init_87 (fun q87 H hP hD hS => ?_)
  have hP : va_P D vwCl [(h0, .inr (4, [.int 0, .int 0, .int 0, .ref q7, .ref q15, .ref q23, .ref q31, .ref q39, .ref q47, .ref q55, .ref q63, .ref q71, .ref q79, .null, .null, .null, .int 0, .null])), (q7, .inl (cI, 100, .inl zF)), (q15, .inl (cI, 100, .inl zF)), (q23, .inl (cI, 100, .inl zF)), (q31, .inl (cI, 100, .inl zF)), (q39, .inl (cI, 100, .inl zF)), (q47, .inl (cI, 100, .inl zF)), (q55, .inl (cI, 100, .inl zF)), (q63, .inl (cI, 100, .inl zF)), (q71, .inl (cI, 100, .inl zF)), (q79, .inl (cZ, 20, .inl zF)), (q87, .inl (cI, 10, .inl zF))] H := hP
  have hD : va_D A [(h0, .inr (4, [.int 0, .int 0, .int 0, .ref q7, .ref q15, .ref q23, .ref q31, .ref q39, .ref q47, .ref q55, .ref q63, .ref q71, .ref q79, .null, .null, .null, .int 0, .null])), (q7, .inl (cI, 100, .inl zF)), (q15, .inl (cI, 100, .inl zF)), (q23, .inl (cI, 100, .inl zF)), (q31, .inl (cI, 100, .inl zF)), (q39, .inl (cI, 100, .inl zF)), (q47, .inl (cI, 100, .inl zF)), (q55, .inl (cI, 100, .inl zF)), (q63, .inl (cI, 100, .inl zF)), (q71, .inl (cI, 100, .inl zF)), (q79, .inl (cZ, 20, .inl zF)), (q87, .inl (cI, 10, .inl zF))] := hD
  refine W.widen (k := 11) (n := 930) (by omega) (by omega) ?_
  refine va_putF (D := D) (ci := 4) (v := .ref q87) (ty := .array .int) (C := RX4) (T := TX4) (N := 18) hx hb ht inX4 tyX4 tyX4_ok nmX4 hown hK hP hD hS 0 rfl rfl 13 (by decide) (ht _ wd585) (fun _ h9 => h9) rfl hin rfl (by decide +kernel) rfl rfl (Nat.le_of_ble_eq_true rfl) dX4_init_89 (fun H locs hP hD hS => ?_)
  have hP : va_P D vwCl [(h0, .inr (4, [.int 0, .int 0, .int 0, .ref q7, .ref q15, .ref q23, .ref q31, .ref q39, .ref q47, .ref q55, .ref q63, .ref q71, .ref q79, .ref q87, .null, .null, .int 0, .null])), (q7, .inl (cI, 100, .inl zF)), (q15, .inl (cI, 100, .inl zF)), (q23, .inl (cI, 100, .inl zF)), (q31, .inl (cI, 100, .inl zF)), (q39, .inl (cI, 100, .inl zF)), (q47, .inl (cI, 100, .inl zF)), (q55, .inl (cI, 100, .inl zF)), (q63, .inl (cI, 100, .inl zF)), (q71, .inl (cI, 100, .inl zF)), (q79, .inl (cZ, 20, .inl zF)), (q87, .inl (cI, 10, .inl zF))] H := hP
  have hD : va_D A [(h0, .inr (4, [.int 0, .int 0, .int 0, .ref q7, .ref q15, .ref q23, .ref q31, .ref q39, .ref q47, .ref q55, .ref q63, .ref q71, .ref q79, .ref q87, .null, .null, .int 0, .null])), (q7, .inl (cI, 100, .inl zF)), (q15, .inl (cI, 100, .inl zF)), (q23, .inl (cI, 100, .inl zF)), (q31, .inl (cI, 100, .inl zF)), (q39, .inl (cI, 100, .inl zF)), (q47, .inl (cI, 100, .inl zF)), (q55, .inl (cI, 100, .inl zF)), (q63, .inl (cI, 100, .inl zF)), (q71, .inl (cI, 100, .inl zF)), (q79, .inl (cZ, 20, .inl zF)), (q87, .inl (cI, 10, .inl zF))] := hD
  refine lv_aload_n hx hb dX4_init_92 rfl (lv_at hl 0 rfl) ?_
  refine lv_bipush (v := nI 120) hx hb dX4_init_93 (by decide) ?_
  refine xa_newa (a0 := (120, .inl zF)) (N' := 120) (atype := .int) hx hb (ht _ wd79) (ty := .int) rfl (fun _ _ h => h) 0 rfl hK hP hD hS hA (fun _ => rfl) (by decide) (by decide) (by decide) (Nat.le_of_ble_eq_true rfl) (Nat.le_of_ble_eq_true rfl) dX4_init_95 (fun q95 H hP hD hS => ?_)
  have hP : va_P D vwCl [(h0, .inr (4, [.int 0, .int 0, .int 0, .ref q7, .ref q15, .ref q23, .ref q31, .ref q39, .ref q47, .ref q55, .ref q63, .ref q71, .ref q79, .ref q87, .null, .null, .int 0, .null])), (q7, .inl (cI, 100, .inl zF)), (q15, .inl (cI, 100, .inl zF)), (q23, .inl (cI, 100, .inl zF)), (q31, .inl (cI, 100, .inl zF)), (q39, .inl (cI, 100, .inl zF)), (q47, .inl (cI, 100, .inl zF)), (q55, .inl (cI, 100, .inl zF)), (q63, .inl (cI, 100, .inl zF)), (q71, .inl (cI, 100, .inl zF)), (q79, .inl (cZ, 20, .inl zF)), (q87, .inl (cI, 10, .inl zF)), (q95, .inl (cI, 120, .inl zF))] H := hP
  have hD : va_D A [(h0, .inr (4, [.int 0, .int 0, .int 0, .ref q7, .ref q15, .ref q23, .ref q31, .ref q39, .ref q47, .ref q55, .ref q63, .ref q71, .ref q79, .ref q87, .null, .null, .int 0, .null])), (q7, .inl (cI, 100, .inl zF)), (q15, .inl (cI, 100, .inl zF)), (q23, .inl (cI, 100, .inl zF)), (q31, .inl (cI, 100, .inl zF)), (q39, .inl (cI, 100, .inl zF)), (q47, .inl (cI, 100, .inl zF)), (q55, .inl (cI, 100, .inl zF)), (q63, .inl (cI, 100, .inl zF)), (q71, .inl (cI, 100, .inl zF)), (q79, .inl (cZ, 20, .inl zF)), (q87, .inl (cI, 10, .inl zF)), (q95, .inl (cI, 120, .inl zF))] := hD
  refine W.widen (k := 12) (n := 1050) (by omega) (by omega) ?_
  refine va_putF (D := D) (ci := 4) (v := .ref q95) (ty := .array .int) (C := RX4) (T := TX4) (N := 18) hx hb ht inX4 tyX4 tyX4_ok nmX4 hown hK hP hD hS 0 rfl rfl 14 (by decide) (ht _ wd586) (fun _ h9 => h9) rfl hin rfl (by decide +kernel) rfl rfl (Nat.le_of_ble_eq_true rfl) dX4_init_97 (fun H locs hP hD hS => ?_)
  have hP : va_P D vwCl [(h0, .inr (4, [.int 0, .int 0, .int 0, .ref q7, .ref q15, .ref q23, .ref q31, .ref q39, .ref q47, .ref q55, .ref q63, .ref q71, .ref q79, .ref q87, .ref q95, .null, .int 0, .null])), (q7, .inl (cI, 100, .inl zF)), (q15, .inl (cI, 100, .inl zF)), (q23, .inl (cI, 100, .inl zF)), (q31, .inl (cI, 100, .inl zF)), (q39, .inl (cI, 100, .inl zF)), (q47, .inl (cI, 100, .inl zF)), (q55, .inl (cI, 100, .inl zF)), (q63, .inl (cI, 100, .inl zF)), (q71, .inl (cI, 100, .inl zF)), (q79, .inl (cZ, 20, .inl zF)), (q87, .inl (cI, 10, .inl zF)), (q95, .inl (cI, 120, .inl zF))] H := hP
  have hD : va_D A [(h0, .inr (4, [.int 0, .int 0, .int 0, .ref q7, .ref q15, .ref q23, .ref q31, .ref q39, .ref q47, .ref q55, .ref q63, .ref q71, .ref q79, .ref q87, .ref q95, .null, .int 0, .null])), (q7, .inl (cI, 100, .inl zF)), (q15, .inl (cI, 100, .inl zF)), (q23, .inl (cI, 100, .inl zF)), (q31, .inl (cI, 100, .inl zF)), (q39, .inl (cI, 100, .inl zF)), (q47, .inl (cI, 100, .inl zF)), (q55, .inl (cI, 100, .inl zF)), (q63, .inl (cI, 100, .inl zF)), (q71, .inl (cI, 100, .inl zF)), (q79, .inl (cZ, 20, .inl zF)), (q87, .inl (cI, 10, .inl zF)), (q95, .inl (cI, 120, .inl zF))] := hD
  refine lv_aload_n hx hb dX4_init_100 rfl (lv_at hl 0 rfl) ?_
  refine lv_bipush (v := nI 120) hx hb dX4_init_101 (by decide) ?_
  refine xa_newa (a0 := (120, .inl zF)) (N' := 120) (atype := .boolean) hx hb (ht _ wd80) (ty := .boolean) rfl (fun _ _ h => h) 1 rfl hK hP hD hS hA (fun _ => rfl) (by decide) (by decide) (by decide) (Nat.le_of_ble_eq_true rfl) (Nat.le_of_ble_eq_true rfl) dX4_init_103 (fun q103 H hP hD hS => ?_)
  have hP : va_P D vwCl [(h0, .inr (4, [.int 0, .int 0, .int 0, .ref q7, .ref q15, .ref q23, .ref q31, .ref q39, .ref q47, .ref q55, .ref q63, .ref q71, .ref q79, .ref q87, .ref q95, .null, .int 0, .null])), (q7, .inl (cI, 100, .inl zF)), (q15, .inl (cI, 100, .inl zF)), (q23, .inl (cI, 100, .inl zF)), (q31, .inl (cI, 100, .inl zF)), (q39, .inl (cI, 100, .inl zF)), (q47, .inl (cI, 100, .inl zF)), (q55, .inl (cI, 100, .inl zF)), (q63, .inl (cI, 100, .inl zF)), (q71, .inl (cI, 100, .inl zF)), (q79, .inl (cZ, 20, .inl zF)), (q87, .inl (cI, 10, .inl zF)), (q95, .inl (cI, 120, .inl zF)), (q103, .inl (cZ, 120, .inl zF))] H := hP
  have hD : va_D A [(h0, .inr (4, [.int 0, .int 0, .int 0, .ref q7, .ref q15, .ref q23, .ref q31, .ref q39, .ref q47, .ref q55, .ref q63, .ref q71, .ref q79, .ref q87, .ref q95, .null, .int 0, .null])), (q7, .inl (cI, 100, .inl zF)), (q15, .inl (cI, 100, .inl zF)), (q23, .inl (cI, 100, .inl zF)), (q31, .inl (cI, 100, .inl zF)), (q39, .inl (cI, 100, .inl zF)), (q47, .inl (cI, 100, .inl zF)), (q55, .inl (cI, 100, .inl zF)), (q63, .inl (cI, 100, .inl zF)), (q71, .inl (cI, 100, .inl zF)), (q79, .inl (cZ, 20, .inl zF)), (q87, .inl (cI, 10, .inl zF)), (q95, .inl (cI, 120, .inl zF)), (q103, .inl (cZ, 120, .inl zF))] := hD
  refine W.widen (k := 13) (n := 1170) (by omega) (by omega) ?_
  refine va_putF (D := D) (ci := 4) (v := .ref q103) (ty := .array .boolean) (C := RX4) (T := TX4) (N := 18) hx hb ht inX4 tyX4 tyX4_ok nmX4 hown hK hP hD hS 0 rfl rfl 15 (by decide) (ht _ wd587) (fun _ h9 => h9) rfl hin rfl (by decide +kernel) rfl rfl (Nat.le_of_ble_eq_true rfl) dX4_init_105 (fun H locs hP hD hS => ?_)
  have hP : va_P D vwCl [(h0, .inr (4, [.int 0, .int 0, .int 0, .ref q7, .ref q15, .ref q23, .ref q31, .ref q39, .ref q47, .ref q55, .ref q63, .ref q71, .ref q79, .ref q87, .ref q95, .ref q103, .int 0, .null])), (q7, .inl (cI, 100, .inl zF)), (q15, .inl (cI, 100, .inl zF)), (q23, .inl (cI, 100, .inl zF)), (q31, .inl (cI, 100, .inl zF)), (q39, .inl (cI, 100, .inl zF)), (q47, .inl (cI, 100, .inl zF)), (q55, .inl (cI, 100, .inl zF)), (q63, .inl (cI, 100, .inl zF)), (q71, .inl (cI, 100, .inl zF)), (q79, .inl (cZ, 20, .inl zF)), (q87, .inl (cI, 10, .inl zF)), (q95, .inl (cI, 120, .inl zF)), (q103, .inl (cZ, 120, .inl zF))] H := hP
  have hD : va_D A [(h0, .inr (4, [.int 0, .int 0, .int 0, .ref q7, .ref q15, .ref q23, .ref q31, .ref q39, .ref q47, .ref q55, .ref q63, .ref q71, .ref q79, .ref q87, .ref q95, .ref q103, .int 0, .null])), (q7, .inl (cI, 100, .inl zF)), (q15, .inl (cI, 100, .inl zF)), (q23, .inl (cI, 100, .inl zF)), (q31, .inl (cI, 100, .inl zF)), (q39, .inl (cI, 100, .inl zF)), (q47, .inl (cI, 100, .inl zF)), (q55, .inl (cI, 100, .inl zF)), (q63, .inl (cI, 100, .inl zF)), (q71, .inl (cI, 100, .inl zF)), (q79, .inl (cZ, 20, .inl zF)), (q87, .inl (cI, 10, .inl zF)), (q95, .inl (cI, 120, .inl zF)), (q103, .inl (cZ, 120, .inl zF))] := hD
  refine lv_aload_n hx hb dX4_init_108 rfl (lv_at hl 0 rfl) ?_
  refine lv_sipush (v := nI 500) hx hb dX4_init_109 (by decide) ?_
  refine xa_newa (a0 := (500, .inl zF)) (N' := 500) (atype := .int) hx hb (ht _ wd79) (ty := .int) rfl (fun _ _ h => h) 0 rfl hK hP hD hS hA (fun _ => rfl) (by decide) (by decide) (by decide) (Nat.le_of_ble_eq_true rfl) (Nat.le_of_ble_eq_true rfl) dX4_init_112 (fun q112 H hP hD hS => ?_)
  have hP : va_P D vwCl [(h0, .inr (4, [.int 0, .int 0, .int 0, .ref q7, .ref q15, .ref q23, .ref q31, .ref q39, .ref q47, .ref q55, .ref q63, .ref q71, .ref q79, .ref q87, .ref q95, .ref q103, .int 0, .null])), (q7, .inl (cI, 100, .inl zF)), (q15, .inl (cI, 100, .inl zF)), (q23, .inl (cI, 100, .inl zF)), (q31, .inl (cI, 100, .inl zF)), (q39, .inl (cI, 100, .inl zF)), (q47, .inl (cI, 100, .inl zF)), (q55, .inl (cI, 100, .inl zF)), (q63, .inl (cI, 100, .inl zF)), (q71, .inl (cI, 100, .inl zF)), (q79, .inl (cZ, 20, .inl zF)), (q87, .inl (cI, 10, .inl zF)), (q95, .inl (cI, 120, .inl zF)), (q103, .inl (cZ, 120, .inl zF)), (q112, .inl (cI, 500, .inl zF))] H := hP
  have hD : va_D A [(h0, .inr (4, [.int 0, .int 0, .int 0, .ref q7, .ref q15, .ref q23, .ref q31, .ref q39, .ref q47, .ref q55, .ref q63, .ref q71, .ref q79, .ref q87, .ref q95, .ref q103, .int 0, .null])), (q7, .inl (cI, 100, .inl zF)), (q15, .inl (cI, 100, .inl zF)), (q23, .inl (cI, 100, .inl zF)), (q31, .inl (cI, 100, .inl zF)), (q39, .inl (cI, 100, .inl zF)), (q47, .inl (cI, 100, .inl zF)), (q55, .inl (cI, 100, .inl zF)), (q63, .inl (cI, 100, .inl zF)), (q71, .inl (cI, 100, .inl zF)), (q79, .inl (cZ, 20, .inl zF)), (q87, .inl (cI, 10, .inl zF)), (q95, .inl (cI, 120, .inl zF)), (q103, .inl (cZ, 120, .inl zF)), (q112, .inl (cI, 500, .inl zF))] := hD
  refine W.widen (k := 14) (n := 1670) (by omega) (by omega) ?_
  refine va_putF (D := D) (ci := 4) (v := .ref q112) (ty := .array .int) (C := RX4) (T := TX4) (N := 18) hx hb ht inX4 tyX4 tyX4_ok nmX4 hown hK hP hD hS 0 rfl rfl 17 (by decide) (ht _ wd589) (fun _ h9 => h9) rfl hin rfl (by decide +kernel) rfl rfl (Nat.le_of_ble_eq_true rfl) dX4_init_114 (fun H locs hP hD hS => ?_)
  have hP : va_P D vwCl [(h0, .inr (4, [.int 0, .int 0, .int 0, .ref q7, .ref q15, .ref q23, .ref q31, .ref q39, .ref q47, .ref q55, .ref q63, .ref q71, .ref q79, .ref q87, .ref q95, .ref q103, .int 0, .ref q112])), (q7, .inl (cI, 100, .inl zF)), (q15, .inl (cI, 100, .inl zF)), (q23, .inl (cI, 100, .inl zF)), (q31, .inl (cI, 100, .inl zF)), (q39, .inl (cI, 100, .inl zF)), (q47, .inl (cI, 100, .inl zF)), (q55, .inl (cI, 100, .inl zF)), (q63, .inl (cI, 100, .inl zF)), (q71, .inl (cI, 100, .inl zF)), (q79, .inl (cZ, 20, .inl zF)), (q87, .inl (cI, 10, .inl zF)), (q95, .inl (cI, 120, .inl zF)), (q103, .inl (cZ, 120, .inl zF)), (q112, .inl (cI, 500, .inl zF))] H := hP
  have hD : va_D A [(h0, .inr (4, [.int 0, .int 0, .int 0, .ref q7, .ref q15, .ref q23, .ref q31, .ref q39, .ref q47, .ref q55, .ref q63, .ref q71, .ref q79, .ref q87, .ref q95, .ref q103, .int 0, .ref q112])), (q7, .inl (cI, 100, .inl zF)), (q15, .inl (cI, 100, .inl zF)), (q23, .inl (cI, 100, .inl zF)), (q31, .inl (cI, 100, .inl zF)), (q39, .inl (cI, 100, .inl zF)), (q47, .inl (cI, 100, .inl zF)), (q55, .inl (cI, 100, .inl zF)), (q63, .inl (cI, 100, .inl zF)), (q71, .inl (cI, 100, .inl zF)), (q79, .inl (cZ, 20, .inl zF)), (q87, .inl (cI, 10, .inl zF)), (q95, .inl (cI, 120, .inl zF)), (q103, .inl (cZ, 120, .inl zF)), (q112, .inl (cI, 500, .inl zF))] := hD
  exact W.vret hx hb hr (fun t ht9 hW => ⟨⟨(fun i => ([h0, q7, q15, q23, q31, q39, q47, q55, q63, q71, q79, q87, q95, q103, q112] : List Nat).getD i 0), rfl, rfl, by rw [ht9]; exact hP, hD⟩, hS.F ht9⟩) hS.2.2 dX4_init_117 hlocks
