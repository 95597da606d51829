theorem kN_X0_56 : xcN RX0 56 yX3_placeOf cX3_placeOf 2 (some .int) 2 RX3 := ⟨wd311, by decide +kernel, wd310, wd21, ⟨by decide +kernel, by decide +kernel, by decide +kernel⟩⟩
theorem kV_X0_52 : xcV RX0 RX0 52 yX0_markSides cX0_markSides 3 none 2 := ⟨wd308, wd305, wd307, wd4, wd22, rfl, ⟨by decide +kernel, by decide +kernel, by decide +kernel⟩⟩
set_option maxHeartbeats 4000000 in
set_option maxRecDepth 100000 in
theorem r_X0_isFull (l : Launch) (D : va_G) (a : Nat → Nat) (cI cZ : ClassId) (S : KS) (hO : kOk S) : xRO l yX0_isFull cX0_isFull 1 (some .boolean) (xrm 0 0) [.ref (a 0)] D (wK a cI cZ S) (tyL cI cZ) (bI (decide (100 ≤ kN S))) := by
  refine xRO.of (by decide) (Nat.le_of_ble_eq_true rfl) ?_
  intro p e s m args below meth cd hx hb hr hml hown hlocks ht hN hP hK ls hl
  have hl : lv_has ls 1 [(0, .ref (a 0))] := hl
  have hown : s.vm.findClass RX0 = some m.cls := hown
  have hn := hO.1
  refine lv_aload_n hx hb dX0_isFull_0 rfl (lv_at hl 0 rfl) ?_
  refine va_get (D := D) (ci := 0) (v := .int (nI (kN S))) (C := RX0) (T := TX0) (N := 10) hx hb ht inX0 hown hK hP 0 rfl rfl 9 (by decide) (ht _ wd57) (fun _ h9 => h9) rfl dX0_isFull_1 ?_
  refine lv_bipush (v := nI 100) hx hb dX0_isFull_4 (by decide) ?_
  refine lv_icmp_lt (tgt := 13) hx hb dX0_isFull_6 (by decide) (fun h_6 => ?_) (fun h_6 => ?_)
  · skip
    have h_6 : (kN S) < 100 := (nI_ltI (by omega) (by omega)).mp h_6
    refine lv_iconst (v := nI 0) hx hb dX0_isFull_13 (by decide) ?_
    exact xr_zret (v := nI 0) hx hb hr hlocks (by first | rfl | exact bI_nar _) (bI_0 (decide_eq_false (by omega))) dX0_isFull_14
  · skip
    have h_6 : ¬ ((kN S) < 100) := fun z => h_6 ((nI_ltI (by omega) (by omega)).mpr z)
    refine lv_iconst (v := nI 1) hx hb dX0_isFull_9 (by decide) ?_
    refine lv_goto (tgt := 14) hx hb dX0_isFull_10 (by decide) ?_
    exact xr_zret (v := nI 1) hx hb hr hlocks (by first | rfl | exact bI_nar _) (bI_1 (decide_eq_true (by omega))) dX0_isFull_14
set_option maxHeartbeats 4000000 in
set_option maxRecDepth 100000 in
theorem r_X0_has (l : Launch) (D : va_G) (a : Nat → Nat) (cI cZ : ClassId) (S : KS) (hO : kOk S) (i : Int32) : xRO l yX0_has cX0_has 2 (some .boolean) (xrm 0 0) [.ref (a 0), .int (i)] D (wK a cI cZ S) (tyL cI cZ) (bI (!decide (i < 0) && !decide (nI (kN S) ≤ i))) := by
  refine xRO.of (by decide) (Nat.le_of_ble_eq_true rfl) ?_
  intro p e s m args below meth cd hx hb hr hml hown hlocks ht hN hP hK ls hl
  have hl : lv_has ls 2 [(0, .ref (a 0)), (1, .int (i))] := hl
  have hown : s.vm.findClass RX0 = some m.cls := hown
  have hn := hO.1
  refine lv_iload_n hx hb dX0_has_0 rfl (lv_at hl 1 rfl) ?_
  refine lv_if_lt (tgt := 16) hx hb dX0_has_1 (by decide) (fun h_1 => ?_) (fun h_1 => ?_)
  · skip
    refine lv_iconst (v := nI 0) hx hb dX0_has_16 (by decide) ?_
    exact xr_zret (v := nI 0) hx hb hr hlocks (by first | rfl | exact bI_nar _) (bI_0 (by first | (rw [decide_eq_true h_1]; rfl) | (rw [decide_eq_true h_9, Bool.not_true, Bool.and_false]))) dX0_has_17
  · skip
    refine lv_iload_n hx hb dX0_has_4 rfl (lv_at hl 1 rfl) ?_
    refine lv_aload_n hx hb dX0_has_5 rfl (lv_at hl 0 rfl) ?_
    refine va_get (D := D) (ci := 0) (v := .int (nI (kN S))) (C := RX0) (T := TX0) (N := 10) hx hb ht inX0 hown hK hP 0 rfl rfl 9 (by decide) (ht _ wd57) (fun _ h9 => h9) rfl dX0_has_6 ?_
    refine lv_icmp_ge (tgt := 16) hx hb dX0_has_9 (by decide) (fun h_9 => ?_) (fun h_9 => ?_)
    · skip
      refine lv_iconst (v := nI 0) hx hb dX0_has_16 (by decide) ?_
      exact xr_zret (v := nI 0) hx hb hr hlocks (by first | rfl | exact bI_nar _) (bI_0 (by first | (rw [decide_eq_true h_1]; rfl) | (rw [decide_eq_true h_9, Bool.not_true, Bool.and_false]))) dX0_has_17
    · skip
      refine lv_iconst (v := nI 1) hx hb dX0_has_12 (by decide) ?_
      refine lv_goto (tgt := 17) hx hb dX0_has_13 (by decide) ?_
      exact xr_zret (v := nI 1) hx hb hr hlocks (by first | rfl | exact bI_nar _) (bI_1 (by rw [decide_eq_false h_1, decide_eq_false h_9]; rfl)) dX0_has_17
set_option maxHeartbeats 4000000 in
set_option maxRecDepth 100000 in
theorem r_X0_awaitsAnswer (l : Launch) (D : va_G) (a : Nat → Nat) (cI cZ : ClassId) (S : KS) (hO : kOk S) (c : Nat) (hc : c < kN S) : xRO l yX0_awaitsAnswer cX0_awaitsAnswer 2 (some .boolean) (xrm 0 0) [.ref (a 0), .int (nI c)] D (wK a cI cZ S) (tyL cI cZ) (bI (decide (kKd S c = nI 1) && decide (kAn S c = 0))) := by
  refine xRO.of (by decide) (Nat.le_of_ble_eq_true rfl) ?_
  intro p e s m args below meth cd hx hb hr hml hown hlocks ht hN hP hK ls hl
  have hl : lv_has ls 2 [(0, .ref (a 0)), (1, .int (nI c))] := hl
  have hown : s.vm.findClass RX0 = some m.cls := hown
  have hn := hO.1
  refine lv_aload_n hx hb dX0_awaitsAnswer_0 rfl (lv_at hl 0 rfl) ?_
  refine va_get (D := D) (ci := 0) (v := .ref (a 1)) (C := RX0) (T := TX0) (N := 10) hx hb ht inX0 hown hK hP 0 rfl rfl 0 (by decide) (ht _ wd48) (fun _ h9 => h9) rfl dX0_awaitsAnswer_1 ?_
  refine lv_iload_n hx hb dX0_awaitsAnswer_4 rfl (lv_at hl 1 rfl) ?_
  refine xa_iald hx hb hK hP 1 0 (i := c) rfl rfl (by omega) (by decide) dX0_awaitsAnswer_5 ?_
  refine lv_iconst (v := nI 1) hx hb dX0_awaitsAnswer_6 (by decide) ?_
  refine lv_icmp_ne (tgt := 23) hx hb dX0_awaitsAnswer_7 (by decide) (fun h_7 => ?_) (fun h_7 => ?_)
  · skip
    refine lv_iconst (v := nI 0) hx hb dX0_awaitsAnswer_23 (by decide) ?_
    exact xr_zret (v := nI 0) hx hb hr hlocks (by first | rfl | exact bI_nar _) (bI_0 (by first | (rw [decide_eq_false h_7]; rfl) | (rw [decide_eq_false h_16, Bool.and_false]))) dX0_awaitsAnswer_24
  · skip
    refine lv_aload_n hx hb dX0_awaitsAnswer_10 rfl (lv_at hl 0 rfl) ?_
    refine va_get (D := D) (ci := 0) (v := .ref (a 7)) (C := RX0) (T := TX0) (N := 10) hx hb ht inX0 hown hK hP 0 rfl rfl 6 (by decide) (ht _ wd54) (fun _ h9 => h9) rfl dX0_awaitsAnswer_11 ?_
    refine lv_iload_n hx hb dX0_awaitsAnswer_14 rfl (lv_at hl 1 rfl) ?_
    refine xa_iald hx hb hK hP 7 0 (i := c) rfl rfl (by omega) (by decide) dX0_awaitsAnswer_15 ?_
    refine lv_if_ne (tgt := 23) hx hb dX0_awaitsAnswer_16 (by decide) (fun h_16 => ?_) (fun h_16 => ?_)
    · skip
      refine lv_iconst (v := nI 0) hx hb dX0_awaitsAnswer_23 (by decide) ?_
      exact xr_zret (v := nI 0) hx hb hr hlocks (by first | rfl | exact bI_nar _) (bI_0 (by first | (rw [decide_eq_false h_7]; rfl) | (rw [decide_eq_false h_16, Bool.and_false]))) dX0_awaitsAnswer_24
    · skip
      refine lv_iconst (v := nI 1) hx hb dX0_awaitsAnswer_19 (by decide) ?_
      refine lv_goto (tgt := 24) hx hb dX0_awaitsAnswer_20 (by decide) ?_
      exact xr_zret (v := nI 1) hx hb hr hlocks (by first | rfl | exact bI_nar _) (bI_1 (by rw [decide_eq_true h_7, decide_eq_true h_16]; rfl)) dX0_awaitsAnswer_24
set_option maxHeartbeats 4000000 in
set_option maxRecDepth 100000 in
theorem r_X0_canBeLifted (l : Launch) (D : va_G) (a : Nat → Nat) (cI cZ : ClassId) (S : KS) (hO : kOk S) (c : Nat) (hc : c < kN S) (t : Int32) : xRO l yX0_canBeLifted cX0_canBeLifted 3 (some .boolean) (xrm 0 0) [.ref (a 0), .int (nI c), .int (t)] D (wK a cI cZ S) (tyL cI cZ) (bI (!decide (kKd S c = nI 4) && !decide (kEn S c ≤ t))) := by
  refine xRO.of (by decide) (Nat.le_of_ble_eq_true rfl) ?_
  intro p e s m args below meth cd hx hb hr hml hown hlocks ht hN hP hK ls hl
  have hl : lv_has ls 3 [(0, .ref (a 0)), (1, .int (nI c)), (2, .int (t))] := hl
  have hown : s.vm.findClass RX0 = some m.cls := hown
  have hn := hO.1
  refine lv_aload_n hx hb dX0_canBeLifted_0 rfl (lv_at hl 0 rfl) ?_
  refine va_get (D := D) (ci := 0) (v := .ref (a 1)) (C := RX0) (T := TX0) (N := 10) hx hb ht inX0 hown hK hP 0 rfl rfl 0 (by decide) (ht _ wd48) (fun _ h9 => h9) rfl dX0_canBeLifted_1 ?_
  refine lv_iload_n hx hb dX0_canBeLifted_4 rfl (lv_at hl 1 rfl) ?_
  refine xa_iald hx hb hK hP 1 0 (i := c) rfl rfl (by omega) (by decide) dX0_canBeLifted_5 ?_
  refine lv_iconst (v := nI 4) hx hb dX0_canBeLifted_6 (by decide) ?_
  refine lv_icmp_eq (tgt := 24) hx hb dX0_canBeLifted_7 (by decide) (fun h_7 => ?_) (fun h_7 => ?_)
  · skip
    refine lv_iconst (v := nI 0) hx hb dX0_canBeLifted_24 (by decide) ?_
    exact xr_zret (v := nI 0) hx hb hr hlocks (by first | rfl | exact bI_nar _) (bI_0 (by first | (rw [decide_eq_true h_7]; rfl) | (rw [decide_eq_true h_17, Bool.not_true, Bool.and_false]))) dX0_canBeLifted_25
  · skip
    refine lv_aload_n hx hb dX0_canBeLifted_10 rfl (lv_at hl 0 rfl) ?_
    refine va_get (D := D) (ci := 0) (v := .ref (a 5)) (C := RX0) (T := TX0) (N := 10) hx hb ht inX0 hown hK hP 0 rfl rfl 4 (by decide) (ht _ wd52) (fun _ h9 => h9) rfl dX0_canBeLifted_11 ?_
    refine lv_iload_n hx hb dX0_canBeLifted_14 rfl (lv_at hl 1 rfl) ?_
    refine xa_iald hx hb hK hP 5 0 (i := c) rfl rfl (by omega) (by decide) dX0_canBeLifted_15 ?_
    refine lv_iload_n hx hb dX0_canBeLifted_16 rfl (lv_at hl 2 rfl) ?_
    refine lv_icmp_le (tgt := 24) hx hb dX0_canBeLifted_17 (by decide) (fun h_17 => ?_) (fun h_17 => ?_)
    · skip
      refine lv_iconst (v := nI 0) hx hb dX0_canBeLifted_24 (by decide) ?_
      exact xr_zret (v := nI 0) hx hb hr hlocks (by first | rfl | exact bI_nar _) (bI_0 (by first | (rw [decide_eq_true h_7]; rfl) | (rw [decide_eq_true h_17, Bool.not_true, Bool.and_false]))) dX0_canBeLifted_25
    · skip
      refine lv_iconst (v := nI 1) hx hb dX0_canBeLifted_20 (by decide) ?_
      refine lv_goto (tgt := 25) hx hb dX0_canBeLifted_21 (by decide) ?_
      exact xr_zret (v := nI 1) hx hb hr hlocks (by first | rfl | exact bI_nar _) (bI_1 (by rw [decide_eq_false h_7, decide_eq_false h_17]; rfl)) dX0_canBeLifted_25
set_option maxHeartbeats 4000000 in
set_option maxRecDepth 100000 in
theorem r_X0_add (l : Launch) (D : va_G) (a : Nat → Nat) (cI cZ : ClassId) (S : KS) (hO : kOk S) (hc : kN S < 100) (k pi si f t x : Int32) : xWR l yX0_add cX0_add 8 (some .int) (xrm 0 0) [.ref (a 0), .int (k), .int (pi), .int (si), .int (f), .int (t), .int (x)] D (wK a cI cZ S) (tyL cI cZ) (some (.int (nI (kN S)))) (wK a cI cZ (addK S k pi si f t x)) := by
  refine xWR.of (by decide) (Nat.le_of_ble_eq_true rfl) ?_
  intro p e s m args below meth cd hx hb hr hml hown hlocks ht hN hP hK hD hS ls hl
  have hl : lv_has ls 8 [(0, .ref (a 0)), (1, .int (k)), (2, .int (pi)), (3, .int (si)), (4, .int (f)), (5, .int (t)), (6, .int (x))] := hl
  have hown : s.vm.findClass RX0 = some m.cls := hown
  refine lv_aload_n hx hb dX0_add_0 rfl (lv_at hl 0 rfl) ?_
  refine va_get (D := D) (ci := 0) (v := .int (nI (kN S))) (C := RX0) (T := TX0) (N := 10) hx hb ht inX0 hown hK hP 0 rfl rfl 9 (by decide) (ht _ wd57) (fun _ h9 => h9) rfl dX0_add_1 ?_
  refine lv_istore (lv' := [(7, .int (nI (kN S))), (0, .ref (a 0)), (1, .int (k)), (2, .int (pi)), (3, .int (si)), (4, .int (f)), (5, .int (t)), (6, .int (x))]) hx hb dX0_add_4 hl (by decide) rfl (fun ls hl => ?_)
  refine lv_aload_n hx hb dX0_add_6 rfl (lv_at hl 1 rfl) ?_
  refine va_get (D := D) (ci := 0) (v := .ref (a 1)) (C := RX0) (T := TX0) (N := 10) hx hb ht inX0 hown hK hP 0 rfl rfl 0 (by decide) (ht _ wd48) (fun _ h9 => h9) rfl dX0_add_7 ?_
  refine lv_iload hx hb dX0_add_10 (lv_at hl 0 rfl) ?_
  refine lv_iload_n hx hb dX0_add_12 rfl (lv_at hl 2 rfl) ?_
  refine xa_iast hx hb hK hP hD hS 1 0 (i := (kN S)) (x := k) rfl rfl (by omega) (by decide) dX0_add_13 (fun H locs hP hD hS => ?_)
  have hP : va_P D vwCl [(a 0, .inr (0, [.ref (a 1), .ref (a 2), .ref (a 3), .ref (a 4), .ref (a 5), .ref (a 6), .ref (a 7), .ref (a 8), .ref (a 9), .int (nI (kN S))])), (a 1, .inl (cI, 100, .inl (upd (kKd S) (kN S) k))), (a 2, .inl (cI, 100, .inl (kPc S))), (a 3, .inl (cI, 100, .inl (kSd S))), (a 4, .inl (cI, 100, .inl (kSt S))), (a 5, .inl (cI, 100, .inl (kEn S))), (a 6, .inl (cI, 100, .inl (kXs S))), (a 7, .inl (cI, 100, .inl (kAn S))), (a 8, .inl (cI, 100, .inl (kWd S))), (a 9, .inl (cZ, 20, .inl (kIc S)))] H := hP
  have hD : va_D (xA (wK a cI cZ S)) [(a 0, .inr (0, [.ref (a 1), .ref (a 2), .ref (a 3), .ref (a 4), .ref (a 5), .ref (a 6), .ref (a 7), .ref (a 8), .ref (a 9), .int (nI (kN S))])), (a 1, .inl (cI, 100, .inl (upd (kKd S) (kN S) k))), (a 2, .inl (cI, 100, .inl (kPc S))), (a 3, .inl (cI, 100, .inl (kSd S))), (a 4, .inl (cI, 100, .inl (kSt S))), (a 5, .inl (cI, 100, .inl (kEn S))), (a 6, .inl (cI, 100, .inl (kXs S))), (a 7, .inl (cI, 100, .inl (kAn S))), (a 8, .inl (cI, 100, .inl (kWd S))), (a 9, .inl (cZ, 20, .inl (kIc S)))] := hD
  refine lv_aload_n hx hb dX0_add_14 rfl (lv_at hl 1 rfl) ?_
  refine va_get (D := D) (ci := 0) (v := .ref (a 2)) (C := RX0) (T := TX0) (N := 10) hx hb ht inX0 hown hK hP 0 rfl rfl 1 (by decide) (ht _ wd49) (fun _ h9 => h9) rfl dX0_add_15 ?_
  refine lv_iload hx hb dX0_add_18 (lv_at hl 0 rfl) ?_
  refine lv_iload_n hx hb dX0_add_20 rfl (lv_at hl 3 rfl) ?_
  refine xa_iast hx hb hK hP hD hS 2 0 (i := (kN S)) (x := pi) rfl rfl (by omega) (by decide) dX0_add_21 (fun H locs hP hD hS => ?_)
  have hP : va_P D vwCl [(a 0, .inr (0, [.ref (a 1), .ref (a 2), .ref (a 3), .ref (a 4), .ref (a 5), .ref (a 6), .ref (a 7), .ref (a 8), .ref (a 9), .int (nI (kN S))])), (a 1, .inl (cI, 100, .inl (upd (kKd S) (kN S) k))), (a 2, .inl (cI, 100, .inl (upd (kPc S) (kN S) pi))), (a 3, .inl (cI, 100, .inl (kSd S))), (a 4, .inl (cI, 100, .inl (kSt S))), (a 5, .inl (cI, 100, .inl (kEn S))), (a 6, .inl (cI, 100, .inl (kXs S))), (a 7, .inl (cI, 100, .inl (kAn S))), (a 8, .inl (cI, 100, .inl (kWd S))), (a 9, .inl (cZ, 20, .inl (kIc S)))] H := hP
  have hD : va_D (xA (wK a cI cZ S)) [(a 0, .inr (0, [.ref (a 1), .ref (a 2), .ref (a 3), .ref (a 4), .ref (a 5), .ref (a 6), .ref (a 7), .ref (a 8), .ref (a 9), .int (nI (kN S))])), (a 1, .inl (cI, 100, .inl (upd (kKd S) (kN S) k))), (a 2, .inl (cI, 100, .inl (upd (kPc S) (kN S) pi))), (a 3, .inl (cI, 100, .inl (kSd S))), (a 4, .inl (cI, 100, .inl (kSt S))), (a 5, .inl (cI, 100, .inl (kEn S))), (a 6, .inl (cI, 100, .inl (kXs S))), (a 7, .inl (cI, 100, .inl (kAn S))), (a 8, .inl (cI, 100, .inl (kWd S))), (a 9, .inl (cZ, 20, .inl (kIc S)))] := hD
  refine lv_aload_n hx hb dX0_add_22 rfl (lv_at hl 1 rfl) ?_
  refine va_get (D := D) (ci := 0) (v := .ref (a 3)) (C := RX0) (T := TX0) (N := 10) hx hb ht inX0 hown hK hP 0 rfl rfl 2 (by decide) (ht _ wd50) (fun _ h9 => h9) rfl dX0_add_23 ?_
  refine lv_iload hx hb dX0_add_26 (lv_at hl 0 rfl) ?_
  refine lv_iload_n hx hb dX0_add_28 rfl (lv_at hl 4 rfl) ?_
  refine xa_iast hx hb hK hP hD hS 3 0 (i := (kN S)) (x := si) rfl rfl (by omega) (by decide) dX0_add_29 (fun H locs hP hD hS => ?_)
  have hP : va_P D vwCl [(a 0, .inr (0, [.ref (a 1), .ref (a 2), .ref (a 3), .ref (a 4), .ref (a 5), .ref (a 6), .ref (a 7), .ref (a 8), .ref (a 9), .int (nI (kN S))])), (a 1, .inl (cI, 100, .inl (upd (kKd S) (kN S) k))), (a 2, .inl (cI, 100, .inl (upd (kPc S) (kN S) pi))), (a 3, .inl (cI, 100, .inl (upd (kSd S) (kN S) si))), (a 4, .inl (cI, 100, .inl (kSt S))), (a 5, .inl (cI, 100, .inl (kEn S))), (a 6, .inl (cI, 100, .inl (kXs S))), (a 7, .inl (cI, 100, .inl (kAn S))), (a 8, .inl (cI, 100, .inl (kWd S))), (a 9, .inl (cZ, 20, .inl (kIc S)))] H := hP
  have hD : va_D (xA (wK a cI cZ S)) [(a 0, .inr (0, [.ref (a 1), .ref (a 2), .ref (a 3), .ref (a 4), .ref (a 5), .ref (a 6), .ref (a 7), .ref (a 8), .ref (a 9), .int (nI (kN S))])), (a 1, .inl (cI, 100, .inl (upd (kKd S) (kN S) k))), (a 2, .inl (cI, 100, .inl (upd (kPc S) (kN S) pi))), (a 3, .inl (cI, 100, .inl (upd (kSd S) (kN S) si))), (a 4, .inl (cI, 100, .inl (kSt S))), (a 5, .inl (cI, 100, .inl (kEn S))), (a 6, .inl (cI, 100, .inl (kXs S))), (a 7, .inl (cI, 100, .inl (kAn S))), (a 8, .inl (cI, 100, .inl (kWd S))), (a 9, .inl (cZ, 20, .inl (kIc S)))] := hD
  refine lv_aload_n hx hb dX0_add_30 rfl (lv_at hl 1 rfl) ?_
  refine va_get (D := D) (ci := 0) (v := .ref (a 4)) (C := RX0) (T := TX0) (N := 10) hx hb ht inX0 hown hK hP 0 rfl rfl 3 (by decide) (ht _ wd51) (fun _ h9 => h9) rfl dX0_add_31 ?_
  refine lv_iload hx hb dX0_add_34 (lv_at hl 0 rfl) ?_
  refine lv_iload hx hb dX0_add_36 (lv_at hl 5 rfl) ?_
  refine xa_iast hx hb hK hP hD hS 4 0 (i := (kN S)) (x := f) rfl rfl (by omega) (by decide) dX0_add_38 (fun H locs hP hD hS => ?_)
  have hP : va_P D vwCl [(a 0, .inr (0, [.ref (a 1), .ref (a 2), .ref (a 3), .ref (a 4), .ref (a 5), .ref (a 6), .ref (a 7), .ref (a 8), .ref (a 9), .int (nI (kN S))])), (a 1, .inl (cI, 100, .inl (upd (kKd S) (kN S) k))), (a 2, .inl (cI, 100, .inl (upd (kPc S) (kN S) pi))), (a 3, .inl (cI, 100, .inl (upd (kSd S) (kN S) si))), (a 4, .inl (cI, 100, .inl (upd (kSt S) (kN S) f))), (a 5, .inl (cI, 100, .inl (kEn S))), (a 6, .inl (cI, 100, .inl (kXs S))), (a 7, .inl (cI, 100, .inl (kAn S))), (a 8, .inl (cI, 100, .inl (kWd S))), (a 9, .inl (cZ, 20, .inl (kIc S)))] H := hP
  have hD : va_D (xA (wK a cI cZ S)) [(a 0, .inr (0, [.ref (a 1), .ref (a 2), .ref (a 3), .ref (a 4), .ref (a 5), .ref (a 6), .ref (a 7), .ref (a 8), .ref (a 9), .int (nI (kN S))])), (a 1, .inl (cI, 100, .inl (upd (kKd S) (kN S) k))), (a 2, .inl (cI, 100, .inl (upd (kPc S) (kN S) pi))), (a 3, .inl (cI, 100, .inl (upd (kSd S) (kN S) si))), (a 4, .inl (cI, 100, .inl (upd (kSt S) (kN S) f))), (a 5, .inl (cI, 100, .inl (kEn S))), (a 6, .inl (cI, 100, .inl (kXs S))), (a 7, .inl (cI, 100, .inl (kAn S))), (a 8, .inl (cI, 100, .inl (kWd S))), (a 9, .inl (cZ, 20, .inl (kIc S)))] := hD
  refine lv_aload_n hx hb dX0_add_39 rfl (lv_at hl 1 rfl) ?_
  refine va_get (D := D) (ci := 0) (v := .ref (a 5)) (C := RX0) (T := TX0) (N := 10) hx hb ht inX0 hown hK hP 0 rfl rfl 4 (by decide) (ht _ wd52) (fun _ h9 => h9) rfl dX0_add_40 ?_
  refine lv_iload hx hb dX0_add_43 (lv_at hl 0 rfl) ?_
  refine lv_iload hx hb dX0_add_45 (lv_at hl 6 rfl) ?_
  refine xa_iast hx hb hK hP hD hS 5 0 (i := (kN S)) (x := t) rfl rfl (by omega) (by decide) dX0_add_47 (fun H locs hP hD hS => ?_)
  have hP : va_P D vwCl [(a 0, .inr (0, [.ref (a 1), .ref (a 2), .ref (a 3), .ref (a 4), .ref (a 5), .ref (a 6), .ref (a 7), .ref (a 8), .ref (a 9), .int (nI (kN S))])), (a 1, .inl (cI, 100, .inl (upd (kKd S) (kN S) k))), (a 2, .inl (cI, 100, .inl (upd (kPc S) (kN S) pi))), (a 3, .inl (cI, 100, .inl (upd (kSd S) (kN S) si))), (a 4, .inl (cI, 100, .inl (upd (kSt S) (kN S) f))), (a 5, .inl (cI, 100, .inl (upd (kEn S) (kN S) t))), (a 6, .inl (cI, 100, .inl (kXs S))), (a 7, .inl (cI, 100, .inl (kAn S))), (a 8, .inl (cI, 100, .inl (kWd S))), (a 9, .inl (cZ, 20, .inl (kIc S)))] H := hP
  have hD : va_D (xA (wK a cI cZ S)) [(a 0, .inr (0, [.ref (a 1), .ref (a 2), .ref (a 3), .ref (a 4), .ref (a 5), .ref (a 6), .ref (a 7), .ref (a 8), .ref (a 9), .int (nI (kN S))])), (a 1, .inl (cI, 100, .inl (upd (kKd S) (kN S) k))), (a 2, .inl (cI, 100, .inl (upd (kPc S) (kN S) pi))), (a 3, .inl (cI, 100, .inl (upd (kSd S) (kN S) si))), (a 4, .inl (cI, 100, .inl (upd (kSt S) (kN S) f))), (a 5, .inl (cI, 100, .inl (upd (kEn S) (kN S) t))), (a 6, .inl (cI, 100, .inl (kXs S))), (a 7, .inl (cI, 100, .inl (kAn S))), (a 8, .inl (cI, 100, .inl (kWd S))), (a 9, .inl (cZ, 20, .inl (kIc S)))] := hD
  refine lv_aload_n hx hb dX0_add_48 rfl (lv_at hl 1 rfl) ?_
  refine va_get (D := D) (ci := 0) (v := .ref (a 6)) (C := RX0) (T := TX0) (N := 10) hx hb ht inX0 hown hK hP 0 rfl rfl 5 (by decide) (ht _ wd53) (fun _ h9 => h9) rfl dX0_add_49 ?_
  refine lv_iload hx hb dX0_add_52 (lv_at hl 0 rfl) ?_
  refine lv_iload hx hb dX0_add_54 (lv_at hl 7 rfl) ?_
  refine xa_iast hx hb hK hP hD hS 6 0 (i := (kN S)) (x := x) rfl rfl (by omega) (by decide) dX0_add_56 (fun H locs hP hD hS => ?_)
  have hP : va_P D vwCl [(a 0, .inr (0, [.ref (a 1), .ref (a 2), .ref (a 3), .ref (a 4), .ref (a 5), .ref (a 6), .ref (a 7), .ref (a 8), .ref (a 9), .int (nI (kN S))])), (a 1, .inl (cI, 100, .inl (upd (kKd S) (kN S) k))), (a 2, .inl (cI, 100, .inl (upd (kPc S) (kN S) pi))), (a 3, .inl (cI, 100, .inl (upd (kSd S) (kN S) si))), (a 4, .inl (cI, 100, .inl (upd (kSt S) (kN S) f))), (a 5, .inl (cI, 100, .inl (upd (kEn S) (kN S) t))), (a 6, .inl (cI, 100, .inl (upd (kXs S) (kN S) x))), (a 7, .inl (cI, 100, .inl (kAn S))), (a 8, .inl (cI, 100, .inl (kWd S))), (a 9, .inl (cZ, 20, .inl (kIc S)))] H := hP
  have hD : va_D (xA (wK a cI cZ S)) [(a 0, .inr (0, [.ref (a 1), .ref (a 2), .ref (a 3), .ref (a 4), .ref (a 5), .ref (a 6), .ref (a 7), .ref (a 8), .ref (a 9), .int (nI (kN S))])), (a 1, .inl (cI, 100, .inl (upd (kKd S) (kN S) k))), (a 2, .inl (cI, 100, .inl (upd (kPc S) (kN S) pi))), (a 3, .inl (cI, 100, .inl (upd (kSd S) (kN S) si))), (a 4, .inl (cI, 100, .inl (upd (kSt S) (kN S) f))), (a 5, .inl (cI, 100, .inl (upd (kEn S) (kN S) t))), (a 6, .inl (cI, 100, .inl (upd (kXs S) (kN S) x))), (a 7, .inl (cI, 100, .inl (kAn S))), (a 8, .inl (cI, 100, .inl (kWd S))), (a 9, .inl (cZ, 20, .inl (kIc S)))] := hD
  refine lv_aload_n hx hb dX0_add_57 rfl (lv_at hl 1 rfl) ?_
  refine va_get (D := D) (ci := 0) (v := .ref (a 7)) (C := RX0) (T := TX0) (N := 10) hx hb ht inX0 hown hK hP 0 rfl rfl 6 (by decide) (ht _ wd54) (fun _ h9 => h9) rfl dX0_add_58 ?_
  refine lv_iload hx hb dX0_add_61 (lv_at hl 0 rfl) ?_
  refine lv_iconst (v := nI 0) hx hb dX0_add_63 (by decide) ?_
  refine xa_iast hx hb hK hP hD hS 7 0 (i := (kN S)) (x := nI 0) rfl rfl (by omega) (by decide) dX0_add_64 (fun H locs hP hD hS => ?_)
  have hP : va_P D vwCl [(a 0, .inr (0, [.ref (a 1), .ref (a 2), .ref (a 3), .ref (a 4), .ref (a 5), .ref (a 6), .ref (a 7), .ref (a 8), .ref (a 9), .int (nI (kN S))])), (a 1, .inl (cI, 100, .inl (upd (kKd S) (kN S) k))), (a 2, .inl (cI, 100, .inl (upd (kPc S) (kN S) pi))), (a 3, .inl (cI, 100, .inl (upd (kSd S) (kN S) si))), (a 4, .inl (cI, 100, .inl (upd (kSt S) (kN S) f))), (a 5, .inl (cI, 100, .inl (upd (kEn S) (kN S) t))), (a 6, .inl (cI, 100, .inl (upd (kXs S) (kN S) x))), (a 7, .inl (cI, 100, .inl (upd (kAn S) (kN S) (nI 0)))), (a 8, .inl (cI, 100, .inl (kWd S))), (a 9, .inl (cZ, 20, .inl (kIc S)))] H := hP
  have hD : va_D (xA (wK a cI cZ S)) [(a 0, .inr (0, [.ref (a 1), .ref (a 2), .ref (a 3), .ref (a 4), .ref (a 5), .ref (a 6), .ref (a 7), .ref (a 8), .ref (a 9), .int (nI (kN S))])), (a 1, .inl (cI, 100, .inl (upd (kKd S) (kN S) k))), (a 2, .inl (cI, 100, .inl (upd (kPc S) (kN S) pi))), (a 3, .inl (cI, 100, .inl (upd (kSd S) (kN S) si))), (a 4, .inl (cI, 100, .inl (upd (kSt S) (kN S) f))), (a 5, .inl (cI, 100, .inl (upd (kEn S) (kN S) t))), (a 6, .inl (cI, 100, .inl (upd (kXs S) (kN S) x))), (a 7, .inl (cI, 100, .inl (upd (kAn S) (kN S) (nI 0)))), (a 8, .inl (cI, 100, .inl (kWd S))), (a 9, .inl (cZ, 20, .inl (kIc S)))] := hD
  refine lv_aload_n hx hb dX0_add_65 rfl (lv_at hl 1 rfl) ?_
  refine va_get (D := D) (ci := 0) (v := .ref (a 8)) (C := RX0) (T := TX0) (N := 10) hx hb ht inX0 hown hK hP 0 rfl rfl 7 (by decide) (ht _ wd55) (fun _ h9 => h9) rfl dX0_add_66 ?_
  refine lv_iload hx hb dX0_add_69 (lv_at hl 0 rfl) ?_
  refine lv_iconst (v := (-1 : Int32)) hx hb dX0_add_71 (by decide) ?_
  refine xa_iast hx hb hK hP hD hS 8 0 (i := (kN S)) (x := (-1 : Int32)) rfl rfl (by omega) (by decide) dX0_add_72 (fun H locs hP hD hS => ?_)
  have hP : va_P D vwCl [(a 0, .inr (0, [.ref (a 1), .ref (a 2), .ref (a 3), .ref (a 4), .ref (a 5), .ref (a 6), .ref (a 7), .ref (a 8), .ref (a 9), .int (nI (kN S))])), (a 1, .inl (cI, 100, .inl (upd (kKd S) (kN S) k))), (a 2, .inl (cI, 100, .inl (upd (kPc S) (kN S) pi))), (a 3, .inl (cI, 100, .inl (upd (kSd S) (kN S) si))), (a 4, .inl (cI, 100, .inl (upd (kSt S) (kN S) f))), (a 5, .inl (cI, 100, .inl (upd (kEn S) (kN S) t))), (a 6, .inl (cI, 100, .inl (upd (kXs S) (kN S) x))), (a 7, .inl (cI, 100, .inl (upd (kAn S) (kN S) (nI 0)))), (a 8, .inl (cI, 100, .inl (upd (kWd S) (kN S) (-1 : Int32)))), (a 9, .inl (cZ, 20, .inl (kIc S)))] H := hP
  have hD : va_D (xA (wK a cI cZ S)) [(a 0, .inr (0, [.ref (a 1), .ref (a 2), .ref (a 3), .ref (a 4), .ref (a 5), .ref (a 6), .ref (a 7), .ref (a 8), .ref (a 9), .int (nI (kN S))])), (a 1, .inl (cI, 100, .inl (upd (kKd S) (kN S) k))), (a 2, .inl (cI, 100, .inl (upd (kPc S) (kN S) pi))), (a 3, .inl (cI, 100, .inl (upd (kSd S) (kN S) si))), (a 4, .inl (cI, 100, .inl (upd (kSt S) (kN S) f))), (a 5, .inl (cI, 100, .inl (upd (kEn S) (kN S) t))), (a 6, .inl (cI, 100, .inl (upd (kXs S) (kN S) x))), (a 7, .inl (cI, 100, .inl (upd (kAn S) (kN S) (nI 0)))), (a 8, .inl (cI, 100, .inl (upd (kWd S) (kN S) (-1 : Int32)))), (a 9, .inl (cZ, 20, .inl (kIc S)))] := hD
  refine lv_aload_n hx hb dX0_add_73 rfl (lv_at hl 1 rfl) ?_
  refine lv_dup hx hb dX0_add_74 rfl ?_
  refine va_get (D := D) (ci := 0) (v := .int (nI (kN S))) (C := RX0) (T := TX0) (N := 10) hx hb ht inX0 hown hK hP 0 rfl rfl 9 (by decide) (ht _ wd57) (fun _ h9 => h9) rfl dX0_add_75 ?_
  refine lv_iconst (v := nI 1) hx hb dX0_add_78 (by decide) ?_
  refine lv_iadd hx hb dX0_add_79 ?_
  refine xtop (y := nI (kN S + 1)) (nI_add _ _) ?_
  refine va_put (D := D) (ci := 0) (v := .int (nI (kN S + 1))) (ty := .int) (C := RX0) (T := TX0) (N := 10) hx hb ht inX0 tyX0 tyX0_ok nmX0 hown hK hP hD hS 0 rfl rfl 9 (by decide) (ht _ wd57) (fun _ h9 => h9) rfl (by decide +kernel) rfl rfl (Nat.le_of_ble_eq_true rfl) dX0_add_80 (fun H locs hP hD hS => ?_)
  have hP : va_P D vwCl [(a 0, .inr (0, [.ref (a 1), .ref (a 2), .ref (a 3), .ref (a 4), .ref (a 5), .ref (a 6), .ref (a 7), .ref (a 8), .ref (a 9), .int (nI (kN S + 1))])), (a 1, .inl (cI, 100, .inl (upd (kKd S) (kN S) k))), (a 2, .inl (cI, 100, .inl (upd (kPc S) (kN S) pi))), (a 3, .inl (cI, 100, .inl (upd (kSd S) (kN S) si))), (a 4, .inl (cI, 100, .inl (upd (kSt S) (kN S) f))), (a 5, .inl (cI, 100, .inl (upd (kEn S) (kN S) t))), (a 6, .inl (cI, 100, .inl (upd (kXs S) (kN S) x))), (a 7, .inl (cI, 100, .inl (upd (kAn S) (kN S) (nI 0)))), (a 8, .inl (cI, 100, .inl (upd (kWd S) (kN S) (-1 : Int32)))), (a 9, .inl (cZ, 20, .inl (kIc S)))] H := hP
  have hD : va_D (xA (wK a cI cZ S)) [(a 0, .inr (0, [.ref (a 1), .ref (a 2), .ref (a 3), .ref (a 4), .ref (a 5), .ref (a 6), .ref (a 7), .ref (a 8), .ref (a 9), .int (nI (kN S + 1))])), (a 1, .inl (cI, 100, .inl (upd (kKd S) (kN S) k))), (a 2, .inl (cI, 100, .inl (upd (kPc S) (kN S) pi))), (a 3, .inl (cI, 100, .inl (upd (kSd S) (kN S) si))), (a 4, .inl (cI, 100, .inl (upd (kSt S) (kN S) f))), (a 5, .inl (cI, 100, .inl (upd (kEn S) (kN S) t))), (a 6, .inl (cI, 100, .inl (upd (kXs S) (kN S) x))), (a 7, .inl (cI, 100, .inl (upd (kAn S) (kN S) (nI 0)))), (a 8, .inl (cI, 100, .inl (upd (kWd S) (kN S) (-1 : Int32)))), (a 9, .inl (cZ, 20, .inl (kIc S)))] := hD
  refine lv_iload hx hb dX0_add_83 (lv_at hl 0 rfl) ?_
  exact xw_iret (v := nI (kN S)) hx hb hr hlocks hS hP (rfl) dX0_add_85
set_option maxHeartbeats 4000000 in
set_option maxRecDepth 100000 in
theorem r_X0_setAnswer (l : Launch) (D : va_G) (a : Nat → Nat) (cI cZ : ClassId) (S : KS) (hO : kOk S) (c : Nat) (hc : c < kN S) (b : Bool) : xWR l yX0_setAnswer cX0_setAnswer 3 none (xrm 0 0) [.ref (a 0), .int (nI c), .int (bI b)] D (wK a cI cZ S) (tyL cI cZ) none (wK a cI cZ (ansK S c (if b then nI 1 else nI 2))) := by
  refine xWR.of (by decide) (Nat.le_of_ble_eq_true rfl) ?_
  intro p e s m args below meth cd hx hb hr hml hown hlocks ht hN hP hK hD hS ls hl
  have hl : lv_has ls 3 [(0, .ref (a 0)), (1, .int (nI c)), (2, .int (bI b))] := hl
  have hown : s.vm.findClass RX0 = some m.cls := hown
  have hn := hO.1
  refine lv_aload_n hx hb dX0_setAnswer_0 rfl (lv_at hl 0 rfl) ?_
  refine va_get (D := D) (ci := 0) (v := .ref (a 7)) (C := RX0) (T := TX0) (N := 10) hx hb ht inX0 hown hK hP 0 rfl rfl 6 (by decide) (ht _ wd54) (fun _ h9 => h9) rfl dX0_setAnswer_1 ?_
  refine lv_iload_n hx hb dX0_setAnswer_4 rfl (lv_at hl 1 rfl) ?_
  refine lv_iload_n hx hb dX0_setAnswer_5 rfl (lv_at hl 2 rfl) ?_
  refine lv_if_eq (tgt := 13) hx hb dX0_setAnswer_6 (by decide) (fun h_6 => ?_) (fun h_6 => ?_)
  · skip
    refine lv_iconst (v := nI 2) hx hb dX0_setAnswer_13 (by decide) ?_
    refine xa_iast hx hb hK hP hD hS 7 0 (i := c) (x := nI 2) rfl rfl (by omega) (by decide) dX0_setAnswer_14 (fun H locs hP hD hS => ?_)
    have hP : va_P D vwCl [(a 0, .inr (0, [.ref (a 1), .ref (a 2), .ref (a 3), .ref (a 4), .ref (a 5), .ref (a 6), .ref (a 7), .ref (a 8), .ref (a 9), .int (nI (kN S))])), (a 1, .inl (cI, 100, .inl (kKd S))), (a 2, .inl (cI, 100, .inl (kPc S))), (a 3, .inl (cI, 100, .inl (kSd S))), (a 4, .inl (cI, 100, .inl (kSt S))), (a 5, .inl (cI, 100, .inl (kEn S))), (a 6, .inl (cI, 100, .inl (kXs S))), (a 7, .inl (cI, 100, .inl (upd (kAn S) c (nI 2)))), (a 8, .inl (cI, 100, .inl (kWd S))), (a 9, .inl (cZ, 20, .inl (kIc S)))] H := hP
    have hD : va_D (xA (wK a cI cZ S)) [(a 0, .inr (0, [.ref (a 1), .ref (a 2), .ref (a 3), .ref (a 4), .ref (a 5), .ref (a 6), .ref (a 7), .ref (a 8), .ref (a 9), .int (nI (kN S))])), (a 1, .inl (cI, 100, .inl (kKd S))), (a 2, .inl (cI, 100, .inl (kPc S))), (a 3, .inl (cI, 100, .inl (kSd S))), (a 4, .inl (cI, 100, .inl (kSt S))), (a 5, .inl (cI, 100, .inl (kEn S))), (a 6, .inl (cI, 100, .inl (kXs S))), (a 7, .inl (cI, 100, .inl (upd (kAn S) c (nI 2)))), (a 8, .inl (cI, 100, .inl (kWd S))), (a 9, .inl (cZ, 20, .inl (kIc S)))] := hD
    exact xw_vret hx hb hr hlocks hS (by first | (rw [bI_t h_6]; exact hP) | (rw [bI_f h_6]; exact hP)) dX0_setAnswer_15
  · skip
    refine lv_iconst (v := nI 1) hx hb dX0_setAnswer_9 (by decide) ?_
    refine lv_goto (tgt := 14) hx hb dX0_setAnswer_10 (by decide) ?_
    refine xa_iast hx hb hK hP hD hS 7 0 (i := c) (x := nI 1) rfl rfl (by omega) (by decide) dX0_setAnswer_14 (fun H locs hP hD hS => ?_)
    have hP : va_P D vwCl [(a 0, .inr (0, [.ref (a 1), .ref (a 2), .ref (a 3), .ref (a 4), .ref (a 5), .ref (a 6), .ref (a 7), .ref (a 8), .ref (a 9), .int (nI (kN S))])), (a 1, .inl (cI, 100, .inl (kKd S))), (a 2, .inl (cI, 100, .inl (kPc S))), (a 3, .inl (cI, 100, .inl (kSd S))), (a 4, .inl (cI, 100, .inl (kSt S))), (a 5, .inl (cI, 100, .inl (kEn S))), (a 6, .inl (cI, 100, .inl (kXs S))), (a 7, .inl (cI, 100, .inl (upd (kAn S) c (nI 1)))), (a 8, .inl (cI, 100, .inl (kWd S))), (a 9, .inl (cZ, 20, .inl (kIc S)))] H := hP
    have hD : va_D (xA (wK a cI cZ S)) [(a 0, .inr (0, [.ref (a 1), .ref (a 2), .ref (a 3), .ref (a 4), .ref (a 5), .ref (a 6), .ref (a 7), .ref (a 8), .ref (a 9), .int (nI (kN S))])), (a 1, .inl (cI, 100, .inl (kKd S))), (a 2, .inl (cI, 100, .inl (kPc S))), (a 3, .inl (cI, 100, .inl (kSd S))), (a 4, .inl (cI, 100, .inl (kSt S))), (a 5, .inl (cI, 100, .inl (kEn S))), (a 6, .inl (cI, 100, .inl (kXs S))), (a 7, .inl (cI, 100, .inl (upd (kAn S) c (nI 1)))), (a 8, .inl (cI, 100, .inl (kWd S))), (a 9, .inl (cZ, 20, .inl (kIc S)))] := hD
    exact xw_vret hx hb hr hlocks hS (by first | (rw [bI_t h_6]; exact hP) | (rw [bI_f h_6]; exact hP)) dX0_setAnswer_15
set_option maxHeartbeats 4000000 in
set_option maxRecDepth 100000 in
theorem r_X0_setIncident (l : Launch) (D : va_G) (a : Nat → Nat) (cI cZ : ClassId) (S : KS) (hO : kOk S) (i : Nat) (hi : i < 20) (b : Bool) : xWR l yX0_setIncident cX0_setIncident 3 none (xrm 0 0) [.ref (a 0), .int (nI i), .int (bI b)] D (wK a cI cZ S) (tyL cI cZ) none (wK a cI cZ (incK S i (bI b))) := by
  refine xWR.of (by decide) (Nat.le_of_ble_eq_true rfl) ?_
  intro p e s m args below meth cd hx hb hr hml hown hlocks ht hN hP hK hD hS ls hl
  have hl : lv_has ls 3 [(0, .ref (a 0)), (1, .int (nI i)), (2, .int (bI b))] := hl
  have hown : s.vm.findClass RX0 = some m.cls := hown
  have hn := hO.1
  refine lv_aload_n hx hb dX0_setIncident_0 rfl (lv_at hl 0 rfl) ?_
  refine va_get (D := D) (ci := 0) (v := .ref (a 9)) (C := RX0) (T := TX0) (N := 10) hx hb ht inX0 hown hK hP 0 rfl rfl 8 (by decide) (ht _ wd56) (fun _ h9 => h9) rfl dX0_setIncident_1 ?_
  refine lv_iload_n hx hb dX0_setIncident_4 rfl (lv_at hl 1 rfl) ?_
  refine lv_iload_n hx hb dX0_setIncident_5 rfl (lv_at hl 2 rfl) ?_
  refine xa_zast hx hb hK hP hD hS 9 1 (i := i) (x := bI b) rfl rfl (by omega) (by decide) (by first | rfl | exact bI_vp _) dX0_setIncident_6 (fun H locs hP hD hS => ?_)
  have hP : va_P D vwCl [(a 0, .inr (0, [.ref (a 1), .ref (a 2), .ref (a 3), .ref (a 4), .ref (a 5), .ref (a 6), .ref (a 7), .ref (a 8), .ref (a 9), .int (nI (kN S))])), (a 1, .inl (cI, 100, .inl (kKd S))), (a 2, .inl (cI, 100, .inl (kPc S))), (a 3, .inl (cI, 100, .inl (kSd S))), (a 4, .inl (cI, 100, .inl (kSt S))), (a 5, .inl (cI, 100, .inl (kEn S))), (a 6, .inl (cI, 100, .inl (kXs S))), (a 7, .inl (cI, 100, .inl (kAn S))), (a 8, .inl (cI, 100, .inl (kWd S))), (a 9, .inl (cZ, 20, .inl (upd (kIc S) i (bI b))))] H := hP
  have hD : va_D (xA (wK a cI cZ S)) [(a 0, .inr (0, [.ref (a 1), .ref (a 2), .ref (a 3), .ref (a 4), .ref (a 5), .ref (a 6), .ref (a 7), .ref (a 8), .ref (a 9), .int (nI (kN S))])), (a 1, .inl (cI, 100, .inl (kKd S))), (a 2, .inl (cI, 100, .inl (kPc S))), (a 3, .inl (cI, 100, .inl (kSd S))), (a 4, .inl (cI, 100, .inl (kSt S))), (a 5, .inl (cI, 100, .inl (kEn S))), (a 6, .inl (cI, 100, .inl (kXs S))), (a 7, .inl (cI, 100, .inl (kAn S))), (a 8, .inl (cI, 100, .inl (kWd S))), (a 9, .inl (cZ, 20, .inl (upd (kIc S) i (bI b))))] := hD
  exact xw_vret hx hb hr hlocks hS hP dX0_setIncident_7
set_option maxHeartbeats 4000000 in
set_option maxRecDepth 100000 in
theorem r_X0_endAt (l : Launch) (D : va_G) (a : Nat → Nat) (cI cZ : ClassId) (S : KS) (hO : kOk S) (c : Nat) (hc : c < kN S) (t : Int32) : xWR l yX0_endAt cX0_endAt 3 none (xrm 0 0) [.ref (a 0), .int (nI c), .int (t)] D (wK a cI cZ S) (tyL cI cZ) none (wK a cI cZ (endK S c t)) := by
  refine xWR.of (by decide) (Nat.le_of_ble_eq_true rfl) ?_
  intro p e s m args below meth cd hx hb hr hml hown hlocks ht hN hP hK hD hS ls hl
  have hl : lv_has ls 3 [(0, .ref (a 0)), (1, .int (nI c)), (2, .int (t))] := hl
  have hown : s.vm.findClass RX0 = some m.cls := hown
  have hn := hO.1
  refine lv_aload_n hx hb dX0_endAt_0 rfl (lv_at hl 0 rfl) ?_
  refine va_get (D := D) (ci := 0) (v := .ref (a 5)) (C := RX0) (T := TX0) (N := 10) hx hb ht inX0 hown hK hP 0 rfl rfl 4 (by decide) (ht _ wd52) (fun _ h9 => h9) rfl dX0_endAt_1 ?_
  refine lv_iload_n hx hb dX0_endAt_4 rfl (lv_at hl 1 rfl) ?_
  refine lv_iload_n hx hb dX0_endAt_5 rfl (lv_at hl 2 rfl) ?_
  refine xa_iast hx hb hK hP hD hS 5 0 (i := c) (x := t) rfl rfl (by omega) (by decide) dX0_endAt_6 (fun H locs hP hD hS => ?_)
  have hP : va_P D vwCl [(a 0, .inr (0, [.ref (a 1), .ref (a 2), .ref (a 3), .ref (a 4), .ref (a 5), .ref (a 6), .ref (a 7), .ref (a 8), .ref (a 9), .int (nI (kN S))])), (a 1, .inl (cI, 100, .inl (kKd S))), (a 2, .inl (cI, 100, .inl (kPc S))), (a 3, .inl (cI, 100, .inl (kSd S))), (a 4, .inl (cI, 100, .inl (kSt S))), (a 5, .inl (cI, 100, .inl (upd (kEn S) c t))), (a 6, .inl (cI, 100, .inl (kXs S))), (a 7, .inl (cI, 100, .inl (kAn S))), (a 8, .inl (cI, 100, .inl (kWd S))), (a 9, .inl (cZ, 20, .inl (kIc S)))] H := hP
  have hD : va_D (xA (wK a cI cZ S)) [(a 0, .inr (0, [.ref (a 1), .ref (a 2), .ref (a 3), .ref (a 4), .ref (a 5), .ref (a 6), .ref (a 7), .ref (a 8), .ref (a 9), .int (nI (kN S))])), (a 1, .inl (cI, 100, .inl (kKd S))), (a 2, .inl (cI, 100, .inl (kPc S))), (a 3, .inl (cI, 100, .inl (kSd S))), (a 4, .inl (cI, 100, .inl (kSt S))), (a 5, .inl (cI, 100, .inl (upd (kEn S) c t))), (a 6, .inl (cI, 100, .inl (kXs S))), (a 7, .inl (cI, 100, .inl (kAn S))), (a 8, .inl (cI, 100, .inl (kWd S))), (a 9, .inl (cZ, 20, .inl (kIc S)))] := hD
  exact xw_vret hx hb hr hlocks hS hP dX0_endAt_7
set_option maxHeartbeats 4000000 in
set_option maxRecDepth 100000 in
theorem r_X0_giveWord (l : Launch) (D : va_G) (a : Nat → Nat) (cI cZ : ClassId) (S : KS) (hO : kOk S) (c : Nat) (hc : c < kN S) (v : Int32) : xWR l yX0_giveWord cX0_giveWord 3 (some .boolean) (xrm 0 0) [.ref (a 0), .int (nI c), .int (v)] D (wK a cI cZ S) (tyL cI cZ) (some (.int (bI (gaveK S c v)))) (wK a cI cZ (giveK S c v)) := by
  refine xWR.of (by decide) (Nat.le_of_ble_eq_true rfl) ?_
  intro p e s m args below meth cd hx hb hr hml hown hlocks ht hN hP hK hD hS ls hl
  have hl : lv_has ls 3 [(0, .ref (a 0)), (1, .int (nI c)), (2, .int (v))] := hl
  have hown : s.vm.findClass RX0 = some m.cls := hown
  have hn := hO.1
  refine lv_aload_n hx hb dX0_giveWord_0 rfl (lv_at hl 0 rfl) ?_
  refine va_get (D := D) (ci := 0) (v := .ref (a 1)) (C := RX0) (T := TX0) (N := 10) hx hb ht inX0 hown hK hP 0 rfl rfl 0 (by decide) (ht _ wd48) (fun _ h9 => h9) rfl dX0_giveWord_1 ?_
  refine lv_iload_n hx hb dX0_giveWord_4 rfl (lv_at hl 1 rfl) ?_
  refine xa_iald hx hb hK hP 1 0 (i := c) rfl rfl (by omega) (by decide) dX0_giveWord_5 ?_
  refine lv_iconst (v := nI 3) hx hb dX0_giveWord_6 (by decide) ?_
  refine lv_icmp_eq (tgt := 12) hx hb dX0_giveWord_7 (by decide) (fun h_7 => ?_) (fun h_7 => ?_)
  · skip
    refine lv_aload_n hx hb dX0_giveWord_12 rfl (lv_at hl 0 rfl) ?_
    refine va_get (D := D) (ci := 0) (v := .ref (a 8)) (C := RX0) (T := TX0) (N := 10) hx hb ht inX0 hown hK hP 0 rfl rfl 7 (by decide) (ht _ wd55) (fun _ h9 => h9) rfl dX0_giveWord_13 ?_
    refine lv_iload_n hx hb dX0_giveWord_16 rfl (lv_at hl 1 rfl) ?_
    refine xa_iald hx hb hK hP 8 0 (i := c) rfl rfl (by omega) (by decide) dX0_giveWord_17 ?_
    refine lv_iconst (v := (-1 : Int32)) hx hb dX0_giveWord_18 (by decide) ?_
    refine lv_icmp_ne (tgt := 29) hx hb dX0_giveWord_19 (by decide) (fun h_19 => ?_) (fun h_19 => ?_)
    · skip
      refine lv_aload_n hx hb dX0_giveWord_29 rfl (lv_at hl 0 rfl) ?_
      refine va_get (D := D) (ci := 0) (v := .ref (a 8)) (C := RX0) (T := TX0) (N := 10) hx hb ht inX0 hown hK hP 0 rfl rfl 7 (by decide) (ht _ wd55) (fun _ h9 => h9) rfl dX0_giveWord_30 ?_
      refine lv_iload_n hx hb dX0_giveWord_33 rfl (lv_at hl 1 rfl) ?_
      refine xa_iald hx hb hK hP 8 0 (i := c) rfl rfl (by omega) (by decide) dX0_giveWord_34 ?_
      refine lv_iload_n hx hb dX0_giveWord_35 rfl (lv_at hl 2 rfl) ?_
      refine lv_icmp_eq (tgt := 43) hx hb dX0_giveWord_36 (by decide) (fun h_36 => ?_) (fun h_36 => ?_)
      · skip
        refine lv_iconst (v := nI 0) hx hb dX0_giveWord_43 (by decide) ?_
        exact xw_zret (v := nI 0) hx hb hr hlocks (by first | rfl | exact bI_nar _) hS (by rw [giveK]; first | (rw [if_pos ⟨h_7, h_19⟩]; exact hP) | (rw [if_neg (fun z => h_19 z.2)]; exact hP)) (bI_0 (by rw [gaveK, giveK, decide_eq_true h_7]; first | (rw [if_pos ⟨h_7, h_19⟩, decide_eq_true (show kWd (wrdK S c v) c = v from h_36)]; rfl) | (rw [if_neg (fun z => h_19 z.2), decide_eq_true h_36]; rfl))) dX0_giveWord_44
      · skip
        refine lv_iconst (v := nI 1) hx hb dX0_giveWord_39 (by decide) ?_
        refine lv_goto (tgt := 44) hx hb dX0_giveWord_40 (by decide) ?_
        exact xw_zret (v := nI 1) hx hb hr hlocks (by first | rfl | exact bI_nar _) hS (by rw [giveK]; first | (rw [if_pos ⟨h_7, h_19⟩]; exact hP) | (rw [if_neg (fun z => h_19 z.2)]; exact hP)) (bI_1 (by rw [gaveK, giveK]; first | (rw [if_pos ⟨h_7, h_19⟩, decide_eq_false (show ¬ kWd (wrdK S c v) c = v from h_36), Bool.not_false, Bool.or_true]; done) | (rw [if_neg (fun z => h_19 z.2), decide_eq_false h_36, Bool.not_false, Bool.or_true]; done))) dX0_giveWord_44
    · skip
      refine lv_aload_n hx hb dX0_giveWord_22 rfl (lv_at hl 0 rfl) ?_
      refine va_get (D := D) (ci := 0) (v := .ref (a 8)) (C := RX0) (T := TX0) (N := 10) hx hb ht inX0 hown hK hP 0 rfl rfl 7 (by decide) (ht _ wd55) (fun _ h9 => h9) rfl dX0_giveWord_23 ?_
      refine lv_iload_n hx hb dX0_giveWord_26 rfl (lv_at hl 1 rfl) ?_
      refine lv_iload_n hx hb dX0_giveWord_27 rfl (lv_at hl 2 rfl) ?_
      refine xa_iast hx hb hK hP hD hS 8 0 (i := c) (x := v) rfl rfl (by omega) (by decide) dX0_giveWord_28 (fun H locs hP hD hS => ?_)
      have hP : va_P D vwCl [(a 0, .inr (0, [.ref (a 1), .ref (a 2), .ref (a 3), .ref (a 4), .ref (a 5), .ref (a 6), .ref (a 7), .ref (a 8), .ref (a 9), .int (nI (kN S))])), (a 1, .inl (cI, 100, .inl (kKd S))), (a 2, .inl (cI, 100, .inl (kPc S))), (a 3, .inl (cI, 100, .inl (kSd S))), (a 4, .inl (cI, 100, .inl (kSt S))), (a 5, .inl (cI, 100, .inl (kEn S))), (a 6, .inl (cI, 100, .inl (kXs S))), (a 7, .inl (cI, 100, .inl (kAn S))), (a 8, .inl (cI, 100, .inl (upd (kWd S) c v))), (a 9, .inl (cZ, 20, .inl (kIc S)))] H := hP
      have hD : va_D (xA (wK a cI cZ S)) [(a 0, .inr (0, [.ref (a 1), .ref (a 2), .ref (a 3), .ref (a 4), .ref (a 5), .ref (a 6), .ref (a 7), .ref (a 8), .ref (a 9), .int (nI (kN S))])), (a 1, .inl (cI, 100, .inl (kKd S))), (a 2, .inl (cI, 100, .inl (kPc S))), (a 3, .inl (cI, 100, .inl (kSd S))), (a 4, .inl (cI, 100, .inl (kSt S))), (a 5, .inl (cI, 100, .inl (kEn S))), (a 6, .inl (cI, 100, .inl (kXs S))), (a 7, .inl (cI, 100, .inl (kAn S))), (a 8, .inl (cI, 100, .inl (upd (kWd S) c v))), (a 9, .inl (cZ, 20, .inl (kIc S)))] := hD
      refine lv_aload_n hx hb dX0_giveWord_29 rfl (lv_at hl 0 rfl) ?_
      refine va_get (D := D) (ci := 0) (v := .ref (a 8)) (C := RX0) (T := TX0) (N := 10) hx hb ht inX0 hown hK hP 0 rfl rfl 7 (by decide) (ht _ wd55) (fun _ h9 => h9) rfl dX0_giveWord_30 ?_
      refine lv_iload_n hx hb dX0_giveWord_33 rfl (lv_at hl 1 rfl) ?_
      refine xa_iald hx hb hK hP 8 0 (i := c) rfl rfl (by omega) (by decide) dX0_giveWord_34 ?_
      refine lv_iload_n hx hb dX0_giveWord_35 rfl (lv_at hl 2 rfl) ?_
      refine lv_icmp_eq (tgt := 43) hx hb dX0_giveWord_36 (by decide) (fun h_36 => ?_) (fun h_36 => ?_)
      · skip
        refine lv_iconst (v := nI 0) hx hb dX0_giveWord_43 (by decide) ?_
        exact xw_zret (v := nI 0) hx hb hr hlocks (by first | rfl | exact bI_nar _) hS (by rw [giveK]; first | (rw [if_pos ⟨h_7, h_19⟩]; exact hP) | (rw [if_neg (fun z => h_19 z.2)]; exact hP)) (bI_0 (by rw [gaveK, giveK, decide_eq_true h_7]; first | (rw [if_pos ⟨h_7, h_19⟩, decide_eq_true (show kWd (wrdK S c v) c = v from h_36)]; rfl) | (rw [if_neg (fun z => h_19 z.2), decide_eq_true h_36]; rfl))) dX0_giveWord_44
      · skip
        refine lv_iconst (v := nI 1) hx hb dX0_giveWord_39 (by decide) ?_
        refine lv_goto (tgt := 44) hx hb dX0_giveWord_40 (by decide) ?_
        exact xw_zret (v := nI 1) hx hb hr hlocks (by first | rfl | exact bI_nar _) hS (by rw [giveK]; first | (rw [if_pos ⟨h_7, h_19⟩]; exact hP) | (rw [if_neg (fun z => h_19 z.2)]; exact hP)) (bI_1 (by rw [gaveK, giveK]; first | (rw [if_pos ⟨h_7, h_19⟩, decide_eq_false (show ¬ kWd (wrdK S c v) c = v from h_36), Bool.not_false, Bool.or_true]; done) | (rw [if_neg (fun z => h_19 z.2), decide_eq_false h_36, Bool.not_false, Bool.or_true]; done))) dX0_giveWord_44
  · skip
    refine lv_iconst (v := nI 1) hx hb dX0_giveWord_10 (by decide) ?_
    exact xw_zret (v := nI 1) hx hb hr hlocks (by first | rfl | exact bI_nar _) hS (by rw [giveK, if_neg (fun z => h_7 z.1)]; exact hP) (bI_1 (by rw [gaveK, decide_eq_false h_7]; rfl)) dX0_giveWord_11
set_option maxHeartbeats 4000000 in
set_option maxRecDepth 100000 in
theorem r_X0_markSides (l : Launch) (D : va_G) (a : Nat → Nat) (cI cZ : ClassId) (S : KS) (hO : kOk S) (c : Nat) (hc : c < kN S) (b : Nat) (rw0 : KF) : xWR l yX0_markSides cX0_markSides 3 none (xrm 1 21) [.ref (a 0), .ref (b), .int (nI c)] D (wK a cI cZ S ++ [(b, .inl (cZ, 120, .inl (rw0)))]) (tyL cI cZ) none (wK a cI cZ S ++ [(b, .inl (cZ, 120, .inl (markK S c rw0)))]) := by
  refine xWR.of (by decide) (Nat.le_of_ble_eq_true rfl) ?_
  intro p e s m args below meth cd hx hb hr hml hown hlocks ht hN hP hK hD hS ls hl
  have hl : lv_has ls 3 [(0, .ref (a 0)), (1, .ref (b)), (2, .int (nI c))] := hl
  have hown : s.vm.findClass RX0 = some m.cls := hown
  have hn := hO.1
  obtain ⟨pi, hpi, epi⟩ := (hO.2.2 c hc).2.2
  refine lv_aload_n hx hb dX0_markSides_0 rfl (lv_at hl 0 rfl) ?_
  refine va_get (D := D) (ci := 0) (v := .ref (a 3)) (C := RX0) (T := TX0) (N := 10) hx hb ht inX0 hown hK hP 0 rfl rfl 2 (by decide) (ht _ wd50) (fun _ h9 => h9) rfl dX0_markSides_1 ?_
  refine lv_iload_n hx hb dX0_markSides_4 rfl (lv_at hl 2 rfl) ?_
  refine xa_iald hx hb hK hP 3 0 (i := c) rfl rfl (by omega) (by decide) dX0_markSides_5 ?_
  refine lv_iconst (v := nI 1) hx hb dX0_markSides_6 (by decide) ?_
  refine lv_iand hx hb dX0_markSides_7 ?_
  refine lv_if_eq (tgt := 24) hx hb dX0_markSides_8 (by decide) (fun h_8 => ?_) (fun h_8 => ?_)
  · skip
    refine lv_aload_n hx hb dX0_markSides_24 rfl (lv_at hl 0 rfl) ?_
    refine va_get (D := D) (ci := 0) (v := .ref (a 3)) (C := RX0) (T := TX0) (N := 10) hx hb ht inX0 hown hK hP 0 rfl rfl 2 (by decide) (ht _ wd50) (fun _ h9 => h9) rfl dX0_markSides_25 ?_
    refine lv_iload_n hx hb dX0_markSides_28 rfl (lv_at hl 2 rfl) ?_
    refine xa_iald hx hb hK hP 3 0 (i := c) rfl rfl (by omega) (by decide) dX0_markSides_29 ?_
    refine lv_iconst (v := nI 2) hx hb dX0_markSides_30 (by decide) ?_
    refine lv_iand hx hb dX0_markSides_31 ?_
    refine lv_if_eq (tgt := 48) hx hb dX0_markSides_32 (by decide) (fun h_32 => ?_) (fun h_32 => ?_)
    · skip
      exact xw_vret hx hb hr hlocks hS (xP_congr (w2 := []) (fun j hj => by rw [markK_of epi hpi rw0 j hj]; first | (rw [if_pos h_32, if_pos h_8]; done) | (rw [if_pos h_32, if_neg h_8]; done) | (rw [if_neg h_32, if_pos h_8]; done) | (rw [if_neg h_32, if_neg h_8]; done)) hP) dX0_markSides_48
    · skip
      refine lv_aload_n hx hb dX0_markSides_35 rfl (lv_at hl 1 rfl) ?_
      refine lv_aload_n hx hb dX0_markSides_36 rfl (lv_at hl 0 rfl) ?_
      refine va_get (D := D) (ci := 0) (v := .ref (a 2)) (C := RX0) (T := TX0) (N := 10) hx hb ht inX0 hown hK hP 0 rfl rfl 1 (by decide) (ht _ wd49) (fun _ h9 => h9) rfl dX0_markSides_37 ?_
      refine lv_iload_n hx hb dX0_markSides_40 rfl (lv_at hl 2 rfl) ?_
      refine xa_iald hx hb hK hP 2 0 (i := c) rfl rfl (by omega) (by decide) dX0_markSides_41 ?_
      refine xtop (y := nI pi) epi ?_
      refine lv_iconst (v := nI 2) hx hb dX0_markSides_42 (by decide) ?_
      refine xrN (As := [.int (nI pi), .int (nI 2)]) (rest := [.ref (b)]) hx hb hml hown ht hN kN_X0_56 (r_X3_placeOf l D pi 1) ⟨by decide, by decide⟩ (fun k q h => by simp at h) (hK.sub (tys' := []) [] rfl) rfl hl.1 rfl (Nat.le_of_ble_eq_true rfl) dX0_markSides_43 ⟨Nat.zero_le _, Nat.zero_le _⟩ ?_
      refine lv_iconst (v := nI 1) hx hb dX0_markSides_46 (by decide) ?_
      refine xa_zast hx hb hK hP hD hS 10 1 (i := (2 * pi + 1)) (x := nI 1) rfl rfl (by omega) (by decide) (by first | rfl | exact bI_vp _) dX0_markSides_47 (fun H locs hP hD hS => ?_)
      have hP : va_P D vwCl [(a 0, .inr (0, [.ref (a 1), .ref (a 2), .ref (a 3), .ref (a 4), .ref (a 5), .ref (a 6), .ref (a 7), .ref (a 8), .ref (a 9), .int (nI (kN S))])), (a 1, .inl (cI, 100, .inl (kKd S))), (a 2, .inl (cI, 100, .inl (kPc S))), (a 3, .inl (cI, 100, .inl (kSd S))), (a 4, .inl (cI, 100, .inl (kSt S))), (a 5, .inl (cI, 100, .inl (kEn S))), (a 6, .inl (cI, 100, .inl (kXs S))), (a 7, .inl (cI, 100, .inl (kAn S))), (a 8, .inl (cI, 100, .inl (kWd S))), (a 9, .inl (cZ, 20, .inl (kIc S))), (b, .inl (cZ, 120, .inl (upd rw0 (2 * pi + 1) (nI 1))))] H := hP
      have hD : va_D (xA (wK a cI cZ S ++ [(b, .inl (cZ, 120, .inl (rw0)))])) [(a 0, .inr (0, [.ref (a 1), .ref (a 2), .ref (a 3), .ref (a 4), .ref (a 5), .ref (a 6), .ref (a 7), .ref (a 8), .ref (a 9), .int (nI (kN S))])), (a 1, .inl (cI, 100, .inl (kKd S))), (a 2, .inl (cI, 100, .inl (kPc S))), (a 3, .inl (cI, 100, .inl (kSd S))), (a 4, .inl (cI, 100, .inl (kSt S))), (a 5, .inl (cI, 100, .inl (kEn S))), (a 6, .inl (cI, 100, .inl (kXs S))), (a 7, .inl (cI, 100, .inl (kAn S))), (a 8, .inl (cI, 100, .inl (kWd S))), (a 9, .inl (cZ, 20, .inl (kIc S))), (b, .inl (cZ, 120, .inl (upd rw0 (2 * pi + 1) (nI 1))))] := hD
      exact xw_vret hx hb hr hlocks hS (xP_congr (w2 := []) (fun j hj => by rw [markK_of epi hpi rw0 j hj]; first | (rw [if_pos h_32, if_pos h_8]; done) | (rw [if_pos h_32, if_neg h_8]; done) | (rw [if_neg h_32, if_pos h_8]; done) | (rw [if_neg h_32, if_neg h_8]; done)) hP) dX0_markSides_48
  · skip
    refine lv_aload_n hx hb dX0_markSides_11 rfl (lv_at hl 1 rfl) ?_
    refine lv_aload_n hx hb dX0_markSides_12 rfl (lv_at hl 0 rfl) ?_
    refine va_get (D := D) (ci := 0) (v := .ref (a 2)) (C := RX0) (T := TX0) (N := 10) hx hb ht inX0 hown hK hP 0 rfl rfl 1 (by decide) (ht _ wd49) (fun _ h9 => h9) rfl dX0_markSides_13 ?_
    refine lv_iload_n hx hb dX0_markSides_16 rfl (lv_at hl 2 rfl) ?_
    refine xa_iald hx hb hK hP 2 0 (i := c) rfl rfl (by omega) (by decide) dX0_markSides_17 ?_
    refine xtop (y := nI pi) epi ?_
    refine lv_iconst (v := nI 1) hx hb dX0_markSides_18 (by decide) ?_
    refine xrN (As := [.int (nI pi), .int (nI 1)]) (rest := [.ref (b)]) hx hb hml hown ht hN kN_X0_56 (r_X3_placeOf l D pi 0) ⟨by decide, by decide⟩ (fun k q h => by simp at h) (hK.sub (tys' := []) [] rfl) rfl hl.1 rfl (Nat.le_of_ble_eq_true rfl) dX0_markSides_19 ⟨Nat.zero_le _, Nat.zero_le _⟩ ?_
    refine lv_iconst (v := nI 1) hx hb dX0_markSides_22 (by decide) ?_
    refine xa_zast hx hb hK hP hD hS 10 1 (i := (2 * pi + 0)) (x := nI 1) rfl rfl (by omega) (by decide) (by first | rfl | exact bI_vp _) dX0_markSides_23 (fun H locs hP hD hS => ?_)
    have hP : va_P D vwCl [(a 0, .inr (0, [.ref (a 1), .ref (a 2), .ref (a 3), .ref (a 4), .ref (a 5), .ref (a 6), .ref (a 7), .ref (a 8), .ref (a 9), .int (nI (kN S))])), (a 1, .inl (cI, 100, .inl (kKd S))), (a 2, .inl (cI, 100, .inl (kPc S))), (a 3, .inl (cI, 100, .inl (kSd S))), (a 4, .inl (cI, 100, .inl (kSt S))), (a 5, .inl (cI, 100, .inl (kEn S))), (a 6, .inl (cI, 100, .inl (kXs S))), (a 7, .inl (cI, 100, .inl (kAn S))), (a 8, .inl (cI, 100, .inl (kWd S))), (a 9, .inl (cZ, 20, .inl (kIc S))), (b, .inl (cZ, 120, .inl (upd rw0 (2 * pi + 0) (nI 1))))] H := hP
    have hD : va_D (xA (wK a cI cZ S ++ [(b, .inl (cZ, 120, .inl (rw0)))])) [(a 0, .inr (0, [.ref (a 1), .ref (a 2), .ref (a 3), .ref (a 4), .ref (a 5), .ref (a 6), .ref (a 7), .ref (a 8), .ref (a 9), .int (nI (kN S))])), (a 1, .inl (cI, 100, .inl (kKd S))), (a 2, .inl (cI, 100, .inl (kPc S))), (a 3, .inl (cI, 100, .inl (kSd S))), (a 4, .inl (cI, 100, .inl (kSt S))), (a 5, .inl (cI, 100, .inl (kEn S))), (a 6, .inl (cI, 100, .inl (kXs S))), (a 7, .inl (cI, 100, .inl (kAn S))), (a 8, .inl (cI, 100, .inl (kWd S))), (a 9, .inl (cZ, 20, .inl (kIc S))), (b, .inl (cZ, 120, .inl (upd rw0 (2 * pi + 0) (nI 1))))] := hD
    refine lv_aload_n hx hb dX0_markSides_24 rfl (lv_at hl 0 rfl) ?_
    refine va_get (D := D) (ci := 0) (v := .ref (a 3)) (C := RX0) (T := TX0) (N := 10) hx hb ht inX0 hown hK hP 0 rfl rfl 2 (by decide) (ht _ wd50) (fun _ h9 => h9) rfl dX0_markSides_25 ?_
    refine lv_iload_n hx hb dX0_markSides_28 rfl (lv_at hl 2 rfl) ?_
    refine xa_iald hx hb hK hP 3 0 (i := c) rfl rfl (by omega) (by decide) dX0_markSides_29 ?_
    refine lv_iconst (v := nI 2) hx hb dX0_markSides_30 (by decide) ?_
    refine lv_iand hx hb dX0_markSides_31 ?_
    refine lv_if_eq (tgt := 48) hx hb dX0_markSides_32 (by decide) (fun h_32 => ?_) (fun h_32 => ?_)
    · skip
      exact xw_vret hx hb hr hlocks hS (xP_congr (w2 := []) (fun j hj => by rw [markK_of epi hpi rw0 j hj]; first | (rw [if_pos h_32, if_pos h_8]; done) | (rw [if_pos h_32, if_neg h_8]; done) | (rw [if_neg h_32, if_pos h_8]; done) | (rw [if_neg h_32, if_neg h_8]; done)) hP) dX0_markSides_48
    · skip
      refine lv_aload_n hx hb dX0_markSides_35 rfl (lv_at hl 1 rfl) ?_
      refine lv_aload_n hx hb dX0_markSides_36 rfl (lv_at hl 0 rfl) ?_
      refine va_get (D := D) (ci := 0) (v := .ref (a 2)) (C := RX0) (T := TX0) (N := 10) hx hb ht inX0 hown hK hP 0 rfl rfl 1 (by decide) (ht _ wd49) (fun _ h9 => h9) rfl dX0_markSides_37 ?_
      refine lv_iload_n hx hb dX0_markSides_40 rfl (lv_at hl 2 rfl) ?_
      refine xa_iald hx hb hK hP 2 0 (i := c) rfl rfl (by omega) (by decide) dX0_markSides_41 ?_
      refine xtop (y := nI pi) epi ?_
      refine lv_iconst (v := nI 2) hx hb dX0_markSides_42 (by decide) ?_
      refine xrN (As := [.int (nI pi), .int (nI 2)]) (rest := [.ref (b)]) hx hb hml hown ht hN kN_X0_56 (r_X3_placeOf l D pi 1) ⟨by decide, by decide⟩ (fun k q h => by simp at h) (hK.sub (tys' := []) [] rfl) rfl hl.1 rfl (Nat.le_of_ble_eq_true rfl) dX0_markSides_43 ⟨Nat.zero_le _, Nat.zero_le _⟩ ?_
      refine lv_iconst (v := nI 1) hx hb dX0_markSides_46 (by decide) ?_
      refine xa_zast hx hb hK hP hD hS 10 1 (i := (2 * pi + 1)) (x := nI 1) rfl rfl (by omega) (by decide) (by first | rfl | exact bI_vp _) dX0_markSides_47 (fun H locs hP hD hS => ?_)
      have hP : va_P D vwCl [(a 0, .inr (0, [.ref (a 1), .ref (a 2), .ref (a 3), .ref (a 4), .ref (a 5), .ref (a 6), .ref (a 7), .ref (a 8), .ref (a 9), .int (nI (kN S))])), (a 1, .inl (cI, 100, .inl (kKd S))), (a 2, .inl (cI, 100, .inl (kPc S))), (a 3, .inl (cI, 100, .inl (kSd S))), (a 4, .inl (cI, 100, .inl (kSt S))), (a 5, .inl (cI, 100, .inl (kEn S))), (a 6, .inl (cI, 100, .inl (kXs S))), (a 7, .inl (cI, 100, .inl (kAn S))), (a 8, .inl (cI, 100, .inl (kWd S))), (a 9, .inl (cZ, 20, .inl (kIc S))), (b, .inl (cZ, 120, .inl (upd (upd rw0 (2 * pi + 0) (nI 1)) (2 * pi + 1) (nI 1))))] H := hP
      have hD : va_D (xA (wK a cI cZ S ++ [(b, .inl (cZ, 120, .inl (rw0)))])) [(a 0, .inr (0, [.ref (a 1), .ref (a 2), .ref (a 3), .ref (a 4), .ref (a 5), .ref (a 6), .ref (a 7), .ref (a 8), .ref (a 9), .int (nI (kN S))])), (a 1, .inl (cI, 100, .inl (kKd S))), (a 2, .inl (cI, 100, .inl (kPc S))), (a 3, .inl (cI, 100, .inl (kSd S))), (a 4, .inl (cI, 100, .inl (kSt S))), (a 5, .inl (cI, 100, .inl (kEn S))), (a 6, .inl (cI, 100, .inl (kXs S))), (a 7, .inl (cI, 100, .inl (kAn S))), (a 8, .inl (cI, 100, .inl (kWd S))), (a 9, .inl (cZ, 20, .inl (kIc S))), (b, .inl (cZ, 120, .inl (upd (upd rw0 (2 * pi + 0) (nI 1)) (2 * pi + 1) (nI 1))))] := hD
      exact xw_vret hx hb hr hlocks hS (xP_congr (w2 := []) (fun j hj => by rw [markK_of epi hpi rw0 j hj]; first | (rw [if_pos h_32, if_pos h_8]; done) | (rw [if_pos h_32, if_neg h_8]; done) | (rw [if_neg h_32, if_pos h_8]; done) | (rw [if_neg h_32, if_neg h_8]; done)) hP) dX0_markSides_48
set_option maxHeartbeats 4000000 in
set_option maxRecDepth 100000 in
theorem r_X0_markClosed (l : Launch) (D : va_G) (a : Nat → Nat) (cI cZ : ClassId) (S : KS) (hO : kOk S) (b : Nat) (rw0 : KF) (t : Int32) : xWR l yX0_markClosed cX0_markClosed 4 none (xrm 3 64) [.ref (a 0), .ref (b), .int (t)] D (wK a cI cZ S ++ [(b, .inl (cZ, 120, .inl (rw0)))]) (tyL cI cZ) none (wK a cI cZ S ++ [(b, .inl (cZ, 120, .inl (rowK S t (kN S))))]) := by
  refine xWR.of (by decide) (Nat.le_of_ble_eq_true rfl) ?_
  intro p e s m args below meth cd hx hb hr hml hown hlocks ht hN hP hK hD hS ls hl
  have hl : lv_has ls 4 [(0, .ref (a 0)), (1, .ref (b)), (2, .int (t))] := hl
  have hown : s.vm.findClass RX0 = some m.cls := hown
  have hn := hO.1
  have L20 : ∀ (n : Nat) (c : Nat), kN S < c + n → c ≤ kN S → ∀ (H : Heap) (locs : List Loc), va_P D vwCl (wK a cI cZ S ++ [(b, .inl (cZ, 120, .inl (rowK S t c)))]) H → va_D (xA (wK a cI cZ S ++ [(b, .inl (cZ, 120, .inl (rw0)))])) (wK a cI cZ S ++ [(b, .inl (cZ, 120, .inl (rowK S t c)))]) → va_S (xA (wK a cI cZ S ++ [(b, .inl (cZ, 120, .inl (rw0)))])) s.heap H locs → ∀ ls : Array Slot, lv_has ls 4 [(0, .ref (a 0)), (1, .ref (b)), (2, .int (t)), (3, .int (nI c))] → W p l e (xrm 3 64) s m args below meth cd H locs 0 0 (MQ below (xQw none D (wK a cI cZ S ++ [(b, .inl (cZ, 120, .inl (rw0)))]) (wK a cI cZ S ++ [(b, .inl (cZ, 120, .inl (rowK S t (kN S))))])) args s 0 0 (xA (wK a cI cZ S ++ [(b, .inl (cZ, 120, .inl (rw0)))]))) (F0 m 20 ls []) := by
    intro n
    induction n with
    | zero =>
      intro c hfuel hi
      exact absurd hfuel (by omega)
    | succ n ih20 =>
      intro c hfuel hi H locs hP hD hS ls hl
      refine lv_iload_n hx hb dX0_markClosed_20 rfl (lv_at hl 3 rfl) ?_
      refine lv_aload_n hx hb dX0_markClosed_21 rfl (lv_at hl 0 rfl) ?_
      refine va_get (D := D) (ci := 0) (v := .int (nI (kN S))) (C := RX0) (T := TX0) (N := 10) hx hb ht inX0 hown hK hP 0 rfl rfl 9 (by decide) (ht _ wd57) (fun _ h9 => h9) rfl dX0_markClosed_22 ?_
      refine lv_icmp_ge (tgt := 59) hx hb dX0_markClosed_25 (by decide) (fun h_25 => ?_) (fun h_25 => ?_)
      · skip
        have h_25 : (kN S) ≤ c := (nI_leI (by omega) (by omega)).mp h_25
        exact xw_vret hx hb hr hlocks hS (by rw [show kN S = c by omega]; exact hP) dX0_markClosed_59
      · skip
        have h_25 : ¬ ((kN S) ≤ c) := fun z => h_25 ((nI_leI (by omega) (by omega)).mpr z)
        refine lv_aload_n hx hb dX0_markClosed_28 rfl (lv_at hl 0 rfl) ?_
        refine va_get (D := D) (ci := 0) (v := .ref (a 1)) (C := RX0) (T := TX0) (N := 10) hx hb ht inX0 hown hK hP 0 rfl rfl 0 (by decide) (ht _ wd48) (fun _ h9 => h9) rfl dX0_markClosed_29 ?_
        refine lv_iload_n hx hb dX0_markClosed_32 rfl (lv_at hl 3 rfl) ?_
        refine xa_iald hx hb hK hP 1 0 (i := c) rfl rfl (by omega) (by decide) dX0_markClosed_33 ?_
        refine lv_iconst (v := nI 5) hx hb dX0_markClosed_34 (by decide) ?_
        refine lv_icmp_eq (tgt := 53) hx hb dX0_markClosed_35 (by decide) (fun h_35 => ?_) (fun h_35 => ?_)
        · skip
          refine lv_iinc (v := nI (c + 1)) (lv' := [(3, .int (nI (c + 1))), (0, .ref (a 0)), (1, .ref (b)), (2, .int (t))]) hx hb dX0_markClosed_53 hl (k := 3) rfl (nI_1 _) (by decide) rfl (fun ls hl => ?_)
          refine lv_goto (tgt := 20) hx hb dX0_markClosed_56 (by decide) ?_
          exact ih20 (c + 1) (by omega) (by omega) _ _ (by rw [rowK_s]; first | (rw [decide_eq_true h_35]; exact hP) | (rw [decide_eq_false h_35, bI_t h_44]; exact hP) | (rw [bI_f h_44, Bool.and_false]; exact hP)) (xD_addr hD rfl) hS ls (lv_sub hl [1, 2, 3, 0] rfl)
        · skip
          refine lv_aload_n hx hb dX0_markClosed_38 rfl (lv_at hl 0 rfl) ?_
          refine lv_iload_n hx hb dX0_markClosed_39 rfl (lv_at hl 3 rfl) ?_
          refine lv_iload_n hx hb dX0_markClosed_40 rfl (lv_at hl 2 rfl) ?_
          refine xrV (As := [.int (nI c), .int (t)]) (rest := []) hx hb hml hown ht hN kV_X0_48 (r_X0_holds l D a cI cZ S hO c (by omega) t) ⟨by decide, by decide⟩ (hP.sub (ws' := (wK a cI cZ S)) [0, 1, 2, 3, 4, 5, 6, 7, 8, 9] rfl) hK rfl rfl rfl rfl hl.1 rfl (Nat.le_of_ble_eq_true rfl) dX0_markClosed_41 ⟨Nat.zero_le _, Nat.zero_le _⟩ ?_
          refine lv_if_eq (tgt := 53) hx hb dX0_markClosed_44 (by decide) (fun h_44 => ?_) (fun h_44 => ?_)
          · skip
            refine lv_iinc (v := nI (c + 1)) (lv' := [(3, .int (nI (c + 1))), (0, .ref (a 0)), (1, .ref (b)), (2, .int (t))]) hx hb dX0_markClosed_53 hl (k := 3) rfl (nI_1 _) (by decide) rfl (fun ls hl => ?_)
            refine lv_goto (tgt := 20) hx hb dX0_markClosed_56 (by decide) ?_
            exact ih20 (c + 1) (by omega) (by omega) _ _ (by rw [rowK_s]; first | (rw [decide_eq_true h_35]; exact hP) | (rw [decide_eq_false h_35, bI_t h_44]; exact hP) | (rw [bI_f h_44, Bool.and_false]; exact hP)) (xD_addr hD rfl) hS ls (lv_sub hl [1, 2, 3, 0] rfl)
          · skip
            refine lv_aload_n hx hb dX0_markClosed_47 rfl (lv_at hl 0 rfl) ?_
            refine lv_aload_n hx hb dX0_markClosed_48 rfl (lv_at hl 1 rfl) ?_
            refine lv_iload_n hx hb dX0_markClosed_49 rfl (lv_at hl 3 rfl) ?_
            refine xwV (As := [.ref (b), .int (nI c)]) (rest := []) (wr := []) (ws2 := (wK a cI cZ S ++ [(b, .inl (cZ, 120, .inl (markK S c (rowK S t c))))])) hx hb hml hown ht hN kV_X0_52 (r_X0_markSides l D a cI cZ S hO c (by omega) b (rowK S t c)) ⟨by decide, by decide⟩ hP hD hS hK [0, 1, 2, 3, 4, 5, 6, 7, 8, 9, 10] [] [0, 1, 2, 3, 4, 5, 6, 7, 8, 9, 10] rfl rfl (by decide) (by decide) (by decide) rfl rfl (by decide) rfl rfl rfl rfl hl.1 rfl (Nat.le_of_ble_eq_true rfl) dX0_markClosed_50 ⟨Nat.zero_le _, Nat.zero_le _⟩ (fun H locs hP hD hS => ?_)
            refine lv_iinc (v := nI (c + 1)) (lv' := [(3, .int (nI (c + 1))), (0, .ref (a 0)), (1, .ref (b)), (2, .int (t))]) hx hb dX0_markClosed_53 hl (k := 3) rfl (nI_1 _) (by decide) rfl (fun ls hl => ?_)
            refine lv_goto (tgt := 20) hx hb dX0_markClosed_56 (by decide) ?_
            exact ih20 (c + 1) (by omega) (by omega) _ _ (by rw [rowK_s]; first | (rw [decide_eq_true h_35]; exact hP) | (rw [decide_eq_false h_35, bI_t h_44]; exact hP) | (rw [bI_f h_44, Bool.and_false]; exact hP)) (xD_addr hD rfl) hS ls (lv_sub hl [1, 2, 3, 0] rfl)
  have L2 : ∀ (n : Nat) (i : Nat), 120 < i + n → i ≤ 120 → ∀ (H : Heap) (locs : List Loc), va_P D vwCl (wK a cI cZ S ++ [(b, .inl (cZ, 120, .inl (zfil rw0 i)))]) H → va_D (xA (wK a cI cZ S ++ [(b, .inl (cZ, 120, .inl (rw0)))])) (wK a cI cZ S ++ [(b, .inl (cZ, 120, .inl (zfil rw0 i)))]) → va_S (xA (wK a cI cZ S ++ [(b, .inl (cZ, 120, .inl (rw0)))])) s.heap H locs → ∀ ls : Array Slot, lv_has ls 4 [(0, .ref (a 0)), (1, .ref (b)), (2, .int (t)), (3, .int (nI i))] → W p l e (xrm 3 64) s m args below meth cd H locs 0 0 (MQ below (xQw none D (wK a cI cZ S ++ [(b, .inl (cZ, 120, .inl (rw0)))]) (wK a cI cZ S ++ [(b, .inl (cZ, 120, .inl (rowK S t (kN S))))])) args s 0 0 (xA (wK a cI cZ S ++ [(b, .inl (cZ, 120, .inl (rw0)))]))) (F0 m 2 ls []) := by
    intro n
    induction n with
    | zero =>
      intro i hfuel hi
      exact absurd hfuel (by omega)
    | succ n ih2 =>
      intro i hfuel hi H locs hP hD hS ls hl
      refine lv_iload_n hx hb dX0_markClosed_2 rfl (lv_at hl 3 rfl) ?_
      refine lv_bipush (v := nI 120) hx hb dX0_markClosed_3 (by decide) ?_
      refine lv_icmp_ge (tgt := 18) hx hb dX0_markClosed_5 (by decide) (fun h_5 => ?_) (fun h_5 => ?_)
      · skip
        have h_5 : 120 ≤ i := (nI_leI (by omega) (by omega)).mp h_5
        refine lv_iconst (v := nI 0) hx hb dX0_markClosed_18 (by decide) ?_
        refine lv_istore_n (lv' := [(3, .int (nI 0)), (0, .ref (a 0)), (1, .ref (b)), (2, .int (t))]) hx hb dX0_markClosed_19 rfl hl (by decide) rfl (fun ls hl => ?_)
        exact L20 (kN S + 1) 0 (by omega) (by omega) _ _ (xP_congr (w2 := []) (g := rowK S t 0) (fun j hj => by unfold zfil; rw [if_pos (by omega)]; rfl) hP) (xD_addr hD rfl) hS ls (lv_sub hl [1, 2, 3, 0] rfl)
      · skip
        have h_5 : ¬ (120 ≤ i) := fun z => h_5 ((nI_leI (by omega) (by omega)).mpr z)
        refine lv_aload_n hx hb dX0_markClosed_8 rfl (lv_at hl 1 rfl) ?_
        refine lv_iload_n hx hb dX0_markClosed_9 rfl (lv_at hl 3 rfl) ?_
        refine lv_iconst (v := nI 0) hx hb dX0_markClosed_10 (by decide) ?_
        refine xa_zast hx hb hK hP hD hS 10 1 (i := i) (x := nI 0) rfl rfl (by omega) (by decide) (by first | rfl | exact bI_vp _) dX0_markClosed_11 (fun H locs hP hD hS => ?_)
        have hP : va_P D vwCl [(a 0, .inr (0, [.ref (a 1), .ref (a 2), .ref (a 3), .ref (a 4), .ref (a 5), .ref (a 6), .ref (a 7), .ref (a 8), .ref (a 9), .int (nI (kN S))])), (a 1, .inl (cI, 100, .inl (kKd S))), (a 2, .inl (cI, 100, .inl (kPc S))), (a 3, .inl (cI, 100, .inl (kSd S))), (a 4, .inl (cI, 100, .inl (kSt S))), (a 5, .inl (cI, 100, .inl (kEn S))), (a 6, .inl (cI, 100, .inl (kXs S))), (a 7, .inl (cI, 100, .inl (kAn S))), (a 8, .inl (cI, 100, .inl (kWd S))), (a 9, .inl (cZ, 20, .inl (kIc S))), (b, .inl (cZ, 120, .inl (upd (zfil rw0 i) i (nI 0))))] H := hP
        have hD : va_D (xA (wK a cI cZ S ++ [(b, .inl (cZ, 120, .inl (rw0)))])) [(a 0, .inr (0, [.ref (a 1), .ref (a 2), .ref (a 3), .ref (a 4), .ref (a 5), .ref (a 6), .ref (a 7), .ref (a 8), .ref (a 9), .int (nI (kN S))])), (a 1, .inl (cI, 100, .inl (kKd S))), (a 2, .inl (cI, 100, .inl (kPc S))), (a 3, .inl (cI, 100, .inl (kSd S))), (a 4, .inl (cI, 100, .inl (kSt S))), (a 5, .inl (cI, 100, .inl (kEn S))), (a 6, .inl (cI, 100, .inl (kXs S))), (a 7, .inl (cI, 100, .inl (kAn S))), (a 8, .inl (cI, 100, .inl (kWd S))), (a 9, .inl (cZ, 20, .inl (kIc S))), (b, .inl (cZ, 120, .inl (upd (zfil rw0 i) i (nI 0))))] := hD
        refine lv_iinc (v := nI (i + 1)) (lv' := [(3, .int (nI (i + 1))), (0, .ref (a 0)), (1, .ref (b)), (2, .int (t))]) hx hb dX0_markClosed_12 hl (k := 3) rfl (nI_1 _) (by decide) rfl (fun ls hl => ?_)
        refine lv_goto (tgt := 2) hx hb dX0_markClosed_15 (by decide) ?_
        exact ih2 (i + 1) (by omega) (by omega) _ _ (by rw [zfil_s] at hP; exact hP) (xD_addr hD rfl) hS ls (lv_sub hl [1, 2, 3, 0] rfl)
  refine lv_iconst (v := nI 0) hx hb dX0_markClosed_0 (by decide) ?_
  refine lv_istore_n (lv' := [(3, .int (nI 0)), (0, .ref (a 0)), (1, .ref (b)), (2, .int (t))]) hx hb dX0_markClosed_1 rfl hl (by decide) rfl (fun ls hl => ?_)
  exact L2 121 0 (by omega) (by omega) _ _ (xP_congr (w2 := []) (g := zfil rw0 0) (fun j hj => by unfold zfil; rw [if_neg (by omega)]) hP) (xD_addr hD rfl) hS ls (lv_sub hl [1, 2, 3, 0] rfl)
