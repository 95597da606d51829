theorem kS_X4_57 : xcS RX4 57 yX4_in cX4_in 3 (some .boolean) 3 := ⟨wd637, wd635, wd636, wd25, ⟨by decide +kernel, by decide +kernel, by decide +kernel⟩⟩
theorem kV_X4_65 : xcV RX4 RX4 65 yX4_isOn cX4_isOn 4 (some .boolean) 3 := ⟨wd663, wd660, wd662, wd15, wd25, rfl, ⟨by decide +kernel, by decide +kernel, by decide +kernel⟩⟩
theorem kV_X4_68 : xcV RX4 RX4 68 yX4_holds cX4_holds 4 (some .boolean) 2 := ⟨wd667, wd664, wd666, wd16, wd25, rfl, ⟨by decide +kernel, by decide +kernel, by decide +kernel⟩⟩
set_option maxHeartbeats 4000000 in
set_option maxRecDepth 100000 in
theorem r_X4_in (l : Launch) (D : va_G) (v lo hi : Int32) : xRO l yX4_in cX4_in 3 (some .boolean) (xrm 0 0) [.int (v), .int (lo), .int (hi)] D [] [] (bI (inI v lo hi)) := by
  refine xRO.of (by decide +kernel) (Nat.le_of_ble_eq_true rfl) ?_
  intro p e s m args below meth cd hx hb hr hml hown hlocks ht hN hP hK ls hl
  have hl : lv_has ls 3 [(0, .int (v)), (1, .int (lo)), (2, .int (hi))] := hl
  have hown : s.vm.findClass RX4 = some m.cls := hown
  refine lv_iload_n hx hb dX4_in_0 rfl (lv_at hl 0 rfl) ?_
  refine lv_iload_n hx hb dX4_in_1 rfl (lv_at hl 1 rfl) ?_
  refine lv_icmp_lt (tgt := 14) hx hb dX4_in_2 (by decide) (fun h_2 => ?_) (fun h_2 => ?_)
  · skip
    refine lv_iconst (v := nI 0) hx hb dX4_in_14 (by decide) ?_
    exact xr_zret (v := nI 0) hx hb hr hlocks (by first | rfl | exact bI_nar _) (bI_0 (by unfold inI; first | (rw [decide_eq_true h_2]; rfl) | (rw [decide_eq_true h_7, Bool.not_true, Bool.and_false]))) dX4_in_15
  · skip
    refine lv_iload_n hx hb dX4_in_5 rfl (lv_at hl 0 rfl) ?_
    refine lv_iload_n hx hb dX4_in_6 rfl (lv_at hl 2 rfl) ?_
    refine lv_icmp_gt (tgt := 14) hx hb dX4_in_7 (by decide) (fun h_7 => ?_) (fun h_7 => ?_)
    · skip
      refine lv_iconst (v := nI 0) hx hb dX4_in_14 (by decide) ?_
      exact xr_zret (v := nI 0) hx hb hr hlocks (by first | rfl | exact bI_nar _) (bI_0 (by unfold inI; first | (rw [decide_eq_true h_2]; rfl) | (rw [decide_eq_true h_7, Bool.not_true, Bool.and_false]))) dX4_in_15
    · skip
      refine lv_iconst (v := nI 1) hx hb dX4_in_10 (by decide) ?_
      refine lv_goto (tgt := 15) hx hb dX4_in_11 (by decide) ?_
      exact xr_zret (v := nI 1) hx hb hr hlocks (by first | rfl | exact bI_nar _) (bI_1 (by unfold inI; rw [decide_eq_false h_2, decide_eq_false h_7]; rfl)) dX4_in_15
set_option maxHeartbeats 4000000 in
set_option maxRecDepth 100000 in
theorem r_X4_isPiece (l : Launch) (D : va_G) (v : Int32) : xRO l yX4_isPiece cX4_isPiece 1 (some .boolean) (xrm 1 22) [.int (v)] D [] [] (bI (inI v (nI 0) (nI 59))) := by
  refine xRO.of (by decide +kernel) (Nat.le_of_ble_eq_true rfl) ?_
  intro p e s m args below meth cd hx hb hr hml hown hlocks ht hN hP hK ls hl
  have hl : lv_has ls 1 [(0, .int (v))] := hl
  have hown : s.vm.findClass RX4 = some m.cls := hown
  refine lv_iload_n hx hb dX4_isPiece_0 rfl (lv_at hl 0 rfl) ?_
  refine lv_iconst (v := nI 0) hx hb dX4_isPiece_1 (by decide) ?_
  refine lv_bipush (v := nI 59) hx hb dX4_isPiece_2 (by decide) ?_
  refine xrS (As := [.int (v), .int (nI 0), .int (nI 59)]) (rest := []) hx hb hml hown ht hN kS_X4_57 (r_X4_in l D v (nI 0) (nI 59)) ⟨by decide, by decide⟩ hP hK rfl hl.1 rfl (Nat.le_of_ble_eq_true rfl) dX4_isPiece_4 ⟨Nat.zero_le _, Nat.zero_le _⟩ ?_
  exact xr_zret (v := bI (inI v (nI 0) (nI 59))) hx hb hr hlocks (by first | rfl | exact bI_nar _) (rfl) dX4_isPiece_7
set_option maxHeartbeats 4000000 in
set_option maxRecDepth 100000 in
theorem r_X4_isSide (l : Launch) (D : va_G) (v : Int32) : xRO l yX4_isSide cX4_isSide 1 (some .boolean) (xrm 1 22) [.int (v)] D [] [] (bI (inI v (nI 1) (nI 2))) := by
  refine xRO.of (by decide +kernel) (Nat.le_of_ble_eq_true rfl) ?_
  intro p e s m args below meth cd hx hb hr hml hown hlocks ht hN hP hK ls hl
  have hl : lv_has ls 1 [(0, .int (v))] := hl
  have hown : s.vm.findClass RX4 = some m.cls := hown
  refine lv_iload_n hx hb dX4_isSide_0 rfl (lv_at hl 0 rfl) ?_
  refine lv_iconst (v := nI 1) hx hb dX4_isSide_1 (by decide) ?_
  refine lv_iconst (v := nI 2) hx hb dX4_isSide_2 (by decide) ?_
  refine xrS (As := [.int (v), .int (nI 1), .int (nI 2)]) (rest := []) hx hb hml hown ht hN kS_X4_57 (r_X4_in l D v (nI 1) (nI 2)) ⟨by decide, by decide⟩ hP hK rfl hl.1 rfl (Nat.le_of_ble_eq_true rfl) dX4_isSide_3 ⟨Nat.zero_le _, Nat.zero_le _⟩ ?_
  exact xr_zret (v := bI (inI v (nI 1) (nI 2))) hx hb hr hlocks (by first | rfl | exact bI_nar _) (rfl) dX4_isSide_6
set_option maxHeartbeats 4000000 in
set_option maxRecDepth 100000 in
theorem r_X4_isMinute (l : Launch) (D : va_G) (v : Int32) : xRO l yX4_isMinute cX4_isMinute 1 (some .boolean) (xrm 1 22) [.int (v)] D [] [] (bI (inI v (nI 0) (nI 99999))) := by
  refine xRO.of (by decide +kernel) (Nat.le_of_ble_eq_true rfl) ?_
  intro p e s m args below meth cd hx hb hr hml hown hlocks ht hN hP hK ls hl
  have hl : lv_has ls 1 [(0, .int (v))] := hl
  have hown : s.vm.findClass RX4 = some m.cls := hown
  refine lv_iload_n hx hb dX4_isMinute_0 rfl (lv_at hl 0 rfl) ?_
  refine lv_iconst (v := nI 0) hx hb dX4_isMinute_1 (by decide) ?_
  refine lv_ldc (v := nI 99999) hx hb hown (ht _ wd644) dX4_isMinute_2 ?_
  refine xrS (As := [.int (v), .int (nI 0), .int (nI 99999)]) (rest := []) hx hb hml hown ht hN kS_X4_57 (r_X4_in l D v (nI 0) (nI 99999)) ⟨by decide, by decide⟩ hP hK rfl hl.1 rfl (Nat.le_of_ble_eq_true rfl) dX4_isMinute_4 ⟨Nat.zero_le _, Nat.zero_le _⟩ ?_
  exact xr_zret (v := bI (inI v (nI 0) (nI 99999))) hx hb hr hlocks (by first | rfl | exact bI_nar _) (rfl) dX4_isMinute_7
set_option maxHeartbeats 4000000 in
set_option maxRecDepth 100000 in
theorem r_X4_isNumber (l : Launch) (D : va_G) (k x : Int32) : xRO l yX4_isNumber cX4_isNumber 2 (some .boolean) (xrm 1 22) [.int (k), .int (x)] D [] [] (bI (numM k x)) := by
  refine xRO.of (by decide +kernel) (Nat.le_of_ble_eq_true rfl) ?_
  intro p e s m args below meth cd hx hb hr hml hown hlocks ht hN hP hK ls hl
  have hl : lv_has ls 2 [(0, .int (k)), (1, .int (x))] := hl
  have hown : s.vm.findClass RX4 = some m.cls := hown
  refine lv_iload_n hx hb dX4_isNumber_0 rfl (lv_at hl 0 rfl) ?_
  refine lv_iconst (v := nI 4) hx hb dX4_isNumber_1 (by decide) ?_
  refine lv_icmp_ne (tgt := 39) hx hb dX4_isNumber_2 (by decide) (fun h_2 => ?_) (fun h_2 => ?_)
  · skip
    refine lv_iload_n hx hb dX4_isNumber_39 rfl (lv_at hl 0 rfl) ?_
    refine lv_iconst (v := nI 5) hx hb dX4_isNumber_40 (by decide) ?_
    refine lv_icmp_ne (tgt := 54) hx hb dX4_isNumber_41 (by decide) (fun h_41 => ?_) (fun h_41 => ?_)
    · skip
      refine lv_iconst (v := nI 1) hx hb dX4_isNumber_54 (by decide) ?_
      refine lv_goto (tgt := 59) hx hb dX4_isNumber_55 (by decide) ?_
      exact xr_zret (v := nI 1) hx hb hr hlocks (by first | rfl | exact bI_nar _) (bI_1 (by unfold numM; rw [if_neg h_2]; first | (rw [decide_eq_false h_41]; rfl) | (rw [bI_t h_51, Bool.or_true]; done))) dX4_isNumber_59
    · skip
      refine lv_iload_n hx hb dX4_isNumber_44 rfl (lv_at hl 1 rfl) ?_
      refine lv_iconst (v := nI 1) hx hb dX4_isNumber_45 (by decide) ?_
      refine lv_bipush (v := nI 99) hx hb dX4_isNumber_46 (by decide) ?_
      refine xrS (As := [.int (x), .int (nI 1), .int (nI 99)]) (rest := []) hx hb hml hown ht hN kS_X4_57 (r_X4_in l D x (nI 1) (nI 99)) ⟨by decide, by decide⟩ hP hK rfl hl.1 rfl (Nat.le_of_ble_eq_true rfl) dX4_isNumber_48 ⟨Nat.zero_le _, Nat.zero_le _⟩ ?_
      refine lv_if_eq (tgt := 58) hx hb dX4_isNumber_51 (by decide) (fun h_51 => ?_) (fun h_51 => ?_)
      · skip
        refine lv_iconst (v := nI 0) hx hb dX4_isNumber_58 (by decide) ?_
        exact xr_zret (v := nI 0) hx hb hr hlocks (by first | rfl | exact bI_nar _) (bI_0 (by unfold numM; rw [if_neg h_2, decide_eq_true h_41, bI_f h_51]; rfl)) dX4_isNumber_59
      · skip
        refine lv_iconst (v := nI 1) hx hb dX4_isNumber_54 (by decide) ?_
        refine lv_goto (tgt := 59) hx hb dX4_isNumber_55 (by decide) ?_
        exact xr_zret (v := nI 1) hx hb hr hlocks (by first | rfl | exact bI_nar _) (bI_1 (by unfold numM; rw [if_neg h_2]; first | (rw [decide_eq_false h_41]; rfl) | (rw [bI_t h_51, Bool.or_true]; done))) dX4_isNumber_59
  · skip
    refine lv_iload_n hx hb dX4_isNumber_5 rfl (lv_at hl 1 rfl) ?_
    refine lv_bipush (v := nI 100) hx hb dX4_isNumber_6 (by decide) ?_
    refine lv_idiv hx hb dX4_isNumber_8 (by decide) ?_
    refine lv_iconst (v := nI 1) hx hb dX4_isNumber_9 (by decide) ?_
    refine lv_bipush (v := nI 99) hx hb dX4_isNumber_10 (by decide) ?_
    refine xrS (As := [.int ((x) / (nI 100)), .int (nI 1), .int (nI 99)]) (rest := []) hx hb hml hown ht hN kS_X4_57 (r_X4_in l D (x / nI 100) (nI 1) (nI 99)) ⟨by decide, by decide⟩ hP hK rfl hl.1 rfl (Nat.le_of_ble_eq_true rfl) dX4_isNumber_12 ⟨Nat.zero_le _, Nat.zero_le _⟩ ?_
    refine lv_if_eq (tgt := 37) hx hb dX4_isNumber_15 (by decide) (fun h_15 => ?_) (fun h_15 => ?_)
    · skip
      refine lv_iconst (v := nI 0) hx hb dX4_isNumber_37 (by decide) ?_
      exact xr_zret (v := nI 0) hx hb hr hlocks (by first | rfl | exact bI_nar _) (bI_0 (by unfold numM; rw [if_pos h_2]; first | (rw [bI_f h_15]; rfl) | (rw [decide_eq_true h_19, Bool.not_true, Bool.false_and, Bool.and_false]; done) | (rw [decide_eq_true h_30, Bool.not_true, Bool.and_false, Bool.and_false]; done))) dX4_isNumber_38
    · skip
      refine lv_iload_n hx hb dX4_isNumber_18 rfl (lv_at hl 1 rfl) ?_
      refine lv_if_lt (tgt := 37) hx hb dX4_isNumber_19 (by decide) (fun h_19 => ?_) (fun h_19 => ?_)
      · skip
        refine lv_iconst (v := nI 0) hx hb dX4_isNumber_37 (by decide) ?_
        exact xr_zret (v := nI 0) hx hb hr hlocks (by first | rfl | exact bI_nar _) (bI_0 (by unfold numM; rw [if_pos h_2]; first | (rw [bI_f h_15]; rfl) | (rw [decide_eq_true h_19, Bool.not_true, Bool.false_and, Bool.and_false]; done) | (rw [decide_eq_true h_30, Bool.not_true, Bool.and_false, Bool.and_false]; done))) dX4_isNumber_38
      · skip
        refine lv_iload_n hx hb dX4_isNumber_22 rfl (lv_at hl 1 rfl) ?_
        refine lv_bipush (v := nI 100) hx hb dX4_isNumber_23 (by decide) ?_
        refine lv_irem hx hb dX4_isNumber_25 (by decide) ?_
        refine lv_iload_n hx hb dX4_isNumber_26 rfl (lv_at hl 1 rfl) ?_
        refine lv_bipush (v := nI 100) hx hb dX4_isNumber_27 (by decide) ?_
        refine lv_idiv hx hb dX4_isNumber_29 (by decide) ?_
        refine lv_icmp_gt (tgt := 37) hx hb dX4_isNumber_30 (by decide) (fun h_30 => ?_) (fun h_30 => ?_)
        · skip
          refine lv_iconst (v := nI 0) hx hb dX4_isNumber_37 (by decide) ?_
          exact xr_zret (v := nI 0) hx hb hr hlocks (by first | rfl | exact bI_nar _) (bI_0 (by unfold numM; rw [if_pos h_2]; first | (rw [bI_f h_15]; rfl) | (rw [decide_eq_true h_19, Bool.not_true, Bool.false_and, Bool.and_false]; done) | (rw [decide_eq_true h_30, Bool.not_true, Bool.and_false, Bool.and_false]; done))) dX4_isNumber_38
        · skip
          refine lv_iconst (v := nI 1) hx hb dX4_isNumber_33 (by decide) ?_
          refine lv_goto (tgt := 38) hx hb dX4_isNumber_34 (by decide) ?_
          exact xr_zret (v := nI 1) hx hb hr hlocks (by first | rfl | exact bI_nar _) (bI_1 (by unfold numM; rw [if_pos h_2, bI_t h_15, decide_eq_false h_19, decide_eq_false h_30]; rfl)) dX4_isNumber_38
set_option maxHeartbeats 4000000 in
set_option maxRecDepth 100000 in
theorem r_X4_thrown (l : Launch) (D : va_G) (a : Nat → Nat) (cI cZ : ClassId) (M : MS) : xRO l yX4_thrown cX4_thrown 1 (some .int) (xrm 0 0) [.ref (a 0)] D (wM a cI cZ M) (tyL cI cZ) (sE M) := by
  refine xRO.of (by decide +kernel) (Nat.le_of_ble_eq_true rfl) ?_
  intro p e s m args below meth cd hx hb hr hml hown hlocks ht hN hP hK ls hl
  have hl : lv_has ls 1 [(0, .ref (a 0))] := hl
  have hown : s.vm.findClass RX4 = some m.cls := hown
  refine lv_aload_n hx hb dX4_thrown_0 rfl (lv_at hl 0 rfl) ?_
  refine va_get (D := D) (ci := 4) (v := .int (sE M)) (C := RX4) (T := TX4) (N := 18) hx hb ht inX4 hown hK hP 0 rfl rfl 0 (by decide) (ht _ wd572) (fun _ h9 => h9) rfl dX4_thrown_1 ?_
  exact xr_iret (v := sE M) hx hb hr hlocks (rfl) dX4_thrown_4
set_option maxHeartbeats 4000000 in
set_option maxRecDepth 100000 in
theorem r_X4_isClosure (l : Launch) (D : va_G) (a : Nat → Nat) (cI cZ : ClassId) (M : MS) (i : Int32) : xRO l yX4_isClosure cX4_isClosure 2 (some .boolean) (xrm 1 22) [.ref (a 0), .int (i)] D (wM a cI cZ M) (tyL cI cZ) (bI (inI i (nI 0) (nI (mN (sK M)) - nI 1))) := by
  refine xRO.of (by decide +kernel) (Nat.le_of_ble_eq_true rfl) ?_
  intro p e s m args below meth cd hx hb hr hml hown hlocks ht hN hP hK ls hl
  have hl : lv_has ls 2 [(0, .ref (a 0)), (1, .int (i))] := hl
  have hown : s.vm.findClass RX4 = some m.cls := hown
  refine lv_iload_n hx hb dX4_isClosure_0 rfl (lv_at hl 1 rfl) ?_
  refine lv_iconst (v := nI 0) hx hb dX4_isClosure_1 (by decide) ?_
  refine lv_aload_n hx hb dX4_isClosure_2 rfl (lv_at hl 0 rfl) ?_
  refine va_get (D := D) (ci := 4) (v := .int (nI (mN (sK M)))) (C := RX4) (T := TX4) (N := 18) hx hb ht inX4 hown hK hP 0 rfl rfl 2 (by decide) (ht _ wd574) (fun _ h9 => h9) rfl dX4_isClosure_3 ?_
  refine lv_iconst (v := nI 1) hx hb dX4_isClosure_6 (by decide) ?_
  refine lv_isub hx hb dX4_isClosure_7 ?_
  refine xrS (As := [.int (i), .int (nI 0), .int ((nI (mN (sK M))) - (nI 1))]) (rest := []) hx hb hml hown ht hN kS_X4_57 (r_X4_in l D i (nI 0) (nI (mN (sK M)) - nI 1)) ⟨by decide, by decide⟩ (fun k q h => by simp at h) (hK.sub (tys' := []) [] rfl) rfl hl.1 rfl (Nat.le_of_ble_eq_true rfl) dX4_isClosure_8 ⟨Nat.zero_le _, Nat.zero_le _⟩ ?_
  exact xr_zret (v := bI (inI i (nI 0) (nI (mN (sK M)) - nI 1))) hx hb hr hlocks (by first | rfl | exact bI_nar _) (rfl) dX4_isClosure_11
set_option maxHeartbeats 4000000 in
set_option maxRecDepth 100000 in
theorem r_X4_holds (l : Launch) (D : va_G) (a : Nat → Nat) (cI cZ : ClassId) (M : MS) (hO : mOk (sK M)) (c : Nat) (hc : c < mN (sK M)) (t : Int32) : xRO l yX4_holds cX4_holds 4 (some .boolean) (xrm 0 0) [.ref (a 0), .int (nI c), .int (t)] D (wM a cI cZ M) (tyL cI cZ) (bI (holdsM (sK M) c t)) := by
  refine xRO.of (by decide +kernel) (Nat.le_of_ble_eq_true rfl) ?_
  intro p e s m args below meth cd hx hb hr hml hown hlocks ht hN hP hK ls hl
  have hl : lv_has ls 4 [(0, .ref (a 0)), (1, .int (nI c)), (2, .int (t))] := hl
  have hown : s.vm.findClass RX4 = some m.cls := hown
  have hn := hO.1
  refine lv_aload_n hx hb dX4_holds_0 rfl (lv_at hl 0 rfl) ?_
  refine va_get (D := D) (ci := 4) (v := .ref (a 1)) (C := RX4) (T := TX4) (N := 18) hx hb ht inX4 hown hK hP 0 rfl rfl 3 (by decide) (ht _ wd575) (fun _ h9 => h9) rfl dX4_holds_1 ?_
  refine lv_iload_n hx hb dX4_holds_4 rfl (lv_at hl 1 rfl) ?_
  refine xa_iald hx hb hK hP 1 0 (i := c) rfl rfl (by omega) (by decide) dX4_holds_5 ?_
  refine lv_istore_n (lv' := [(3, .int ((mKd (sK M)) c)), (0, .ref (a 0)), (1, .int (nI c)), (2, .int (t))]) hx hb dX4_holds_6 rfl hl (by decide) rfl (fun ls hl => ?_)
  refine lv_iload_n hx hb dX4_holds_7 rfl (lv_at hl 3 rfl) ?_
  refine lv_aload_n hx hb dX4_holds_8 rfl (lv_at hl 1 rfl) ?_
  refine va_get (D := D) (ci := 4) (v := .ref (a 4)) (C := RX4) (T := TX4) (N := 18) hx hb ht inX4 hown hK hP 0 rfl rfl 6 (by decide) (ht _ wd578) (fun _ h9 => h9) rfl dX4_holds_9 ?_
  refine lv_iload_n hx hb dX4_holds_12 rfl (lv_at hl 2 rfl) ?_
  refine xa_iald hx hb hK hP 4 0 (i := c) rfl rfl (by omega) (by decide) dX4_holds_13 ?_
  refine lv_icmp_lt (tgt := 37) hx hb dX4_holds_14 (by decide) (fun h_14 => ?_) (fun h_14 => ?_)
  · skip
    refine lv_iconst (v := nI 0) hx hb dX4_holds_37 (by decide) ?_
    exact xr_zret (v := nI 0) hx hb hr hlocks (by first | rfl | exact bI_nar _) (bI_0 (by unfold holdsM; first | (rw [if_pos h_14]; done) | (rw [if_neg h_14, if_pos ⟨h_24, h_34⟩]; done))) dX4_holds_38
  · skip
    refine lv_aload_n hx hb dX4_holds_17 rfl (lv_at hl 1 rfl) ?_
    refine va_get (D := D) (ci := 4) (v := .ref (a 8)) (C := RX4) (T := TX4) (N := 18) hx hb ht inX4 hown hK hP 0 rfl rfl 10 (by decide) (ht _ wd582) (fun _ h9 => h9) rfl dX4_holds_18 ?_
    refine lv_iload_n hx hb dX4_holds_21 rfl (lv_at hl 2 rfl) ?_
    refine xa_iald hx hb hK hP 8 0 (i := c) rfl rfl (by omega) (by decide) dX4_holds_22 ?_
    refine lv_iconst (v := (-1 : Int32)) hx hb dX4_holds_23 (by decide) ?_
    refine lv_icmp_eq (tgt := 39) hx hb dX4_holds_24 (by decide) (fun h_24 => ?_) (fun h_24 => ?_)
    · skip
      have hl9 : ¬ (¬ mLi (sK M) c = (-1 : Int32) ∧ ¬ t < mLi (sK M) c) := by first | exact fun z => z.1 h_24 | exact fun z => z.2 h_34
      refine lv_iload_n hx hb dX4_holds_39 rfl (lv_at hl 0 rfl) ?_
      refine lv_iconst (v := nI 2) hx hb dX4_holds_40 (by decide) ?_
      refine lv_icmp_ne (tgt := 56) hx hb dX4_holds_41 (by decide) (fun h_41 => ?_) (fun h_41 => ?_)
      · skip
        refine lv_iload_n hx hb dX4_holds_56 rfl (lv_at hl 0 rfl) ?_
        refine lv_iconst (v := nI 3) hx hb dX4_holds_57 (by decide) ?_
        refine lv_icmp_ne (tgt := 63) hx hb dX4_holds_58 (by decide) (fun h_58 => ?_) (fun h_58 => ?_)
        · skip
          refine lv_iload_n hx hb dX4_holds_63 rfl (lv_at hl 3 rfl) ?_
          refine lv_aload_n hx hb dX4_holds_64 rfl (lv_at hl 1 rfl) ?_
          refine va_get (D := D) (ci := 4) (v := .ref (a 5)) (C := RX4) (T := TX4) (N := 18) hx hb ht inX4 hown hK hP 0 rfl rfl 7 (by decide) (ht _ wd579) (fun _ h9 => h9) rfl dX4_holds_65 ?_
          refine lv_iload_n hx hb dX4_holds_68 rfl (lv_at hl 2 rfl) ?_
          refine xa_iald hx hb hK hP 5 0 (i := c) rfl rfl (by omega) (by decide) dX4_holds_69 ?_
          refine lv_icmp_ge (tgt := 88) hx hb dX4_holds_70 (by decide) (fun h_70 => ?_) (fun h_70 => ?_)
          · skip
            refine lv_iconst (v := nI 0) hx hb dX4_holds_88 (by decide) ?_
            exact xr_zret (v := nI 0) hx hb hr hlocks (by first | rfl | exact bI_nar _) (bI_0 (by unfold holdsM; rw [if_neg h_14, if_neg hl9, if_neg h_41, if_neg h_58]; first | (rw [if_pos h_70]; done) | (rw [if_neg h_70, if_pos ⟨h_75, h_85⟩]; done))) dX4_holds_89
          · skip
            refine lv_iload_n hx hb dX4_holds_73 rfl (lv_at hl 0 rfl) ?_
            refine lv_iconst (v := nI 1) hx hb dX4_holds_74 (by decide) ?_
            refine lv_icmp_ne (tgt := 90) hx hb dX4_holds_75 (by decide) (fun h_75 => ?_) (fun h_75 => ?_)
            · skip
              refine lv_iload_n hx hb dX4_holds_90 rfl (lv_at hl 0 rfl) ?_
              refine lv_iconst (v := nI 4) hx hb dX4_holds_91 (by decide) ?_
              refine lv_icmp_ne (tgt := 125) hx hb dX4_holds_92 (by decide) (fun h_92 => ?_) (fun h_92 => ?_)
              · skip
                refine lv_iconst (v := nI 1) hx hb dX4_holds_125 (by decide) ?_
                refine lv_goto (tgt := 130) hx hb dX4_holds_126 (by decide) ?_
                exact xr_zret (v := nI 1) hx hb hr hlocks (by first | rfl | exact bI_nar _) (bI_1 (by unfold holdsM; rw [if_neg h_14, if_neg hl9, if_neg h_41, if_neg h_58, if_neg h_70, if_neg (by first | exact fun z => h_75 z.1 | exact fun z => z.2 h_85)]; first | (rw [if_neg h_92]; done) | (rw [if_pos h_92, decide_eq_false h_122]; rfl))) dX4_holds_130
              · skip
                refine lv_iload_n hx hb dX4_holds_95 rfl (lv_at hl 3 rfl) ?_
                refine lv_aload_n hx hb dX4_holds_96 rfl (lv_at hl 1 rfl) ?_
                refine va_get (D := D) (ci := 4) (v := .ref (a 4)) (C := RX4) (T := TX4) (N := 18) hx hb ht inX4 hown hK hP 0 rfl rfl 6 (by decide) (ht _ wd578) (fun _ h9 => h9) rfl dX4_holds_97 ?_
                refine lv_iload_n hx hb dX4_holds_100 rfl (lv_at hl 2 rfl) ?_
                refine xa_iald hx hb hK hP 4 0 (i := c) rfl rfl (by omega) (by decide) dX4_holds_101 ?_
                refine lv_isub hx hb dX4_holds_102 ?_
                refine lv_aload_n hx hb dX4_holds_103 rfl (lv_at hl 1 rfl) ?_
                refine va_get (D := D) (ci := 4) (v := .ref (a 6)) (C := RX4) (T := TX4) (N := 18) hx hb ht inX4 hown hK hP 0 rfl rfl 8 (by decide) (ht _ wd580) (fun _ h9 => h9) rfl dX4_holds_104 ?_
                refine lv_iload_n hx hb dX4_holds_107 rfl (lv_at hl 2 rfl) ?_
                refine xa_iald hx hb hK hP 6 0 (i := c) rfl rfl (by omega) (by decide) dX4_holds_108 ?_
                refine lv_bipush (v := nI 100) hx hb dX4_holds_109 (by decide) ?_
                refine lv_idiv hx hb dX4_holds_111 (by decide) ?_
                refine lv_irem hx hb dX4_holds_112 ((hO.2.2 c hc).2 h_92) ?_
                refine lv_aload_n hx hb dX4_holds_113 rfl (lv_at hl 1 rfl) ?_
                refine va_get (D := D) (ci := 4) (v := .ref (a 6)) (C := RX4) (T := TX4) (N := 18) hx hb ht inX4 hown hK hP 0 rfl rfl 8 (by decide) (ht _ wd580) (fun _ h9 => h9) rfl dX4_holds_114 ?_
                refine lv_iload_n hx hb dX4_holds_117 rfl (lv_at hl 2 rfl) ?_
                refine xa_iald hx hb hK hP 6 0 (i := c) rfl rfl (by omega) (by decide) dX4_holds_118 ?_
                refine lv_bipush (v := nI 100) hx hb dX4_holds_119 (by decide) ?_
                refine lv_irem hx hb dX4_holds_121 (by decide) ?_
                refine lv_icmp_ge (tgt := 129) hx hb dX4_holds_122 (by decide) (fun h_122 => ?_) (fun h_122 => ?_)
                · skip
                  refine lv_iconst (v := nI 0) hx hb dX4_holds_129 (by decide) ?_
                  exact xr_zret (v := nI 0) hx hb hr hlocks (by first | rfl | exact bI_nar _) (bI_0 (by unfold holdsM; rw [if_neg h_14, if_neg hl9, if_neg h_41, if_neg h_58, if_neg h_70, if_neg (by first | exact fun z => h_75 z.1 | exact fun z => z.2 h_85), if_pos h_92, decide_eq_true h_122]; rfl)) dX4_holds_130
                · skip
                  refine lv_iconst (v := nI 1) hx hb dX4_holds_125 (by decide) ?_
                  refine lv_goto (tgt := 130) hx hb dX4_holds_126 (by decide) ?_
                  exact xr_zret (v := nI 1) hx hb hr hlocks (by first | rfl | exact bI_nar _) (bI_1 (by unfold holdsM; rw [if_neg h_14, if_neg hl9, if_neg h_41, if_neg h_58, if_neg h_70, if_neg (by first | exact fun z => h_75 z.1 | exact fun z => z.2 h_85)]; first | (rw [if_neg h_92]; done) | (rw [if_pos h_92, decide_eq_false h_122]; rfl))) dX4_holds_130
            · skip
              refine lv_aload_n hx hb dX4_holds_78 rfl (lv_at hl 1 rfl) ?_
              refine va_get (D := D) (ci := 4) (v := .ref (a 7)) (C := RX4) (T := TX4) (N := 18) hx hb ht inX4 hown hK hP 0 rfl rfl 9 (by decide) (ht _ wd581) (fun _ h9 => h9) rfl dX4_holds_79 ?_
              refine lv_iload_n hx hb dX4_holds_82 rfl (lv_at hl 2 rfl) ?_
              refine xa_iald hx hb hK hP 7 0 (i := c) rfl rfl (by omega) (by decide) dX4_holds_83 ?_
              refine lv_iconst (v := nI 1) hx hb dX4_holds_84 (by decide) ?_
              refine lv_icmp_eq (tgt := 90) hx hb dX4_holds_85 (by decide) (fun h_85 => ?_) (fun h_85 => ?_)
              · skip
                refine lv_iload_n hx hb dX4_holds_90 rfl (lv_at hl 0 rfl) ?_
                refine lv_iconst (v := nI 4) hx hb dX4_holds_91 (by decide) ?_
                refine lv_icmp_ne (tgt := 125) hx hb dX4_holds_92 (by decide) (fun h_92 => ?_) (fun h_92 => ?_)
                · skip
                  refine lv_iconst (v := nI 1) hx hb dX4_holds_125 (by decide) ?_
                  refine lv_goto (tgt := 130) hx hb dX4_holds_126 (by decide) ?_
                  exact xr_zret (v := nI 1) hx hb hr hlocks (by first | rfl | exact bI_nar _) (bI_1 (by unfold holdsM; rw [if_neg h_14, if_neg hl9, if_neg h_41, if_neg h_58, if_neg h_70, if_neg (by first | exact fun z => h_75 z.1 | exact fun z => z.2 h_85)]; first | (rw [if_neg h_92]; done) | (rw [if_pos h_92, decide_eq_false h_122]; rfl))) dX4_holds_130
                · skip
                  refine lv_iload_n hx hb dX4_holds_95 rfl (lv_at hl 3 rfl) ?_
                  refine lv_aload_n hx hb dX4_holds_96 rfl (lv_at hl 1 rfl) ?_
                  refine va_get (D := D) (ci := 4) (v := .ref (a 4)) (C := RX4) (T := TX4) (N := 18) hx hb ht inX4 hown hK hP 0 rfl rfl 6 (by decide) (ht _ wd578) (fun _ h9 => h9) rfl dX4_holds_97 ?_
                  refine lv_iload_n hx hb dX4_holds_100 rfl (lv_at hl 2 rfl) ?_
                  refine xa_iald hx hb hK hP 4 0 (i := c) rfl rfl (by omega) (by decide) dX4_holds_101 ?_
                  refine lv_isub hx hb dX4_holds_102 ?_
                  refine lv_aload_n hx hb dX4_holds_103 rfl (lv_at hl 1 rfl) ?_
                  refine va_get (D := D) (ci := 4) (v := .ref (a 6)) (C := RX4) (T := TX4) (N := 18) hx hb ht inX4 hown hK hP 0 rfl rfl 8 (by decide) (ht _ wd580) (fun _ h9 => h9) rfl dX4_holds_104 ?_
                  refine lv_iload_n hx hb dX4_holds_107 rfl (lv_at hl 2 rfl) ?_
                  refine xa_iald hx hb hK hP 6 0 (i := c) rfl rfl (by omega) (by decide) dX4_holds_108 ?_
                  refine lv_bipush (v := nI 100) hx hb dX4_holds_109 (by decide) ?_
                  refine lv_idiv hx hb dX4_holds_111 (by decide) ?_
                  refine lv_irem hx hb dX4_holds_112 ((hO.2.2 c hc).2 h_92) ?_
                  refine lv_aload_n hx hb dX4_holds_113 rfl (lv_at hl 1 rfl) ?_
                  refine va_get (D := D) (ci := 4) (v := .ref (a 6)) (C := RX4) (T := TX4) (N := 18) hx hb ht inX4 hown hK hP 0 rfl rfl 8 (by decide) (ht _ wd580) (fun _ h9 => h9) rfl dX4_holds_114 ?_
                  refine lv_iload_n hx hb dX4_holds_117 rfl (lv_at hl 2 rfl) ?_
                  refine xa_iald hx hb hK hP 6 0 (i := c) rfl rfl (by omega) (by decide) dX4_holds_118 ?_
                  refine lv_bipush (v := nI 100) hx hb dX4_holds_119 (by decide) ?_
                  refine lv_irem hx hb dX4_holds_121 (by decide) ?_
                  refine lv_icmp_ge (tgt := 129) hx hb dX4_holds_122 (by decide) (fun h_122 => ?_) (fun h_122 => ?_)
                  · skip
                    refine lv_iconst (v := nI 0) hx hb dX4_holds_129 (by decide) ?_
                    exact xr_zret (v := nI 0) hx hb hr hlocks (by first | rfl | exact bI_nar _) (bI_0 (by unfold holdsM; rw [if_neg h_14, if_neg hl9, if_neg h_41, if_neg h_58, if_neg h_70, if_neg (by first | exact fun z => h_75 z.1 | exact fun z => z.2 h_85), if_pos h_92, decide_eq_true h_122]; rfl)) dX4_holds_130
                  · skip
                    refine lv_iconst (v := nI 1) hx hb dX4_holds_125 (by decide) ?_
                    refine lv_goto (tgt := 130) hx hb dX4_holds_126 (by decide) ?_
                    exact xr_zret (v := nI 1) hx hb hr hlocks (by first | rfl | exact bI_nar _) (bI_1 (by unfold holdsM; rw [if_neg h_14, if_neg hl9, if_neg h_41, if_neg h_58, if_neg h_70, if_neg (by first | exact fun z => h_75 z.1 | exact fun z => z.2 h_85)]; first | (rw [if_neg h_92]; done) | (rw [if_pos h_92, decide_eq_false h_122]; rfl))) dX4_holds_130
              · skip
                refine lv_iconst (v := nI 0) hx hb dX4_holds_88 (by decide) ?_
                exact xr_zret (v := nI 0) hx hb hr hlocks (by first | rfl | exact bI_nar _) (bI_0 (by unfold holdsM; rw [if_neg h_14, if_neg hl9, if_neg h_41, if_neg h_58]; first | (rw [if_pos h_70]; done) | (rw [if_neg h_70, if_pos ⟨h_75, h_85⟩]; done))) dX4_holds_89
        · skip
          refine lv_iconst (v := nI 1) hx hb dX4_holds_61 (by decide) ?_
          have hl9 : ¬ (¬ mLi (sK M) c = (-1 : Int32) ∧ ¬ t < mLi (sK M) c) := by first | exact fun z => z.1 h_24 | exact fun z => z.2 h_34
          exact xr_zret (v := nI 1) hx hb hr hlocks (by first | rfl | exact bI_nar _) (bI_1 (by unfold holdsM; rw [if_neg h_14, if_neg hl9, if_neg h_41, if_pos h_58])) dX4_holds_62
      · skip
        obtain ⟨i, hi, ei⟩ := (hO.2.2 c hc).1 h_41
        refine lv_aload_n hx hb dX4_holds_44 rfl (lv_at hl 1 rfl) ?_
        refine va_get (D := D) (ci := 4) (v := .ref (a 10)) (C := RX4) (T := TX4) (N := 18) hx hb ht inX4 hown hK hP 0 rfl rfl 12 (by decide) (ht _ wd584) (fun _ h9 => h9) rfl dX4_holds_45 ?_
        refine lv_aload_n hx hb dX4_holds_48 rfl (lv_at hl 1 rfl) ?_
        refine va_get (D := D) (ci := 4) (v := .ref (a 6)) (C := RX4) (T := TX4) (N := 18) hx hb ht inX4 hown hK hP 0 rfl rfl 8 (by decide) (ht _ wd580) (fun _ h9 => h9) rfl dX4_holds_49 ?_
        refine lv_iload_n hx hb dX4_holds_52 rfl (lv_at hl 2 rfl) ?_
        refine xa_iald hx hb hK hP 6 0 (i := c) rfl rfl (by omega) (by decide) dX4_holds_53 ?_
        refine xtop (y := nI i) ei ?_
        refine xa_zald hx hb hK hP 10 1 (i := i) rfl rfl (by omega) (by decide) dX4_holds_54 ?_
        exact xr_zret (v := (mOp (sK M)) i) hx hb hr hlocks (by rcases hO.2.1 i hi with z | z <;> rw [z] <;> rfl) (by unfold holdsM; rw [if_neg h_14, if_neg hl9, if_pos h_41, ei, nI_clamp (by omega)]; rcases hO.2.1 i hi with z | z <;> rw [z] <;> rfl) dX4_holds_55
    · skip
      refine lv_iload_n hx hb dX4_holds_27 rfl (lv_at hl 3 rfl) ?_
      refine lv_aload_n hx hb dX4_holds_28 rfl (lv_at hl 1 rfl) ?_
      refine va_get (D := D) (ci := 4) (v := .ref (a 8)) (C := RX4) (T := TX4) (N := 18) hx hb ht inX4 hown hK hP 0 rfl rfl 10 (by decide) (ht _ wd582) (fun _ h9 => h9) rfl dX4_holds_29 ?_
      refine lv_iload_n hx hb dX4_holds_32 rfl (lv_at hl 2 rfl) ?_
      refine xa_iald hx hb hK hP 8 0 (i := c) rfl rfl (by omega) (by decide) dX4_holds_33 ?_
      refine lv_icmp_lt (tgt := 39) hx hb dX4_holds_34 (by decide) (fun h_34 => ?_) (fun h_34 => ?_)
      · skip
        have hl9 : ¬ (¬ mLi (sK M) c = (-1 : Int32) ∧ ¬ t < mLi (sK M) c) := by first | exact fun z => z.1 h_24 | exact fun z => z.2 h_34
        refine lv_iload_n hx hb dX4_holds_39 rfl (lv_at hl 0 rfl) ?_
        refine lv_iconst (v := nI 2) hx hb dX4_holds_40 (by decide) ?_
        refine lv_icmp_ne (tgt := 56) hx hb dX4_holds_41 (by decide) (fun h_41 => ?_) (fun h_41 => ?_)
        · skip
          refine lv_iload_n hx hb dX4_holds_56 rfl (lv_at hl 0 rfl) ?_
          refine lv_iconst (v := nI 3) hx hb dX4_holds_57 (by decide) ?_
          refine lv_icmp_ne (tgt := 63) hx hb dX4_holds_58 (by decide) (fun h_58 => ?_) (fun h_58 => ?_)
          · skip
            refine lv_iload_n hx hb dX4_holds_63 rfl (lv_at hl 3 rfl) ?_
            refine lv_aload_n hx hb dX4_holds_64 rfl (lv_at hl 1 rfl) ?_
            refine va_get (D := D) (ci := 4) (v := .ref (a 5)) (C := RX4) (T := TX4) (N := 18) hx hb ht inX4 hown hK hP 0 rfl rfl 7 (by decide) (ht _ wd579) (fun _ h9 => h9) rfl dX4_holds_65 ?_
            refine lv_iload_n hx hb dX4_holds_68 rfl (lv_at hl 2 rfl) ?_
            refine xa_iald hx hb hK hP 5 0 (i := c) rfl rfl (by omega) (by decide) dX4_holds_69 ?_
            refine lv_icmp_ge (tgt := 88) hx hb dX4_holds_70 (by decide) (fun h_70 => ?_) (fun h_70 => ?_)
            · skip
              refine lv_iconst (v := nI 0) hx hb dX4_holds_88 (by decide) ?_
              exact xr_zret (v := nI 0) hx hb hr hlocks (by first | rfl | exact bI_nar _) (bI_0 (by unfold holdsM; rw [if_neg h_14, if_neg hl9, if_neg h_41, if_neg h_58]; first | (rw [if_pos h_70]; done) | (rw [if_neg h_70, if_pos ⟨h_75, h_85⟩]; done))) dX4_holds_89
            · skip
              refine lv_iload_n hx hb dX4_holds_73 rfl (lv_at hl 0 rfl) ?_
              refine lv_iconst (v := nI 1) hx hb dX4_holds_74 (by decide) ?_
              refine lv_icmp_ne (tgt := 90) hx hb dX4_holds_75 (by decide) (fun h_75 => ?_) (fun h_75 => ?_)
              · skip
                refine lv_iload_n hx hb dX4_holds_90 rfl (lv_at hl 0 rfl) ?_
                refine lv_iconst (v := nI 4) hx hb dX4_holds_91 (by decide) ?_
                refine lv_icmp_ne (tgt := 125) hx hb dX4_holds_92 (by decide) (fun h_92 => ?_) (fun h_92 => ?_)
                · skip
                  refine lv_iconst (v := nI 1) hx hb dX4_holds_125 (by decide) ?_
                  refine lv_goto (tgt := 130) hx hb dX4_holds_126 (by decide) ?_
                  exact xr_zret (v := nI 1) hx hb hr hlocks (by first | rfl | exact bI_nar _) (bI_1 (by unfold holdsM; rw [if_neg h_14, if_neg hl9, if_neg h_41, if_neg h_58, if_neg h_70, if_neg (by first | exact fun z => h_75 z.1 | exact fun z => z.2 h_85)]; first | (rw [if_neg h_92]; done) | (rw [if_pos h_92, decide_eq_false h_122]; rfl))) dX4_holds_130
                · skip
                  refine lv_iload_n hx hb dX4_holds_95 rfl (lv_at hl 3 rfl) ?_
                  refine lv_aload_n hx hb dX4_holds_96 rfl (lv_at hl 1 rfl) ?_
                  refine va_get (D := D) (ci := 4) (v := .ref (a 4)) (C := RX4) (T := TX4) (N := 18) hx hb ht inX4 hown hK hP 0 rfl rfl 6 (by decide) (ht _ wd578) (fun _ h9 => h9) rfl dX4_holds_97 ?_
                  refine lv_iload_n hx hb dX4_holds_100 rfl (lv_at hl 2 rfl) ?_
                  refine xa_iald hx hb hK hP 4 0 (i := c) rfl rfl (by omega) (by decide) dX4_holds_101 ?_
                  refine lv_isub hx hb dX4_holds_102 ?_
                  refine lv_aload_n hx hb dX4_holds_103 rfl (lv_at hl 1 rfl) ?_
                  refine va_get (D := D) (ci := 4) (v := .ref (a 6)) (C := RX4) (T := TX4) (N := 18) hx hb ht inX4 hown hK hP 0 rfl rfl 8 (by decide) (ht _ wd580) (fun _ h9 => h9) rfl dX4_holds_104 ?_
                  refine lv_iload_n hx hb dX4_holds_107 rfl (lv_at hl 2 rfl) ?_
                  refine xa_iald hx hb hK hP 6 0 (i := c) rfl rfl (by omega) (by decide) dX4_holds_108 ?_
                  refine lv_bipush (v := nI 100) hx hb dX4_holds_109 (by decide) ?_
                  refine lv_idiv hx hb dX4_holds_111 (by decide) ?_
                  refine lv_irem hx hb dX4_holds_112 ((hO.2.2 c hc).2 h_92) ?_
                  refine lv_aload_n hx hb dX4_holds_113 rfl (lv_at hl 1 rfl) ?_
                  refine va_get (D := D) (ci := 4) (v := .ref (a 6)) (C := RX4) (T := TX4) (N := 18) hx hb ht inX4 hown hK hP 0 rfl rfl 8 (by decide) (ht _ wd580) (fun _ h9 => h9) rfl dX4_holds_114 ?_
                  refine lv_iload_n hx hb dX4_holds_117 rfl (lv_at hl 2 rfl) ?_
                  refine xa_iald hx hb hK hP 6 0 (i := c) rfl rfl (by omega) (by decide) dX4_holds_118 ?_
                  refine lv_bipush (v := nI 100) hx hb dX4_holds_119 (by decide) ?_
                  refine lv_irem hx hb dX4_holds_121 (by decide) ?_
                  refine lv_icmp_ge (tgt := 129) hx hb dX4_holds_122 (by decide) (fun h_122 => ?_) (fun h_122 => ?_)
                  · skip
                    refine lv_iconst (v := nI 0) hx hb dX4_holds_129 (by decide) ?_
                    exact xr_zret (v := nI 0) hx hb hr hlocks (by first | rfl | exact bI_nar _) (bI_0 (by unfold holdsM; rw [if_neg h_14, if_neg hl9, if_neg h_41, if_neg h_58, if_neg h_70, if_neg (by first | exact fun z => h_75 z.1 | exact fun z => z.2 h_85), if_pos h_92, decide_eq_true h_122]; rfl)) dX4_holds_130
                  · skip
                    refine lv_iconst (v := nI 1) hx hb dX4_holds_125 (by decide) ?_
                    refine lv_goto (tgt := 130) hx hb dX4_holds_126 (by decide) ?_
                    exact xr_zret (v := nI 1) hx hb hr hlocks (by first | rfl | exact bI_nar _) (bI_1 (by unfold holdsM; rw [if_neg h_14, if_neg hl9, if_neg h_41, if_neg h_58, if_neg h_70, if_neg (by first | exact fun z => h_75 z.1 | exact fun z => z.2 h_85)]; first | (rw [if_neg h_92]; done) | (rw [if_pos h_92, decide_eq_false h_122]; rfl))) dX4_holds_130
              · skip
                refine lv_aload_n hx hb dX4_holds_78 rfl (lv_at hl 1 rfl) ?_
                refine va_get (D := D) (ci := 4) (v := .ref (a 7)) (C := RX4) (T := TX4) (N := 18) hx hb ht inX4 hown hK hP 0 rfl rfl 9 (by decide) (ht _ wd581) (fun _ h9 => h9) rfl dX4_holds_79 ?_
                refine lv_iload_n hx hb dX4_holds_82 rfl (lv_at hl 2 rfl) ?_
                refine xa_iald hx hb hK hP 7 0 (i := c) rfl rfl (by omega) (by decide) dX4_holds_83 ?_
                refine lv_iconst (v := nI 1) hx hb dX4_holds_84 (by decide) ?_
                refine lv_icmp_eq (tgt := 90) hx hb dX4_holds_85 (by decide) (fun h_85 => ?_) (fun h_85 => ?_)
                · skip
                  refine lv_iload_n hx hb dX4_holds_90 rfl (lv_at hl 0 rfl) ?_
                  refine lv_iconst (v := nI 4) hx hb dX4_holds_91 (by decide) ?_
                  refine lv_icmp_ne (tgt := 125) hx hb dX4_holds_92 (by decide) (fun h_92 => ?_) (fun h_92 => ?_)
                  · skip
                    refine lv_iconst (v := nI 1) hx hb dX4_holds_125 (by decide) ?_
                    refine lv_goto (tgt := 130) hx hb dX4_holds_126 (by decide) ?_
                    exact xr_zret (v := nI 1) hx hb hr hlocks (by first | rfl | exact bI_nar _) (bI_1 (by unfold holdsM; rw [if_neg h_14, if_neg hl9, if_neg h_41, if_neg h_58, if_neg h_70, if_neg (by first | exact fun z => h_75 z.1 | exact fun z => z.2 h_85)]; first | (rw [if_neg h_92]; done) | (rw [if_pos h_92, decide_eq_false h_122]; rfl))) dX4_holds_130
                  · skip
                    refine lv_iload_n hx hb dX4_holds_95 rfl (lv_at hl 3 rfl) ?_
                    refine lv_aload_n hx hb dX4_holds_96 rfl (lv_at hl 1 rfl) ?_
                    refine va_get (D := D) (ci := 4) (v := .ref (a 4)) (C := RX4) (T := TX4) (N := 18) hx hb ht inX4 hown hK hP 0 rfl rfl 6 (by decide) (ht _ wd578) (fun _ h9 => h9) rfl dX4_holds_97 ?_
                    refine lv_iload_n hx hb dX4_holds_100 rfl (lv_at hl 2 rfl) ?_
                    refine xa_iald hx hb hK hP 4 0 (i := c) rfl rfl (by omega) (by decide) dX4_holds_101 ?_
                    refine lv_isub hx hb dX4_holds_102 ?_
                    refine lv_aload_n hx hb dX4_holds_103 rfl (lv_at hl 1 rfl) ?_
                    refine va_get (D := D) (ci := 4) (v := .ref (a 6)) (C := RX4) (T := TX4) (N := 18) hx hb ht inX4 hown hK hP 0 rfl rfl 8 (by decide) (ht _ wd580) (fun _ h9 => h9) rfl dX4_holds_104 ?_
                    refine lv_iload_n hx hb dX4_holds_107 rfl (lv_at hl 2 rfl) ?_
                    refine xa_iald hx hb hK hP 6 0 (i := c) rfl rfl (by omega) (by decide) dX4_holds_108 ?_
                    refine lv_bipush (v := nI 100) hx hb dX4_holds_109 (by decide) ?_
                    refine lv_idiv hx hb dX4_holds_111 (by decide) ?_
                    refine lv_irem hx hb dX4_holds_112 ((hO.2.2 c hc).2 h_92) ?_
                    refine lv_aload_n hx hb dX4_holds_113 rfl (lv_at hl 1 rfl) ?_
                    refine va_get (D := D) (ci := 4) (v := .ref (a 6)) (C := RX4) (T := TX4) (N := 18) hx hb ht inX4 hown hK hP 0 rfl rfl 8 (by decide) (ht _ wd580) (fun _ h9 => h9) rfl dX4_holds_114 ?_
                    refine lv_iload_n hx hb dX4_holds_117 rfl (lv_at hl 2 rfl) ?_
                    refine xa_iald hx hb hK hP 6 0 (i := c) rfl rfl (by omega) (by decide) dX4_holds_118 ?_
                    refine lv_bipush (v := nI 100) hx hb dX4_holds_119 (by decide) ?_
                    refine lv_irem hx hb dX4_holds_121 (by decide) ?_
                    refine lv_icmp_ge (tgt := 129) hx hb dX4_holds_122 (by decide) (fun h_122 => ?_) (fun h_122 => ?_)
                    · skip
                      refine lv_iconst (v := nI 0) hx hb dX4_holds_129 (by decide) ?_
                      exact xr_zret (v := nI 0) hx hb hr hlocks (by first | rfl | exact bI_nar _) (bI_0 (by unfold holdsM; rw [if_neg h_14, if_neg hl9, if_neg h_41, if_neg h_58, if_neg h_70, if_neg (by first | exact fun z => h_75 z.1 | exact fun z => z.2 h_85), if_pos h_92, decide_eq_true h_122]; rfl)) dX4_holds_130
                    · skip
                      refine lv_iconst (v := nI 1) hx hb dX4_holds_125 (by decide) ?_
                      refine lv_goto (tgt := 130) hx hb dX4_holds_126 (by decide) ?_
                      exact xr_zret (v := nI 1) hx hb hr hlocks (by first | rfl | exact bI_nar _) (bI_1 (by unfold holdsM; rw [if_neg h_14, if_neg hl9, if_neg h_41, if_neg h_58, if_neg h_70, if_neg (by first | exact fun z => h_75 z.1 | exact fun z => z.2 h_85)]; first | (rw [if_neg h_92]; done) | (rw [if_pos h_92, decide_eq_false h_122]; rfl))) dX4_holds_130
                · skip
                  refine lv_iconst (v := nI 0) hx hb dX4_holds_88 (by decide) ?_
                  exact xr_zret (v := nI 0) hx hb hr hlocks (by first | rfl | exact bI_nar _) (bI_0 (by unfold holdsM; rw [if_neg h_14, if_neg hl9, if_neg h_41, if_neg h_58]; first | (rw [if_pos h_70]; done) | (rw [if_neg h_70, if_pos ⟨h_75, h_85⟩]; done))) dX4_holds_89
          · skip
            refine lv_iconst (v := nI 1) hx hb dX4_holds_61 (by decide) ?_
            have hl9 : ¬ (¬ mLi (sK M) c = (-1 : Int32) ∧ ¬ t < mLi (sK M) c) := by first | exact fun z => z.1 h_24 | exact fun z => z.2 h_34
            exact xr_zret (v := nI 1) hx hb hr hlocks (by first | rfl | exact bI_nar _) (bI_1 (by unfold holdsM; rw [if_neg h_14, if_neg hl9, if_neg h_41, if_pos h_58])) dX4_holds_62
        · skip
          obtain ⟨i, hi, ei⟩ := (hO.2.2 c hc).1 h_41
          refine lv_aload_n hx hb dX4_holds_44 rfl (lv_at hl 1 rfl) ?_
          refine va_get (D := D) (ci := 4) (v := .ref (a 10)) (C := RX4) (T := TX4) (N := 18) hx hb ht inX4 hown hK hP 0 rfl rfl 12 (by decide) (ht _ wd584) (fun _ h9 => h9) rfl dX4_holds_45 ?_
          refine lv_aload_n hx hb dX4_holds_48 rfl (lv_at hl 1 rfl) ?_
          refine va_get (D := D) (ci := 4) (v := .ref (a 6)) (C := RX4) (T := TX4) (N := 18) hx hb ht inX4 hown hK hP 0 rfl rfl 8 (by decide) (ht _ wd580) (fun _ h9 => h9) rfl dX4_holds_49 ?_
          refine lv_iload_n hx hb dX4_holds_52 rfl (lv_at hl 2 rfl) ?_
          refine xa_iald hx hb hK hP 6 0 (i := c) rfl rfl (by omega) (by decide) dX4_holds_53 ?_
          refine xtop (y := nI i) ei ?_
          refine xa_zald hx hb hK hP 10 1 (i := i) rfl rfl (by omega) (by decide) dX4_holds_54 ?_
          exact xr_zret (v := (mOp (sK M)) i) hx hb hr hlocks (by rcases hO.2.1 i hi with z | z <;> rw [z] <;> rfl) (by unfold holdsM; rw [if_neg h_14, if_neg hl9, if_pos h_41, ei, nI_clamp (by omega)]; rcases hO.2.1 i hi with z | z <;> rw [z] <;> rfl) dX4_holds_55
      · skip
        refine lv_iconst (v := nI 0) hx hb dX4_holds_37 (by decide) ?_
        exact xr_zret (v := nI 0) hx hb hr hlocks (by first | rfl | exact bI_nar _) (bI_0 (by unfold holdsM; first | (rw [if_pos h_14]; done) | (rw [if_neg h_14, if_pos ⟨h_24, h_34⟩]; done))) dX4_holds_38
set_option maxHeartbeats 4000000 in
set_option maxRecDepth 100000 in
theorem r_X4_isOn (l : Launch) (D : va_G) (a : Nat → Nat) (cI cZ : ClassId) (M : MS) (hO : mOk (sK M)) (c : Nat) (hc : c < mN (sK M)) (p1 s1 : Int32) : xRO l yX4_isOn cX4_isOn 4 (some .boolean) (xrm 0 0) [.ref (a 0), .int (nI c), .int (p1), .int (s1)] D (wM a cI cZ M) (tyL cI cZ) (bI (isOnM (sK M) c p1 s1)) := by
  refine xRO.of (by decide +kernel) (Nat.le_of_ble_eq_true rfl) ?_
  intro p e s m args below meth cd hx hb hr hml hown hlocks ht hN hP hK ls hl
  have hl : lv_has ls 4 [(0, .ref (a 0)), (1, .int (nI c)), (2, .int (p1)), (3, .int (s1))] := hl
  have hown : s.vm.findClass RX4 = some m.cls := hown
  have hn := hO.1
  refine lv_aload_n hx hb dX4_isOn_0 rfl (lv_at hl 0 rfl) ?_
  refine va_get (D := D) (ci := 4) (v := .ref (a 2)) (C := RX4) (T := TX4) (N := 18) hx hb ht inX4 hown hK hP 0 rfl rfl 4 (by decide) (ht _ wd576) (fun _ h9 => h9) rfl dX4_isOn_1 ?_
  refine lv_iload_n hx hb dX4_isOn_4 rfl (lv_at hl 1 rfl) ?_
  refine xa_iald hx hb hK hP 2 0 (i := c) rfl rfl (by omega) (by decide) dX4_isOn_5 ?_
  refine lv_iload_n hx hb dX4_isOn_6 rfl (lv_at hl 2 rfl) ?_
  refine lv_icmp_ne (tgt := 34) hx hb dX4_isOn_7 (by decide) (fun h_7 => ?_) (fun h_7 => ?_)
  · skip
    refine lv_iconst (v := nI 0) hx hb dX4_isOn_34 (by decide) ?_
    exact xr_zret (v := nI 0) hx hb hr hlocks (by first | rfl | exact bI_nar _) (bI_0 (by unfold isOnM; first | (rw [decide_eq_false h_7]; rfl) | (rw [decide_eq_false h_17, decide_eq_false h_27, Bool.or_false, Bool.and_false]; done))) dX4_isOn_35
  · skip
    refine lv_aload_n hx hb dX4_isOn_10 rfl (lv_at hl 0 rfl) ?_
    refine va_get (D := D) (ci := 4) (v := .ref (a 3)) (C := RX4) (T := TX4) (N := 18) hx hb ht inX4 hown hK hP 0 rfl rfl 5 (by decide) (ht _ wd577) (fun _ h9 => h9) rfl dX4_isOn_11 ?_
    refine lv_iload_n hx hb dX4_isOn_14 rfl (lv_at hl 1 rfl) ?_
    refine xa_iald hx hb hK hP 3 0 (i := c) rfl rfl (by omega) (by decide) dX4_isOn_15 ?_
    refine lv_iconst (v := nI 3) hx hb dX4_isOn_16 (by decide) ?_
    refine lv_icmp_eq (tgt := 30) hx hb dX4_isOn_17 (by decide) (fun h_17 => ?_) (fun h_17 => ?_)
    · skip
      refine lv_iconst (v := nI 1) hx hb dX4_isOn_30 (by decide) ?_
      refine lv_goto (tgt := 35) hx hb dX4_isOn_31 (by decide) ?_
      exact xr_zret (v := nI 1) hx hb hr hlocks (by first | rfl | exact bI_nar _) (bI_1 (by unfold isOnM; rw [decide_eq_true h_7]; first | (rw [decide_eq_true h_17]; rfl) | (rw [decide_eq_true h_27, Bool.or_true]; rfl))) dX4_isOn_35
    · skip
      refine lv_aload_n hx hb dX4_isOn_20 rfl (lv_at hl 0 rfl) ?_
      refine va_get (D := D) (ci := 4) (v := .ref (a 3)) (C := RX4) (T := TX4) (N := 18) hx hb ht inX4 hown hK hP 0 rfl rfl 5 (by decide) (ht _ wd577) (fun _ h9 => h9) rfl dX4_isOn_21 ?_
      refine lv_iload_n hx hb dX4_isOn_24 rfl (lv_at hl 1 rfl) ?_
      refine xa_iald hx hb hK hP 3 0 (i := c) rfl rfl (by omega) (by decide) dX4_isOn_25 ?_
      refine lv_iload_n hx hb dX4_isOn_26 rfl (lv_at hl 3 rfl) ?_
      refine lv_icmp_ne (tgt := 34) hx hb dX4_isOn_27 (by decide) (fun h_27 => ?_) (fun h_27 => ?_)
      · skip
        refine lv_iconst (v := nI 0) hx hb dX4_isOn_34 (by decide) ?_
        exact xr_zret (v := nI 0) hx hb hr hlocks (by first | rfl | exact bI_nar _) (bI_0 (by unfold isOnM; first | (rw [decide_eq_false h_7]; rfl) | (rw [decide_eq_false h_17, decide_eq_false h_27, Bool.or_false, Bool.and_false]; done))) dX4_isOn_35
      · skip
        refine lv_iconst (v := nI 1) hx hb dX4_isOn_30 (by decide) ?_
        refine lv_goto (tgt := 35) hx hb dX4_isOn_31 (by decide) ?_
        exact xr_zret (v := nI 1) hx hb hr hlocks (by first | rfl | exact bI_nar _) (bI_1 (by unfold isOnM; rw [decide_eq_true h_7]; first | (rw [decide_eq_true h_17]; rfl) | (rw [decide_eq_true h_27, Bool.or_true]; rfl))) dX4_isOn_35
set_option maxHeartbeats 4000000 in
set_option maxRecDepth 100000 in
theorem r_X4_isClosed (l : Launch) (D : va_G) (a : Nat → Nat) (cI cZ : ClassId) (M : MS) (hO : mOk (sK M)) (p1 s1 t : Int32) : xRO l yX4_isClosed cX4_isClosed 6 (some .boolean) (xrm 1 23) [.ref (a 0), .int (p1), .int (s1), .int (t)] D (wM a cI cZ M) (tyL cI cZ) (bI (isClosedM (sK M) p1 s1 t)) := by
  refine xRO.of (by decide +kernel) (Nat.le_of_ble_eq_true rfl) ?_
  intro p e s m args below meth cd hx hb hr hml hown hlocks ht hN hP hK ls hl
  have hl : lv_has ls 6 [(0, .ref (a 0)), (1, .int (p1)), (2, .int (s1)), (3, .int (t))] := hl
  have hown : s.vm.findClass RX4 = some m.cls := hown
  have hn := hO.1
  have L6 : ∀ (n : Nat) (bb : Bool) (c : Nat), mN (sK M) < c + n → c ≤ mN (sK M) → bb = anyN (fun c => !decide (mKd (sK M) c = nI 5) && (isOnM (sK M) c p1 s1 && holdsM (sK M) c t)) c → ∀ ls : Array Slot, lv_has ls 6 [(0, .ref (a 0)), (1, .int (p1)), (2, .int (s1)), (3, .int (t)), (4, .int (bI bb)), (5, .int (nI c))] → W p l e (xrm 1 23) s m args below meth cd s.heap [] 0 0 (MQ below (QcRead (bI (isClosedM (sK M) p1 s1 t))) args s 0 0 (fun _ => False)) (F0 m 6 ls []) := by
    intro n
    induction n with
    | zero =>
      intro bb c hfuel hi hv
      exact absurd hfuel (by omega)
    | succ n ih6 =>
      intro bb c hfuel hi hv ls hl
      refine lv_iload hx hb dX4_isClosed_6 (lv_at hl 5 rfl) ?_
      refine lv_aload_n hx hb dX4_isClosed_8 rfl (lv_at hl 0 rfl) ?_
      refine va_get (D := D) (ci := 4) (v := .int (nI (mN (sK M)))) (C := RX4) (T := TX4) (N := 18) hx hb ht inX4 hown hK hP 0 rfl rfl 2 (by decide) (ht _ wd574) (fun _ h9 => h9) rfl dX4_isClosed_9 ?_
      refine lv_icmp_ge (tgt := 65) hx hb dX4_isClosed_12 (by decide) (fun h_12 => ?_) (fun h_12 => ?_)
      · skip
        have h_12 : (mN (sK M)) ≤ c := (nI_leI (by omega) (by omega)).mp h_12
        refine lv_iload hx hb dX4_isClosed_65 (lv_at hl 4 rfl) ?_
        exact xr_zret (v := bI bb) hx hb hr hlocks (by first | rfl | exact bI_nar _) (by rw [isClosedM, show mN (sK M) = c by omega, ← hv]) dX4_isClosed_67
      · skip
        have h_12 : ¬ ((mN (sK M)) ≤ c) := fun z => h_12 ((nI_leI (by omega) (by omega)).mpr z)
        refine lv_iload hx hb dX4_isClosed_15 (lv_at hl 4 rfl) ?_
        refine lv_if_ne (tgt := 52) hx hb dX4_isClosed_17 (by decide) (fun h_17 => ?_) (fun h_17 => ?_)
        · skip
          refine lv_iconst (v := nI 1) hx hb dX4_isClosed_52 (by decide) ?_
          refine lv_goto (tgt := 57) hx hb dX4_isClosed_53 (by decide) ?_
          refine lv_istore (lv' := [(4, .int (nI 1)), (0, .ref (a 0)), (1, .int (p1)), (2, .int (s1)), (3, .int (t)), (5, .int (nI c))]) hx hb dX4_isClosed_57 hl (by decide) rfl (fun ls hl => ?_)
          refine lv_iinc (v := nI (c + 1)) (lv' := [(5, .int (nI (c + 1))), (4, .int (nI 1)), (0, .ref (a 0)), (1, .int (p1)), (2, .int (s1)), (3, .int (t))]) hx hb dX4_isClosed_59 hl (k := 5) rfl (nI_1 _) (by decide) rfl (fun ls hl => ?_)
          refine lv_goto (tgt := 6) hx hb dX4_isClosed_62 (by decide) ?_
          exact ih6 true (c + 1) (by omega) (by omega) (by rw [anyN, ← hv]; first | (rw [bI_t h_17]; rfl) | (rw [decide_eq_false h_28, bI_t h_39, bI_t h_49, Bool.or_comm]; rfl)) ls (lv_sub hl [2, 3, 4, 5, 1, 0] rfl)
        · skip
          refine lv_aload_n hx hb dX4_isClosed_20 rfl (lv_at hl 0 rfl) ?_
          refine va_get (D := D) (ci := 4) (v := .ref (a 1)) (C := RX4) (T := TX4) (N := 18) hx hb ht inX4 hown hK hP 0 rfl rfl 3 (by decide) (ht _ wd575) (fun _ h9 => h9) rfl dX4_isClosed_21 ?_
          refine lv_iload hx hb dX4_isClosed_24 (lv_at hl 5 rfl) ?_
          refine xa_iald hx hb hK hP 1 0 (i := c) rfl rfl (by omega) (by decide) dX4_isClosed_26 ?_
          refine lv_iconst (v := nI 5) hx hb dX4_isClosed_27 (by decide) ?_
          refine lv_icmp_eq (tgt := 56) hx hb dX4_isClosed_28 (by decide) (fun h_28 => ?_) (fun h_28 => ?_)
          · skip
            refine lv_iconst (v := nI 0) hx hb dX4_isClosed_56 (by decide) ?_
            refine lv_istore (lv' := [(4, .int (nI 0)), (0, .ref (a 0)), (1, .int (p1)), (2, .int (s1)), (3, .int (t)), (5, .int (nI c))]) hx hb dX4_isClosed_57 hl (by decide) rfl (fun ls hl => ?_)
            refine lv_iinc (v := nI (c + 1)) (lv' := [(5, .int (nI (c + 1))), (4, .int (nI 0)), (0, .ref (a 0)), (1, .int (p1)), (2, .int (s1)), (3, .int (t))]) hx hb dX4_isClosed_59 hl (k := 5) rfl (nI_1 _) (by decide) rfl (fun ls hl => ?_)
            refine lv_goto (tgt := 6) hx hb dX4_isClosed_62 (by decide) ?_
            exact ih6 false (c + 1) (by omega) (by omega) (by rw [anyN, ← hv, bI_f h_17]; first | (rw [decide_eq_true h_28]; rfl) | (rw [bI_f h_39, Bool.false_and, Bool.and_false]; rfl) | (rw [bI_f h_49, Bool.and_false, Bool.and_false]; rfl)) ls (lv_sub hl [2, 3, 4, 5, 1, 0] rfl)
          · skip
            refine lv_aload_n hx hb dX4_isClosed_31 rfl (lv_at hl 0 rfl) ?_
            refine lv_iload hx hb dX4_isClosed_32 (lv_at hl 5 rfl) ?_
            refine lv_iload_n hx hb dX4_isClosed_34 rfl (lv_at hl 1 rfl) ?_
            refine lv_iload_n hx hb dX4_isClosed_35 rfl (lv_at hl 2 rfl) ?_
            refine xrV (As := [.int (nI c), .int (p1), .int (s1)]) (rest := []) hx hb hml hown ht hN kV_X4_65 (r_X4_isOn l D a cI cZ M hO c (by omega) p1 s1) ⟨by decide, by decide⟩ hP hK rfl rfl rfl rfl hl.1 rfl (Nat.le_of_ble_eq_true rfl) dX4_isClosed_36 ⟨Nat.zero_le _, Nat.zero_le _⟩ ?_
            refine lv_if_eq (tgt := 56) hx hb dX4_isClosed_39 (by decide) (fun h_39 => ?_) (fun h_39 => ?_)
            · skip
              refine lv_iconst (v := nI 0) hx hb dX4_isClosed_56 (by decide) ?_
              refine lv_istore (lv' := [(4, .int (nI 0)), (0, .ref (a 0)), (1, .int (p1)), (2, .int (s1)), (3, .int (t)), (5, .int (nI c))]) hx hb dX4_isClosed_57 hl (by decide) rfl (fun ls hl => ?_)
              refine lv_iinc (v := nI (c + 1)) (lv' := [(5, .int (nI (c + 1))), (4, .int (nI 0)), (0, .ref (a 0)), (1, .int (p1)), (2, .int (s1)), (3, .int (t))]) hx hb dX4_isClosed_59 hl (k := 5) rfl (nI_1 _) (by decide) rfl (fun ls hl => ?_)
              refine lv_goto (tgt := 6) hx hb dX4_isClosed_62 (by decide) ?_
              exact ih6 false (c + 1) (by omega) (by omega) (by rw [anyN, ← hv, bI_f h_17]; first | (rw [decide_eq_true h_28]; rfl) | (rw [bI_f h_39, Bool.false_and, Bool.and_false]; rfl) | (rw [bI_f h_49, Bool.and_false, Bool.and_false]; rfl)) ls (lv_sub hl [2, 3, 4, 5, 1, 0] rfl)
            · skip
              refine lv_aload_n hx hb dX4_isClosed_42 rfl (lv_at hl 0 rfl) ?_
              refine lv_iload hx hb dX4_isClosed_43 (lv_at hl 5 rfl) ?_
              refine lv_iload_n hx hb dX4_isClosed_45 rfl (lv_at hl 3 rfl) ?_
              refine xrV (As := [.int (nI c), .int (t)]) (rest := []) hx hb hml hown ht hN kV_X4_68 (r_X4_holds l D a cI cZ M hO c (by omega) t) ⟨by decide, by decide⟩ hP hK rfl rfl rfl rfl hl.1 rfl (Nat.le_of_ble_eq_true rfl) dX4_isClosed_46 ⟨Nat.zero_le _, Nat.zero_le _⟩ ?_
              refine lv_if_eq (tgt := 56) hx hb dX4_isClosed_49 (by decide) (fun h_49 => ?_) (fun h_49 => ?_)
              · skip
                refine lv_iconst (v := nI 0) hx hb dX4_isClosed_56 (by decide) ?_
                refine lv_istore (lv' := [(4, .int (nI 0)), (0, .ref (a 0)), (1, .int (p1)), (2, .int (s1)), (3, .int (t)), (5, .int (nI c))]) hx hb dX4_isClosed_57 hl (by decide) rfl (fun ls hl => ?_)
                refine lv_iinc (v := nI (c + 1)) (lv' := [(5, .int (nI (c + 1))), (4, .int (nI 0)), (0, .ref (a 0)), (1, .int (p1)), (2, .int (s1)), (3, .int (t))]) hx hb dX4_isClosed_59 hl (k := 5) rfl (nI_1 _) (by decide) rfl (fun ls hl => ?_)
                refine lv_goto (tgt := 6) hx hb dX4_isClosed_62 (by decide) ?_
                exact ih6 false (c + 1) (by omega) (by omega) (by rw [anyN, ← hv, bI_f h_17]; first | (rw [decide_eq_true h_28]; rfl) | (rw [bI_f h_39, Bool.false_and, Bool.and_false]; rfl) | (rw [bI_f h_49, Bool.and_false, Bool.and_false]; rfl)) ls (lv_sub hl [2, 3, 4, 5, 1, 0] rfl)
              · skip
                refine lv_iconst (v := nI 1) hx hb dX4_isClosed_52 (by decide) ?_
                refine lv_goto (tgt := 57) hx hb dX4_isClosed_53 (by decide) ?_
                refine lv_istore (lv' := [(4, .int (nI 1)), (0, .ref (a 0)), (1, .int (p1)), (2, .int (s1)), (3, .int (t)), (5, .int (nI c))]) hx hb dX4_isClosed_57 hl (by decide) rfl (fun ls hl => ?_)
                refine lv_iinc (v := nI (c + 1)) (lv' := [(5, .int (nI (c + 1))), (4, .int (nI 1)), (0, .ref (a 0)), (1, .int (p1)), (2, .int (s1)), (3, .int (t))]) hx hb dX4_isClosed_59 hl (k := 5) rfl (nI_1 _) (by decide) rfl (fun ls hl => ?_)
                refine lv_goto (tgt := 6) hx hb dX4_isClosed_62 (by decide) ?_
                exact ih6 true (c + 1) (by omega) (by omega) (by rw [anyN, ← hv]; first | (rw [bI_t h_17]; rfl) | (rw [decide_eq_false h_28, bI_t h_39, bI_t h_49, Bool.or_comm]; rfl)) ls (lv_sub hl [2, 3, 4, 5, 1, 0] rfl)
  refine lv_iconst (v := nI 0) hx hb dX4_isClosed_0 (by decide) ?_
  refine lv_istore (lv' := [(4, .int (nI 0)), (0, .ref (a 0)), (1, .int (p1)), (2, .int (s1)), (3, .int (t))]) hx hb dX4_isClosed_1 hl (by decide) rfl (fun ls hl => ?_)
  refine lv_iconst (v := nI 0) hx hb dX4_isClosed_3 (by decide) ?_
  refine lv_istore (lv' := [(5, .int (nI 0)), (4, .int (nI 0)), (0, .ref (a 0)), (1, .int (p1)), (2, .int (s1)), (3, .int (t))]) hx hb dX4_isClosed_4 hl (by decide) rfl (fun ls hl => ?_)
  exact L6 (mN (sK M) + 1) false 0 (by omega) (by omega) rfl ls (lv_sub hl [2, 3, 4, 5, 1, 0] rfl)
set_option maxHeartbeats 4000000 in
set_option maxRecDepth 100000 in
theorem r_X4_has (l : Launch) (D : va_G) (a : Nat → Nat) (cI cZ : ClassId) (M : MS) (hR : rOk (sR M)) (u : Nat) (hu : u < 10) (pl : Nat) (hp : pl < 120) : xRO l yX4_has cX4_has 5 (some .boolean) (xrm 0 0) [.ref (a 0), .int (nI u), .int (nI pl)] D (wM a cI cZ M) (tyL cI cZ) (bI (hasR (sR M) u pl)) := by
  refine xRO.of (by decide +kernel) (Nat.le_of_ble_eq_true rfl) ?_
  intro p e s m args below meth cd hx hb hr hml hown hlocks ht hN hP hK ls hl
  have hl : lv_has ls 5 [(0, .ref (a 0)), (1, .int (nI u)), (2, .int (nI pl))] := hl
  have hown : s.vm.findClass RX4 = some m.cls := hown
  have hk := (hR u hu).1
  have hq := (hR u hu).2
  have L5 : ∀ (n : Nat) (bb : Bool) (k : Nat), rL (sR M) u < k + n → k ≤ rL (sR M) u → bb = anyN (fun k => decide (rP (sR M) (u * 12 + k) = pl)) k → ∀ ls : Array Slot, lv_has ls 5 [(0, .ref (a 0)), (1, .int (nI u)), (2, .int (nI pl)), (3, .int (bI bb)), (4, .int (nI k))] → W p l e (xrm 0 0) s m args below meth cd s.heap [] 0 0 (MQ below (QcRead (bI (hasR (sR M) u pl))) args s 0 0 (fun _ => False)) (F0 m 5 ls []) := by
    intro n
    induction n with
    | zero =>
      intro bb k hfuel hi hv
      exact absurd hfuel (by omega)
    | succ n ih5 =>
      intro bb k hfuel hi hv ls hl
      refine lv_iload hx hb dX4_has_5 (lv_at hl 4 rfl) ?_
      refine lv_aload_n hx hb dX4_has_7 rfl (lv_at hl 0 rfl) ?_
      refine va_get (D := D) (ci := 4) (v := .ref (a 11)) (C := RX4) (T := TX4) (N := 18) hx hb ht inX4 hown hK hP 0 rfl rfl 13 (by decide) (ht _ wd585) (fun _ h9 => h9) rfl dX4_has_8 ?_
      refine lv_iload_n hx hb dX4_has_11 rfl (lv_at hl 1 rfl) ?_
      refine xa_iald hx hb hK hP 11 0 (i := u) rfl rfl (by omega) (by decide) dX4_has_12 ?_
      refine lv_icmp_ge (tgt := 48) hx hb dX4_has_13 (by decide) (fun h_13 => ?_) (fun h_13 => ?_)
      · skip
        have h_13 : (rL (sR M) u) ≤ k := (nI_leI (by omega) (by omega)).mp h_13
        refine lv_iload_n hx hb dX4_has_48 rfl (lv_at hl 3 rfl) ?_
        exact xr_zret (v := bI bb) hx hb hr hlocks (by first | rfl | exact bI_nar _) (by rw [hasR, show rL (sR M) u = k by omega, ← hv]) dX4_has_49
      · skip
        have h_13 : ¬ ((rL (sR M) u) ≤ k) := fun z => h_13 ((nI_leI (by omega) (by omega)).mpr z)
        have hk9 := hq k (by omega)
        refine lv_iload_n hx hb dX4_has_16 rfl (lv_at hl 3 rfl) ?_
        refine lv_if_ne (tgt := 36) hx hb dX4_has_17 (by decide) (fun h_17 => ?_) (fun h_17 => ?_)
        · skip
          refine lv_iconst (v := nI 1) hx hb dX4_has_36 (by decide) ?_
          refine lv_goto (tgt := 41) hx hb dX4_has_37 (by decide) ?_
          refine lv_istore_n (lv' := [(3, .int (nI 1)), (0, .ref (a 0)), (1, .int (nI u)), (2, .int (nI pl)), (4, .int (nI k))]) hx hb dX4_has_41 rfl hl (by decide) rfl (fun ls hl => ?_)
          refine lv_iinc (v := nI (k + 1)) (lv' := [(4, .int (nI (k + 1))), (3, .int (nI 1)), (0, .ref (a 0)), (1, .int (nI u)), (2, .int (nI pl))]) hx hb dX4_has_42 hl (k := 4) rfl (nI_1 _) (by decide) rfl (fun ls hl => ?_)
          refine lv_goto (tgt := 5) hx hb dX4_has_45 (by decide) ?_
          exact ih5 true (k + 1) (by omega) (by omega) (by rw [anyN, ← hv]; first | (rw [bI_t h_17]; rfl) | (rw [decide_eq_true h_33, Bool.or_comm]; rfl)) ls (lv_sub hl [2, 3, 4, 1, 0] rfl)
        · skip
          refine lv_aload_n hx hb dX4_has_20 rfl (lv_at hl 0 rfl) ?_
          refine va_get (D := D) (ci := 4) (v := .ref (a 12)) (C := RX4) (T := TX4) (N := 18) hx hb ht inX4 hown hK hP 0 rfl rfl 14 (by decide) (ht _ wd586) (fun _ h9 => h9) rfl dX4_has_21 ?_
          refine lv_bipush (v := nI 12) hx hb dX4_has_24 (by decide) ?_
          refine lv_iload_n hx hb dX4_has_26 rfl (lv_at hl 1 rfl) ?_
          refine lv_imul hx hb dX4_has_27 ?_
          refine xtop (y := nI (u * 12)) (by rw [pk_mul, Nat.mul_comm]) ?_
          refine lv_iload hx hb dX4_has_28 (lv_at hl 4 rfl) ?_
          refine lv_iadd hx hb dX4_has_30 ?_
          refine xtop (y := nI (u * 12 + k)) (nI_add _ _) ?_
          refine xa_iald hx hb hK hP 12 0 (i := (u * 12 + k)) rfl rfl (by omega) (by decide) dX4_has_31 ?_
          refine lv_iload_n hx hb dX4_has_32 rfl (lv_at hl 2 rfl) ?_
          refine lv_icmp_ne (tgt := 40) hx hb dX4_has_33 (by decide) (fun h_33 => ?_) (fun h_33 => ?_)
          · skip
            have h_33 : ¬ ((rP (sR M) (u * 12 + k)) = pl) := fun z => h_33 ((nI_eq (by omega) (by omega)).mpr z)
            refine lv_iconst (v := nI 0) hx hb dX4_has_40 (by decide) ?_
            refine lv_istore_n (lv' := [(3, .int (nI 0)), (0, .ref (a 0)), (1, .int (nI u)), (2, .int (nI pl)), (4, .int (nI k))]) hx hb dX4_has_41 rfl hl (by decide) rfl (fun ls hl => ?_)
            refine lv_iinc (v := nI (k + 1)) (lv' := [(4, .int (nI (k + 1))), (3, .int (nI 0)), (0, .ref (a 0)), (1, .int (nI u)), (2, .int (nI pl))]) hx hb dX4_has_42 hl (k := 4) rfl (nI_1 _) (by decide) rfl (fun ls hl => ?_)
            refine lv_goto (tgt := 5) hx hb dX4_has_45 (by decide) ?_
            exact ih5 false (k + 1) (by omega) (by omega) (by rw [anyN, ← hv, bI_f h_17, decide_eq_false h_33]; rfl) ls (lv_sub hl [2, 3, 4, 1, 0] rfl)
          · skip
            have h_33 : (rP (sR M) (u * 12 + k)) = pl := (nI_eq (by omega) (by omega)).mp h_33
            refine lv_iconst (v := nI 1) hx hb dX4_has_36 (by decide) ?_
            refine lv_goto (tgt := 41) hx hb dX4_has_37 (by decide) ?_
            refine lv_istore_n (lv' := [(3, .int (nI 1)), (0, .ref (a 0)), (1, .int (nI u)), (2, .int (nI pl)), (4, .int (nI k))]) hx hb dX4_has_41 rfl hl (by decide) rfl (fun ls hl => ?_)
            refine lv_iinc (v := nI (k + 1)) (lv' := [(4, .int (nI (k + 1))), (3, .int (nI 1)), (0, .ref (a 0)), (1, .int (nI u)), (2, .int (nI pl))]) hx hb dX4_has_42 hl (k := 4) rfl (nI_1 _) (by decide) rfl (fun ls hl => ?_)
            refine lv_goto (tgt := 5) hx hb dX4_has_45 (by decide) ?_
            exact ih5 true (k + 1) (by omega) (by omega) (by rw [anyN, ← hv]; first | (rw [bI_t h_17]; rfl) | (rw [decide_eq_true h_33, Bool.or_comm]; rfl)) ls (lv_sub hl [2, 3, 4, 1, 0] rfl)
  refine lv_iconst (v := nI 0) hx hb dX4_has_0 (by decide) ?_
  refine lv_istore_n (lv' := [(3, .int (nI 0)), (0, .ref (a 0)), (1, .int (nI u)), (2, .int (nI pl))]) hx hb dX4_has_1 rfl hl (by decide) rfl (fun ls hl => ?_)
  refine lv_iconst (v := nI 0) hx hb dX4_has_2 (by decide) ?_
  refine lv_istore (lv' := [(4, .int (nI 0)), (3, .int (nI 0)), (0, .ref (a 0)), (1, .int (nI u)), (2, .int (nI pl))]) hx hb dX4_has_3 hl (by decide) rfl (fun ls hl => ?_)
  exact L5 (rL (sR M) u + 1) false 0 (by omega) (by omega) rfl ls (lv_sub hl [2, 3, 4, 1, 0] rfl)
set_option maxHeartbeats 4000000 in
set_option maxRecDepth 100000 in
theorem r_X4_endOf (l : Launch) (D : va_G) (a : Nat → Nat) (cI cZ : ClassId) (M : MS) (hO : mOk (sK M)) (c : Nat) (hc : c < mN (sK M)) : xRO l yX4_endOf cX4_endOf 2 (some .int) (xrm 0 0) [.ref (a 0), .int (nI c)] D (wM a cI cZ M) (tyL cI cZ) (endM (sK M) c) := by
  refine xRO.of (by decide +kernel) (Nat.le_of_ble_eq_true rfl) ?_
  intro p e s m args below meth cd hx hb hr hml hown hlocks ht hN hP hK ls hl
  have hl : lv_has ls 2 [(0, .ref (a 0)), (1, .int (nI c))] := hl
  have hown : s.vm.findClass RX4 = some m.cls := hown
  have hn := hO.1
  refine lv_aload_n hx hb dX4_endOf_0 rfl (lv_at hl 0 rfl) ?_
  refine va_get (D := D) (ci := 4) (v := .ref (a 8)) (C := RX4) (T := TX4) (N := 18) hx hb ht inX4 hown hK hP 0 rfl rfl 10 (by decide) (ht _ wd582) (fun _ h9 => h9) rfl dX4_endOf_1 ?_
  refine lv_iload_n hx hb dX4_endOf_4 rfl (lv_at hl 1 rfl) ?_
  refine xa_iald hx hb hK hP 8 0 (i := c) rfl rfl (by omega) (by decide) dX4_endOf_5 ?_
  refine lv_iconst (v := (-1 : Int32)) hx hb dX4_endOf_6 (by decide) ?_
  refine lv_icmp_eq (tgt := 17) hx hb dX4_endOf_7 (by decide) (fun h_7 => ?_) (fun h_7 => ?_)
  · skip
    refine lv_aload_n hx hb dX4_endOf_17 rfl (lv_at hl 0 rfl) ?_
    refine va_get (D := D) (ci := 4) (v := .ref (a 1)) (C := RX4) (T := TX4) (N := 18) hx hb ht inX4 hown hK hP 0 rfl rfl 3 (by decide) (ht _ wd575) (fun _ h9 => h9) rfl dX4_endOf_18 ?_
    refine lv_iload_n hx hb dX4_endOf_21 rfl (lv_at hl 1 rfl) ?_
    refine xa_iald hx hb hK hP 1 0 (i := c) rfl rfl (by omega) (by decide) dX4_endOf_22 ?_
    refine lv_iconst (v := nI 2) hx hb dX4_endOf_23 (by decide) ?_
    refine lv_icmp_eq (tgt := 37) hx hb dX4_endOf_24 (by decide) (fun h_24 => ?_) (fun h_24 => ?_)
    · skip
      refine lv_ldc (v := nI 1000000) hx hb hown (ht _ wd723) dX4_endOf_37 ?_
      refine lv_goto (tgt := 48) hx hb dX4_endOf_39 (by decide) ?_
      exact xr_iret (v := nI 1000000) hx hb hr hlocks (by rw [endM, if_pos h_7]; first | (rw [if_pos (Or.inl h_24)]; done) | (rw [if_pos (Or.inr h_34)]; done) | (rw [if_neg (fun z => z.elim h_24 h_34)]; done)) dX4_endOf_48
    · skip
      refine lv_aload_n hx hb dX4_endOf_27 rfl (lv_at hl 0 rfl) ?_
      refine va_get (D := D) (ci := 4) (v := .ref (a 1)) (C := RX4) (T := TX4) (N := 18) hx hb ht inX4 hown hK hP 0 rfl rfl 3 (by decide) (ht _ wd575) (fun _ h9 => h9) rfl dX4_endOf_28 ?_
      refine lv_iload_n hx hb dX4_endOf_31 rfl (lv_at hl 1 rfl) ?_
      refine xa_iald hx hb hK hP 1 0 (i := c) rfl rfl (by omega) (by decide) dX4_endOf_32 ?_
      refine lv_iconst (v := nI 3) hx hb dX4_endOf_33 (by decide) ?_
      refine lv_icmp_ne (tgt := 42) hx hb dX4_endOf_34 (by decide) (fun h_34 => ?_) (fun h_34 => ?_)
      · skip
        refine lv_aload_n hx hb dX4_endOf_42 rfl (lv_at hl 0 rfl) ?_
        refine va_get (D := D) (ci := 4) (v := .ref (a 5)) (C := RX4) (T := TX4) (N := 18) hx hb ht inX4 hown hK hP 0 rfl rfl 7 (by decide) (ht _ wd579) (fun _ h9 => h9) rfl dX4_endOf_43 ?_
        refine lv_iload_n hx hb dX4_endOf_46 rfl (lv_at hl 1 rfl) ?_
        refine xa_iald hx hb hK hP 5 0 (i := c) rfl rfl (by omega) (by decide) dX4_endOf_47 ?_
        exact xr_iret (v := (mTo (sK M)) c) hx hb hr hlocks (by rw [endM, if_pos h_7]; first | (rw [if_pos (Or.inl h_24)]; done) | (rw [if_pos (Or.inr h_34)]; done) | (rw [if_neg (fun z => z.elim h_24 h_34)]; done)) dX4_endOf_48
      · skip
        refine lv_ldc (v := nI 1000000) hx hb hown (ht _ wd723) dX4_endOf_37 ?_
        refine lv_goto (tgt := 48) hx hb dX4_endOf_39 (by decide) ?_
        exact xr_iret (v := nI 1000000) hx hb hr hlocks (by rw [endM, if_pos h_7]; first | (rw [if_pos (Or.inl h_24)]; done) | (rw [if_pos (Or.inr h_34)]; done) | (rw [if_neg (fun z => z.elim h_24 h_34)]; done)) dX4_endOf_48
  · skip
    refine lv_aload_n hx hb dX4_endOf_10 rfl (lv_at hl 0 rfl) ?_
    refine va_get (D := D) (ci := 4) (v := .ref (a 8)) (C := RX4) (T := TX4) (N := 18) hx hb ht inX4 hown hK hP 0 rfl rfl 10 (by decide) (ht _ wd582) (fun _ h9 => h9) rfl dX4_endOf_11 ?_
    refine lv_iload_n hx hb dX4_endOf_14 rfl (lv_at hl 1 rfl) ?_
    refine xa_iald hx hb hK hP 8 0 (i := c) rfl rfl (by omega) (by decide) dX4_endOf_15 ?_
    exact xr_iret (v := (mLi (sK M)) c) hx hb hr hlocks (by rw [endM, if_neg h_7]) dX4_endOf_16
