theorem kN_X0_86 : xcN RX0 86 yX3_periodOf cX3_periodOf 1 (some .int) 1 RX3 := ⟨wd256, by decide +kernel, wd255, wd21, ⟨by decide +kernel, by decide +kernel, by decide +kernel⟩⟩
theorem kV_X0_79 : xcV RX0 RX0 79 yX0_minuteOfPeriod cX0_minuteOfPeriod 3 (some .int) 2 := ⟨wd302, wd299, wd301, wd3, wd22, rfl, ⟨by decide +kernel, by decide +kernel, by decide +kernel⟩⟩
theorem kN_X0_82 : xcN RX0 82 yX3_lengthOf cX3_lengthOf 1 (some .int) 1 RX3 := ⟨wd259, by decide +kernel, wd258, wd21, ⟨by decide +kernel, by decide +kernel, by decide +kernel⟩⟩
theorem kN_X0_89 : xcN RX0 89 yX3_pieceOf cX3_pieceOf 1 (some .int) 1 RX3 := ⟨wd336, by decide +kernel, wd335, wd21, ⟨by decide +kernel, by decide +kernel, by decide +kernel⟩⟩
theorem kN_X0_92 : xcN RX0 92 yX3_sideOf cX3_sideOf 1 (some .int) 1 RX3 := ⟨wd339, by decide +kernel, wd338, wd21, ⟨by decide +kernel, by decide +kernel, by decide +kernel⟩⟩
theorem kV_X0_76 : xcV RX0 RX0 76 yX0_covers cX0_covers 3 (some .boolean) 2 := ⟨wd484, wd481, wd483, wd9, wd22, rfl, ⟨by decide +kernel, by decide +kernel, by decide +kernel⟩⟩
theorem kV_X0_48 : xcV RX0 RX0 48 yX0_holds cX0_holds 3 (some .boolean) 2 := ⟨wd298, wd295, wd297, wd2, wd22, rfl, ⟨by decide +kernel, by decide +kernel, by decide +kernel⟩⟩
theorem kV_X0_44 : xcV RX0 RX0 44 yX0_holdsOn cX0_holdsOn 4 (some .boolean) 3 := ⟨wd480, wd477, wd479, wd8, wd22, rfl, ⟨by decide +kernel, by decide +kernel, by decide +kernel⟩⟩
theorem kV_X0_69 : xcV RX0 RX0 69 yX0_endsAheadOf cX0_endsAheadOf 3 (some .boolean) 2 := ⟨wd526, wd523, wd525, wd11, wd22, rfl, ⟨by decide +kernel, by decide +kernel, by decide +kernel⟩⟩
theorem kV_X0_65 : xcV RX0 RX0 65 yX0_rankOf cX0_rankOf 6 (some .int) 3 := ⟨wd522, wd519, wd521, wd10, wd22, rfl, ⟨by decide +kernel, by decide +kernel, by decide +kernel⟩⟩
theorem kV_X0_73 : xcV RX0 RX0 73 yX0_changeOf cX0_changeOf 6 (some .int) 2 := ⟨wd462, wd459, wd461, wd7, wd22, rfl, ⟨by decide +kernel, by decide +kernel, by decide +kernel⟩⟩
set_option maxHeartbeats 4000000 in
set_option maxRecDepth 100000 in
theorem r_X3_pieceOf (l : Launch) (D : va_G) (pl : Nat) (h : pl < 120) : xRO l yX3_pieceOf cX3_pieceOf 1 (some .int) (xrm 0 0) [.int (nI pl)] D [] [] (nI (pl / 2)) := by
  refine xRO.of (by decide) (Nat.le_of_ble_eq_true rfl) ?_
  intro p e s m args below meth cd hx hb hr hml hown hlocks ht hN hP hK ls hl
  have hl : lv_has ls 1 [(0, .int (nI pl))] := hl
  have hown : s.vm.findClass RX3 = some m.cls := hown
  refine lv_iload_n hx hb dX3_pieceOf_0 rfl (lv_at hl 0 rfl) ?_
  refine lv_iconst (v := nI 2) hx hb dX3_pieceOf_1 (by decide) ?_
  refine lv_idiv hx hb dX3_pieceOf_2 (by decide) ?_
  exact xr_iret (v := (nI pl) / (nI 2)) hx hb hr hlocks (pk_div (by omega) (by decide) (by decide)) dX3_pieceOf_3
set_option maxHeartbeats 4000000 in
set_option maxRecDepth 100000 in
theorem r_X3_sideOf (l : Launch) (D : va_G) (pl : Nat) (h : pl < 120) : xRO l yX3_sideOf cX3_sideOf 1 (some .int) (xrm 0 0) [.int (nI pl)] D [] [] (nI (pl % 2 + 1)) := by
  refine xRO.of (by decide) (Nat.le_of_ble_eq_true rfl) ?_
  intro p e s m args below meth cd hx hb hr hml hown hlocks ht hN hP hK ls hl
  have hl : lv_has ls 1 [(0, .int (nI pl))] := hl
  have hown : s.vm.findClass RX3 = some m.cls := hown
  refine lv_iload_n hx hb dX3_sideOf_0 rfl (lv_at hl 0 rfl) ?_
  refine lv_iconst (v := nI 2) hx hb dX3_sideOf_1 (by decide) ?_
  refine lv_irem hx hb dX3_sideOf_2 (by decide) ?_
  refine xtop (y := nI (pl % 2)) (pk_rem (by omega) (by decide) (by decide)) ?_
  refine lv_iconst (v := nI 1) hx hb dX3_sideOf_3 (by decide) ?_
  refine lv_iadd hx hb dX3_sideOf_4 ?_
  exact xr_iret (v := (nI (pl % 2)) + (nI 1)) hx hb hr hlocks (nI_add _ _) dX3_sideOf_5
set_option maxHeartbeats 4000000 in
set_option maxRecDepth 100000 in
theorem r_X3_placeOf (l : Launch) (D : va_G) (pi si : Nat) : xRO l yX3_placeOf cX3_placeOf 2 (some .int) (xrm 0 0) [.int (nI pi), .int (nI (si + 1))] D [] [] (nI (2 * pi + si)) := by
  refine xRO.of (by decide) (Nat.le_of_ble_eq_true rfl) ?_
  intro p e s m args below meth cd hx hb hr hml hown hlocks ht hN hP hK ls hl
  have hl : lv_has ls 2 [(0, .int (nI pi)), (1, .int (nI (si + 1)))] := hl
  have hown : s.vm.findClass RX3 = some m.cls := hown
  refine lv_iconst (v := nI 2) hx hb dX3_placeOf_0 (by decide) ?_
  refine lv_iload_n hx hb dX3_placeOf_1 rfl (lv_at hl 0 rfl) ?_
  refine lv_imul hx hb dX3_placeOf_2 ?_
  refine lv_iload_n hx hb dX3_placeOf_3 rfl (lv_at hl 1 rfl) ?_
  refine lv_iadd hx hb dX3_placeOf_4 ?_
  refine lv_iconst (v := nI 1) hx hb dX3_placeOf_5 (by decide) ?_
  refine lv_isub hx hb dX3_placeOf_6 ?_
  exact xr_iret (v := (((nI 2) * (nI pi)) + (nI (si + 1))) - (nI 1)) hx hb hr hlocks (by rw [pk_mul, nI_add, show 2 * pi + (si + 1) = (2 * pi + si) + 1 from rfl]; exact nI_pred _) dX3_placeOf_7
set_option maxHeartbeats 4000000 in
set_option maxRecDepth 100000 in
theorem r_X3_periodOf (l : Launch) (D : va_G) (x : Int32) : xRO l yX3_periodOf cX3_periodOf 1 (some .int) (xrm 0 0) [.int (x)] D [] [] (x / nI 100) := by
  refine xRO.of (by decide) (Nat.le_of_ble_eq_true rfl) ?_
  intro p e s m args below meth cd hx hb hr hml hown hlocks ht hN hP hK ls hl
  have hl : lv_has ls 1 [(0, .int (x))] := hl
  have hown : s.vm.findClass RX3 = some m.cls := hown
  refine lv_iload_n hx hb dX3_periodOf_0 rfl (lv_at hl 0 rfl) ?_
  refine lv_bipush (v := nI 100) hx hb dX3_periodOf_1 (by decide) ?_
  refine lv_idiv hx hb dX3_periodOf_3 (by decide) ?_
  exact xr_iret (v := (x) / (nI 100)) hx hb hr hlocks (rfl) dX3_periodOf_4
set_option maxHeartbeats 4000000 in
set_option maxRecDepth 100000 in
theorem r_X3_lengthOf (l : Launch) (D : va_G) (x : Int32) : xRO l yX3_lengthOf cX3_lengthOf 1 (some .int) (xrm 0 0) [.int (x)] D [] [] (rI x (nI 100)) := by
  refine xRO.of (by decide) (Nat.le_of_ble_eq_true rfl) ?_
  intro p e s m args below meth cd hx hb hr hml hown hlocks ht hN hP hK ls hl
  have hl : lv_has ls 1 [(0, .int (x))] := hl
  have hown : s.vm.findClass RX3 = some m.cls := hown
  refine lv_iload_n hx hb dX3_lengthOf_0 rfl (lv_at hl 0 rfl) ?_
  refine lv_bipush (v := nI 100) hx hb dX3_lengthOf_1 (by decide) ?_
  refine lv_irem hx hb dX3_lengthOf_3 (by decide) ?_
  exact xr_iret (v := rI (x) (nI 100)) hx hb hr hlocks (rfl) dX3_lengthOf_4
set_option maxHeartbeats 4000000 in
set_option maxRecDepth 100000 in
theorem r_X0_minuteOfPeriod (l : Launch) (D : va_G) (a : Nat → Nat) (cI cZ : ClassId) (S : KS) (hO : kOk S) (c : Nat) (hc : c < kN S) (t : Int32) (hk : ¬ kXs S c / nI 100 = 0) : xRO l yX0_minuteOfPeriod cX0_minuteOfPeriod 3 (some .int) (xrm 1 20) [.ref (a 0), .int (nI c), .int (t)] D (wK a cI cZ S) (tyL cI cZ) (mopK S c t) := by
  refine xRO.of (by decide) (Nat.le_of_ble_eq_true rfl) ?_
  intro p e s m args below meth cd hx hb hr hml hown hlocks ht hN hP hK ls hl
  have hl : lv_has ls 3 [(0, .ref (a 0)), (1, .int (nI c)), (2, .int (t))] := hl
  have hown : s.vm.findClass RX0 = some m.cls := hown
  have hn := hO.1
  refine lv_iload_n hx hb dX0_minuteOfPeriod_0 rfl (lv_at hl 2 rfl) ?_
  refine lv_aload_n hx hb dX0_minuteOfPeriod_1 rfl (lv_at hl 0 rfl) ?_
  refine va_get (D := D) (ci := 0) (v := .ref (a 4)) (C := RX0) (T := TX0) (N := 10) hx hb ht inX0 hown hK hP 0 rfl rfl 3 (by decide) (ht _ wd51) (fun _ h9 => h9) rfl dX0_minuteOfPeriod_2 ?_
  refine lv_iload_n hx hb dX0_minuteOfPeriod_5 rfl (lv_at hl 1 rfl) ?_
  refine xa_iald hx hb hK hP 4 0 (i := c) rfl rfl (by omega) (by decide) dX0_minuteOfPeriod_6 ?_
  refine lv_isub hx hb dX0_minuteOfPeriod_7 ?_
  refine lv_aload_n hx hb dX0_minuteOfPeriod_8 rfl (lv_at hl 0 rfl) ?_
  refine va_get (D := D) (ci := 0) (v := .ref (a 6)) (C := RX0) (T := TX0) (N := 10) hx hb ht inX0 hown hK hP 0 rfl rfl 5 (by decide) (ht _ wd53) (fun _ h9 => h9) rfl dX0_minuteOfPeriod_9 ?_
  refine lv_iload_n hx hb dX0_minuteOfPeriod_12 rfl (lv_at hl 1 rfl) ?_
  refine xa_iald hx hb hK hP 6 0 (i := c) rfl rfl (by omega) (by decide) dX0_minuteOfPeriod_13 ?_
  refine xrN (As := [.int (kXs S c)]) (rest := [.int ((t) - (kSt S c))]) hx hb hml hown ht hN kN_X0_86 (r_X3_periodOf l D (kXs S c)) ⟨by decide, by decide⟩ (fun k q h => by simp at h) (hK.sub (tys' := []) [] rfl) rfl hl.1 rfl (Nat.le_of_ble_eq_true rfl) dX0_minuteOfPeriod_14 ⟨Nat.zero_le _, Nat.zero_le _⟩ ?_
  refine lv_irem hx hb dX0_minuteOfPeriod_17 hk ?_
  exact xr_iret (v := rI ((t) - (kSt S c)) (kXs S c / nI 100)) hx hb hr hlocks (rfl) dX0_minuteOfPeriod_18
set_option maxHeartbeats 4000000 in
set_option maxRecDepth 100000 in
theorem r_X0_holds (l : Launch) (D : va_G) (a : Nat → Nat) (cI cZ : ClassId) (S : KS) (hO : kOk S) (c : Nat) (hc : c < kN S) (t : Int32) : xRO l yX0_holds cX0_holds 3 (some .boolean) (xrm 2 42) [.ref (a 0), .int (nI c), .int (t)] D (wK a cI cZ S) (tyL cI cZ) (bI (holdsK S c t)) := by
  refine xRO.of (by decide) (Nat.le_of_ble_eq_true rfl) ?_
  intro p e s m args below meth cd hx hb hr hml hown hlocks ht hN hP hK ls hl
  have hl : lv_has ls 3 [(0, .ref (a 0)), (1, .int (nI c)), (2, .int (t))] := hl
  have hown : s.vm.findClass RX0 = some m.cls := hown
  have hn := hO.1
  refine lv_iload_n hx hb dX0_holds_0 rfl (lv_at hl 2 rfl) ?_
  refine lv_aload_n hx hb dX0_holds_1 rfl (lv_at hl 0 rfl) ?_
  refine va_get (D := D) (ci := 0) (v := .ref (a 4)) (C := RX0) (T := TX0) (N := 10) hx hb ht inX0 hown hK hP 0 rfl rfl 3 (by decide) (ht _ wd51) (fun _ h9 => h9) rfl dX0_holds_2 ?_
  refine lv_iload_n hx hb dX0_holds_5 rfl (lv_at hl 1 rfl) ?_
  refine xa_iald hx hb hK hP 4 0 (i := c) rfl rfl (by omega) (by decide) dX0_holds_6 ?_
  refine lv_icmp_lt (tgt := 20) hx hb dX0_holds_7 (by decide) (fun h_7 => ?_) (fun h_7 => ?_)
  · skip
    refine lv_iconst (v := nI 0) hx hb dX0_holds_20 (by decide) ?_
    exact xr_zret (v := nI 0) hx hb hr hlocks (by first | rfl | exact bI_nar _) (bI_0 (by unfold holdsK; first | (rw [if_pos h_7]; done) | (rw [if_neg h_7, if_neg h_17]; done))) dX0_holds_21
  · skip
    refine lv_iload_n hx hb dX0_holds_10 rfl (lv_at hl 2 rfl) ?_
    refine lv_aload_n hx hb dX0_holds_11 rfl (lv_at hl 0 rfl) ?_
    refine va_get (D := D) (ci := 0) (v := .ref (a 5)) (C := RX0) (T := TX0) (N := 10) hx hb ht inX0 hown hK hP 0 rfl rfl 4 (by decide) (ht _ wd52) (fun _ h9 => h9) rfl dX0_holds_12 ?_
    refine lv_iload_n hx hb dX0_holds_15 rfl (lv_at hl 1 rfl) ?_
    refine xa_iald hx hb hK hP 5 0 (i := c) rfl rfl (by omega) (by decide) dX0_holds_16 ?_
    refine lv_icmp_lt (tgt := 22) hx hb dX0_holds_17 (by decide) (fun h_17 => ?_) (fun h_17 => ?_)
    · skip
      refine lv_aload_n hx hb dX0_holds_22 rfl (lv_at hl 0 rfl) ?_
      refine va_get (D := D) (ci := 0) (v := .ref (a 1)) (C := RX0) (T := TX0) (N := 10) hx hb ht inX0 hown hK hP 0 rfl rfl 0 (by decide) (ht _ wd48) (fun _ h9 => h9) rfl dX0_holds_23 ?_
      refine lv_iload_n hx hb dX0_holds_26 rfl (lv_at hl 1 rfl) ?_
      refine xa_iald hx hb hK hP 1 0 (i := c) rfl rfl (by omega) (by decide) dX0_holds_27 ?_
      by_cases h_28_1 : (kKd S c) = nI 1
      · refine xtop (y := nI 1) h_28_1 ?_
        refine lv_tableIn (tgt := 60) (off := 32) hx hb dX0_holds_28 (by decide) (by decide) (by decide) (by decide) ?_
        refine lv_aload_n hx hb dX0_holds_60 rfl (lv_at hl 0 rfl) ?_
        refine va_get (D := D) (ci := 0) (v := .ref (a 7)) (C := RX0) (T := TX0) (N := 10) hx hb ht inX0 hown hK hP 0 rfl rfl 6 (by decide) (ht _ wd54) (fun _ h9 => h9) rfl dX0_holds_61 ?_
        refine lv_iload_n hx hb dX0_holds_64 rfl (lv_at hl 1 rfl) ?_
        refine xa_iald hx hb hK hP 7 0 (i := c) rfl rfl (by omega) (by decide) dX0_holds_65 ?_
        refine lv_iconst (v := nI 1) hx hb dX0_holds_66 (by decide) ?_
        refine lv_icmp_ne (tgt := 74) hx hb dX0_holds_67 (by decide) (fun h_67 => ?_) (fun h_67 => ?_)
        · skip
          refine lv_iconst (v := nI 0) hx hb dX0_holds_74 (by decide) ?_
          exact xr_zret (v := nI 0) hx hb hr hlocks (by first | rfl | exact bI_nar _) (bI_0 (by unfold holdsK; rw [if_neg h_7, if_pos h_17, if_pos h_28_1, decide_eq_false h_67])) dX0_holds_75
        · skip
          refine lv_iconst (v := nI 1) hx hb dX0_holds_70 (by decide) ?_
          refine lv_goto (tgt := 75) hx hb dX0_holds_71 (by decide) ?_
          exact xr_zret (v := nI 1) hx hb hr hlocks (by first | rfl | exact bI_nar _) (bI_1 (by unfold holdsK; rw [if_neg h_7, if_pos h_17, if_pos h_28_1, decide_eq_true h_67])) dX0_holds_75
      by_cases h_28_2 : (kKd S c) = nI 2
      · refine xtop (y := nI 2) h_28_2 ?_
        refine lv_tableIn (tgt := 76) (off := 48) hx hb dX0_holds_28 (by decide) (by decide) (by decide) (by decide) ?_
        obtain ⟨i, hi, ei⟩ := (hO.2.2 c hc).1 h_28_2
        refine lv_aload_n hx hb dX0_holds_76 rfl (lv_at hl 0 rfl) ?_
        refine va_get (D := D) (ci := 0) (v := .ref (a 9)) (C := RX0) (T := TX0) (N := 10) hx hb ht inX0 hown hK hP 0 rfl rfl 8 (by decide) (ht _ wd56) (fun _ h9 => h9) rfl dX0_holds_77 ?_
        refine lv_aload_n hx hb dX0_holds_80 rfl (lv_at hl 0 rfl) ?_
        refine va_get (D := D) (ci := 0) (v := .ref (a 6)) (C := RX0) (T := TX0) (N := 10) hx hb ht inX0 hown hK hP 0 rfl rfl 5 (by decide) (ht _ wd53) (fun _ h9 => h9) rfl dX0_holds_81 ?_
        refine lv_iload_n hx hb dX0_holds_84 rfl (lv_at hl 1 rfl) ?_
        refine xa_iald hx hb hK hP 6 0 (i := c) rfl rfl (by omega) (by decide) dX0_holds_85 ?_
        refine xtop (y := nI i) ei ?_
        refine xa_zald hx hb hK hP 9 1 (i := i) rfl rfl (by omega) (by decide) dX0_holds_86 ?_
        exact xr_zret (v := kIc S i) hx hb hr hlocks (by rcases hO.2.1 i hi with z | z <;> rw [z] <;> rfl) (by unfold holdsK; rw [if_neg h_7, if_pos h_17, if_neg h_28_1, if_pos h_28_2, ei, nI_clamp (by omega)]; rcases hO.2.1 i hi with z | z <;> rw [z] <;> rfl) dX0_holds_87
      by_cases h_28_3 : (kKd S c) = nI 3
      · refine xtop (y := nI 3) h_28_3 ?_
        refine lv_tableIn (tgt := 112) (off := 84) hx hb dX0_holds_28 (by decide) (by decide) (by decide) (by decide) ?_
        refine lv_iconst (v := nI 1) hx hb dX0_holds_112 (by decide) ?_
        exact xr_zret (v := nI 1) hx hb hr hlocks (by first | rfl | exact bI_nar _) (bI_1 (by unfold holdsK; rw [if_neg h_7, if_pos h_17, if_neg h_28_1, if_neg h_28_2]; first | (rw [if_neg h_28_4]; done) | (rw [h_28_3]; rfl))) dX0_holds_113
      by_cases h_28_4 : (kKd S c) = nI 4
      · refine xtop (y := nI 4) h_28_4 ?_
        refine lv_tableIn (tgt := 88) (off := 60) hx hb dX0_holds_28 (by decide) (by decide) (by decide) (by decide) ?_
        refine lv_aload_n hx hb dX0_holds_88 rfl (lv_at hl 0 rfl) ?_
        refine lv_iload_n hx hb dX0_holds_89 rfl (lv_at hl 1 rfl) ?_
        refine lv_iload_n hx hb dX0_holds_90 rfl (lv_at hl 2 rfl) ?_
        refine xrV (As := [.int (nI c), .int (t)]) (rest := []) hx hb hml hown ht hN kV_X0_79 (r_X0_minuteOfPeriod l D a cI cZ S hO c hc t ((hO.2.2 c hc).2.1 h_28_4)) ⟨by decide, by decide⟩ hP hK rfl rfl rfl rfl hl.1 rfl (Nat.le_of_ble_eq_true rfl) dX0_holds_91 ⟨Nat.zero_le _, Nat.zero_le _⟩ ?_
        refine lv_aload_n hx hb dX0_holds_94 rfl (lv_at hl 0 rfl) ?_
        refine va_get (D := D) (ci := 0) (v := .ref (a 6)) (C := RX0) (T := TX0) (N := 10) hx hb ht inX0 hown hK hP 0 rfl rfl 5 (by decide) (ht _ wd53) (fun _ h9 => h9) rfl dX0_holds_95 ?_
        refine lv_iload_n hx hb dX0_holds_98 rfl (lv_at hl 1 rfl) ?_
        refine xa_iald hx hb hK hP 6 0 (i := c) rfl rfl (by omega) (by decide) dX0_holds_99 ?_
        refine xrN (As := [.int (kXs S c)]) (rest := [.int (mopK S c t)]) hx hb hml hown ht hN kN_X0_82 (r_X3_lengthOf l D (kXs S c)) ⟨by decide, by decide⟩ (fun k q h => by simp at h) (hK.sub (tys' := []) [] rfl) rfl hl.1 rfl (Nat.le_of_ble_eq_true rfl) dX0_holds_100 ⟨Nat.zero_le _, Nat.zero_le _⟩ ?_
        refine lv_icmp_ge (tgt := 110) hx hb dX0_holds_103 (by decide) (fun h_103 => ?_) (fun h_103 => ?_)
        · skip
          refine lv_iconst (v := nI 0) hx hb dX0_holds_110 (by decide) ?_
          exact xr_zret (v := nI 0) hx hb hr hlocks (by first | rfl | exact bI_nar _) (bI_0 (by unfold holdsK; rw [if_neg h_7, if_pos h_17, if_neg h_28_1, if_neg h_28_2, if_pos h_28_4, decide_eq_true h_103]; rfl)) dX0_holds_111
        · skip
          refine lv_iconst (v := nI 1) hx hb dX0_holds_106 (by decide) ?_
          refine lv_goto (tgt := 111) hx hb dX0_holds_107 (by decide) ?_
          exact xr_zret (v := nI 1) hx hb hr hlocks (by first | rfl | exact bI_nar _) (bI_1 (by unfold holdsK; rw [if_neg h_7, if_pos h_17, if_neg h_28_1, if_neg h_28_2, if_pos h_28_4, decide_eq_false h_103]; rfl)) dX0_holds_111
      refine lv_tableOut (tgt := 112) hx hb dX0_holds_28 (xtab_out h_28_1 h_28_2 h_28_3 h_28_4) (by decide) ?_
      refine lv_iconst (v := nI 1) hx hb dX0_holds_112 (by decide) ?_
      exact xr_zret (v := nI 1) hx hb hr hlocks (by first | rfl | exact bI_nar _) (bI_1 (by unfold holdsK; rw [if_neg h_7, if_pos h_17, if_neg h_28_1, if_neg h_28_2]; first | (rw [if_neg h_28_4]; done) | (rw [h_28_3]; rfl))) dX0_holds_113
    · skip
      refine lv_iconst (v := nI 0) hx hb dX0_holds_20 (by decide) ?_
      exact xr_zret (v := nI 0) hx hb hr hlocks (by first | rfl | exact bI_nar _) (bI_0 (by unfold holdsK; first | (rw [if_pos h_7]; done) | (rw [if_neg h_7, if_neg h_17]; done))) dX0_holds_21
set_option maxHeartbeats 4000000 in
set_option maxRecDepth 100000 in
theorem r_X0_covers (l : Launch) (D : va_G) (a : Nat → Nat) (cI cZ : ClassId) (S : KS) (hO : kOk S) (c : Nat) (hc : c < kN S) (pl : Nat) (hp : pl < 120) : xRO l yX0_covers cX0_covers 3 (some .boolean) (xrm 1 20) [.ref (a 0), .int (nI c), .int (nI pl)] D (wK a cI cZ S) (tyL cI cZ) (bI (coversK S c pl)) := by
  refine xRO.of (by decide) (Nat.le_of_ble_eq_true rfl) ?_
  intro p e s m args below meth cd hx hb hr hml hown hlocks ht hN hP hK ls hl
  have hl : lv_has ls 3 [(0, .ref (a 0)), (1, .int (nI c)), (2, .int (nI pl))] := hl
  have hown : s.vm.findClass RX0 = some m.cls := hown
  have hn := hO.1
  refine lv_aload_n hx hb dX0_covers_0 rfl (lv_at hl 0 rfl) ?_
  refine va_get (D := D) (ci := 0) (v := .ref (a 2)) (C := RX0) (T := TX0) (N := 10) hx hb ht inX0 hown hK hP 0 rfl rfl 1 (by decide) (ht _ wd49) (fun _ h9 => h9) rfl dX0_covers_1 ?_
  refine lv_iload_n hx hb dX0_covers_4 rfl (lv_at hl 1 rfl) ?_
  refine xa_iald hx hb hK hP 2 0 (i := c) rfl rfl (by omega) (by decide) dX0_covers_5 ?_
  refine lv_iload_n hx hb dX0_covers_6 rfl (lv_at hl 2 rfl) ?_
  refine xrN (As := [.int (nI pl)]) (rest := [.int (kPc S c)]) hx hb hml hown ht hN kN_X0_89 (r_X3_pieceOf l D pl hp) ⟨by decide, by decide⟩ (fun k q h => by simp at h) (hK.sub (tys' := []) [] rfl) rfl hl.1 rfl (Nat.le_of_ble_eq_true rfl) dX0_covers_7 ⟨Nat.zero_le _, Nat.zero_le _⟩ ?_
  refine lv_icmp_ne (tgt := 31) hx hb dX0_covers_10 (by decide) (fun h_10 => ?_) (fun h_10 => ?_)
  · skip
    refine lv_iconst (v := nI 0) hx hb dX0_covers_31 (by decide) ?_
    exact xr_zret (v := nI 0) hx hb hr hlocks (by first | rfl | exact bI_nar _) (bI_0 (by unfold coversK; first | (rw [decide_eq_false h_10]; rfl) | (rw [decide_eq_true h_24, Bool.not_true, Bool.and_false]))) dX0_covers_32
  · skip
    refine lv_aload_n hx hb dX0_covers_13 rfl (lv_at hl 0 rfl) ?_
    refine va_get (D := D) (ci := 0) (v := .ref (a 3)) (C := RX0) (T := TX0) (N := 10) hx hb ht inX0 hown hK hP 0 rfl rfl 2 (by decide) (ht _ wd50) (fun _ h9 => h9) rfl dX0_covers_14 ?_
    refine lv_iload_n hx hb dX0_covers_17 rfl (lv_at hl 1 rfl) ?_
    refine xa_iald hx hb hK hP 3 0 (i := c) rfl rfl (by omega) (by decide) dX0_covers_18 ?_
    refine lv_iload_n hx hb dX0_covers_19 rfl (lv_at hl 2 rfl) ?_
    refine xrN (As := [.int (nI pl)]) (rest := [.int (kSd S c)]) hx hb hml hown ht hN kN_X0_92 (r_X3_sideOf l D pl hp) ⟨by decide, by decide⟩ (fun k q h => by simp at h) (hK.sub (tys' := []) [] rfl) rfl hl.1 rfl (Nat.le_of_ble_eq_true rfl) dX0_covers_20 ⟨Nat.zero_le _, Nat.zero_le _⟩ ?_
    refine lv_iand hx hb dX0_covers_23 ?_
    refine lv_if_eq (tgt := 31) hx hb dX0_covers_24 (by decide) (fun h_24 => ?_) (fun h_24 => ?_)
    · skip
      refine lv_iconst (v := nI 0) hx hb dX0_covers_31 (by decide) ?_
      exact xr_zret (v := nI 0) hx hb hr hlocks (by first | rfl | exact bI_nar _) (bI_0 (by unfold coversK; first | (rw [decide_eq_false h_10]; rfl) | (rw [decide_eq_true h_24, Bool.not_true, Bool.and_false]))) dX0_covers_32
    · skip
      refine lv_iconst (v := nI 1) hx hb dX0_covers_27 (by decide) ?_
      refine lv_goto (tgt := 32) hx hb dX0_covers_28 (by decide) ?_
      exact xr_zret (v := nI 1) hx hb hr hlocks (by first | rfl | exact bI_nar _) (bI_1 (by unfold coversK; rw [decide_eq_true h_10, decide_eq_false h_24]; rfl)) dX0_covers_32
set_option maxHeartbeats 4000000 in
set_option maxRecDepth 100000 in
theorem r_X0_holdsOn (l : Launch) (D : va_G) (a : Nat → Nat) (cI cZ : ClassId) (S : KS) (hO : kOk S) (c : Nat) (hc : c < kN S) (pl : Nat) (hp : pl < 120) (t : Int32) : xRO l yX0_holdsOn cX0_holdsOn 4 (some .boolean) (xrm 3 64) [.ref (a 0), .int (nI c), .int (nI pl), .int (t)] D (wK a cI cZ S) (tyL cI cZ) (bI (onK S c pl t)) := by
  refine xRO.of (by decide) (Nat.le_of_ble_eq_true rfl) ?_
  intro p e s m args below meth cd hx hb hr hml hown hlocks ht hN hP hK ls hl
  have hl : lv_has ls 4 [(0, .ref (a 0)), (1, .int (nI c)), (2, .int (nI pl)), (3, .int (t))] := hl
  have hown : s.vm.findClass RX0 = some m.cls := hown
  have hn := hO.1
  refine lv_aload_n hx hb dX0_holdsOn_0 rfl (lv_at hl 0 rfl) ?_
  refine lv_iload_n hx hb dX0_holdsOn_1 rfl (lv_at hl 1 rfl) ?_
  refine lv_iload_n hx hb dX0_holdsOn_2 rfl (lv_at hl 2 rfl) ?_
  refine xrV (As := [.int (nI c), .int (nI pl)]) (rest := []) hx hb hml hown ht hN kV_X0_76 (r_X0_covers l D a cI cZ S hO c hc pl hp) ⟨by decide, by decide⟩ hP hK rfl rfl rfl rfl hl.1 rfl (Nat.le_of_ble_eq_true rfl) dX0_holdsOn_3 ⟨Nat.zero_le _, Nat.zero_le _⟩ ?_
  refine lv_if_eq (tgt := 22) hx hb dX0_holdsOn_6 (by decide) (fun h_6 => ?_) (fun h_6 => ?_)
  · skip
    refine lv_iconst (v := nI 0) hx hb dX0_holdsOn_22 (by decide) ?_
    exact xr_zret (v := nI 0) hx hb hr hlocks (by first | rfl | exact bI_nar _) (bI_0 (by unfold onK; first | (rw [bI_f h_6]; rfl) | (rw [bI_f h_15, Bool.and_false]))) dX0_holdsOn_23
  · skip
    refine lv_aload_n hx hb dX0_holdsOn_9 rfl (lv_at hl 0 rfl) ?_
    refine lv_iload_n hx hb dX0_holdsOn_10 rfl (lv_at hl 1 rfl) ?_
    refine lv_iload_n hx hb dX0_holdsOn_11 rfl (lv_at hl 3 rfl) ?_
    refine xrV (As := [.int (nI c), .int (t)]) (rest := []) hx hb hml hown ht hN kV_X0_48 (r_X0_holds l D a cI cZ S hO c hc t) ⟨by decide, by decide⟩ hP hK rfl rfl rfl rfl hl.1 rfl (Nat.le_of_ble_eq_true rfl) dX0_holdsOn_12 ⟨Nat.zero_le _, Nat.zero_le _⟩ ?_
    refine lv_if_eq (tgt := 22) hx hb dX0_holdsOn_15 (by decide) (fun h_15 => ?_) (fun h_15 => ?_)
    · skip
      refine lv_iconst (v := nI 0) hx hb dX0_holdsOn_22 (by decide) ?_
      exact xr_zret (v := nI 0) hx hb hr hlocks (by first | rfl | exact bI_nar _) (bI_0 (by unfold onK; first | (rw [bI_f h_6]; rfl) | (rw [bI_f h_15, Bool.and_false]))) dX0_holdsOn_23
    · skip
      refine lv_iconst (v := nI 1) hx hb dX0_holdsOn_18 (by decide) ?_
      refine lv_goto (tgt := 23) hx hb dX0_holdsOn_19 (by decide) ?_
      exact xr_zret (v := nI 1) hx hb hr hlocks (by first | rfl | exact bI_nar _) (bI_1 (by unfold onK; rw [bI_t h_6, bI_t h_15]; rfl)) dX0_holdsOn_23
set_option maxHeartbeats 4000000 in
set_option maxRecDepth 100000 in
theorem r_X0_isClosedAt (l : Launch) (D : va_G) (a : Nat → Nat) (cI cZ : ClassId) (S : KS) (hO : kOk S) (pl : Nat) (hp : pl < 120) (t : Int32) : xRO l yX0_isClosedAt cX0_isClosedAt 4 (some .boolean) (xrm 4 87) [.ref (a 0), .int (nI pl), .int (t)] D (wK a cI cZ S) (tyL cI cZ) (bI (closedK S pl t)) := by
  refine xRO.of (by decide) (Nat.le_of_ble_eq_true rfl) ?_
  intro p e s m args below meth cd hx hb hr hml hown hlocks ht hN hP hK ls hl
  have hl : lv_has ls 4 [(0, .ref (a 0)), (1, .int (nI pl)), (2, .int (t))] := hl
  have hown : s.vm.findClass RX0 = some m.cls := hown
  have hn := hO.1
  have L2 : ∀ (n : Nat) (c : Nat), kN S < c + n → c ≤ kN S → anyN (fun c => !decide (kKd S c = nI 5) && onK S c pl t) c = false → ∀ ls : Array Slot, lv_has ls 4 [(0, .ref (a 0)), (1, .int (nI pl)), (2, .int (t)), (3, .int (nI c))] → W p l e (xrm 4 87) s m args below meth cd s.heap [] 0 0 (MQ below (QcRead (bI (closedK S pl t))) args s 0 0 (fun _ => False)) (F0 m 2 ls []) := by
    intro n
    induction n with
    | zero =>
      intro c hfuel hi hv
      exact absurd hfuel (by omega)
    | succ n ih2 =>
      intro c hfuel hi hv ls hl
      refine lv_iload_n hx hb dX0_isClosedAt_2 rfl (lv_at hl 3 rfl) ?_
      refine lv_aload_n hx hb dX0_isClosedAt_3 rfl (lv_at hl 0 rfl) ?_
      refine va_get (D := D) (ci := 0) (v := .int (nI (kN S))) (C := RX0) (T := TX0) (N := 10) hx hb ht inX0 hown hK hP 0 rfl rfl 9 (by decide) (ht _ wd57) (fun _ h9 => h9) rfl dX0_isClosedAt_4 ?_
      refine lv_icmp_ge (tgt := 38) hx hb dX0_isClosedAt_7 (by decide) (fun h_7 => ?_) (fun h_7 => ?_)
      · skip
        have h_7 : (kN S) ≤ c := (nI_leI (by omega) (by omega)).mp h_7
        refine lv_iconst (v := nI 0) hx hb dX0_isClosedAt_38 (by decide) ?_
        exact xr_zret (v := nI 0) hx hb hr hlocks (by first | rfl | exact bI_nar _) (bI_0 (by rw [closedK, show kN S = c by omega]; exact hv)) dX0_isClosedAt_39
      · skip
        have h_7 : ¬ ((kN S) ≤ c) := fun z => h_7 ((nI_leI (by omega) (by omega)).mpr z)
        refine lv_aload_n hx hb dX0_isClosedAt_10 rfl (lv_at hl 0 rfl) ?_
        refine va_get (D := D) (ci := 0) (v := .ref (a 1)) (C := RX0) (T := TX0) (N := 10) hx hb ht inX0 hown hK hP 0 rfl rfl 0 (by decide) (ht _ wd48) (fun _ h9 => h9) rfl dX0_isClosedAt_11 ?_
        refine lv_iload_n hx hb dX0_isClosedAt_14 rfl (lv_at hl 3 rfl) ?_
        refine xa_iald hx hb hK hP 1 0 (i := c) rfl rfl (by omega) (by decide) dX0_isClosedAt_15 ?_
        refine lv_iconst (v := nI 5) hx hb dX0_isClosedAt_16 (by decide) ?_
        refine lv_icmp_eq (tgt := 32) hx hb dX0_isClosedAt_17 (by decide) (fun h_17 => ?_) (fun h_17 => ?_)
        · skip
          refine lv_iinc (v := nI (c + 1)) (lv' := [(3, .int (nI (c + 1))), (0, .ref (a 0)), (1, .int (nI pl)), (2, .int (t))]) hx hb dX0_isClosedAt_32 hl (k := 3) rfl (nI_1 _) (by decide) rfl (fun ls hl => ?_)
          refine lv_goto (tgt := 2) hx hb dX0_isClosedAt_35 (by decide) ?_
          exact ih2 (c + 1) (by omega) (by omega) (by rw [anyN, hv]; first | (rw [decide_eq_true h_17]; rfl) | (rw [bI_f h_27, Bool.and_false]; rfl)) ls (lv_sub hl [1, 2, 3, 0] rfl)
        · skip
          refine lv_aload_n hx hb dX0_isClosedAt_20 rfl (lv_at hl 0 rfl) ?_
          refine lv_iload_n hx hb dX0_isClosedAt_21 rfl (lv_at hl 3 rfl) ?_
          refine lv_iload_n hx hb dX0_isClosedAt_22 rfl (lv_at hl 1 rfl) ?_
          refine lv_iload_n hx hb dX0_isClosedAt_23 rfl (lv_at hl 2 rfl) ?_
          refine xrV (As := [.int (nI c), .int (nI pl), .int (t)]) (rest := []) hx hb hml hown ht hN kV_X0_44 (r_X0_holdsOn l D a cI cZ S hO c (by omega) pl hp t) ⟨by decide, by decide⟩ hP hK rfl rfl rfl rfl hl.1 rfl (Nat.le_of_ble_eq_true rfl) dX0_isClosedAt_24 ⟨Nat.zero_le _, Nat.zero_le _⟩ ?_
          refine lv_if_eq (tgt := 32) hx hb dX0_isClosedAt_27 (by decide) (fun h_27 => ?_) (fun h_27 => ?_)
          · skip
            refine lv_iinc (v := nI (c + 1)) (lv' := [(3, .int (nI (c + 1))), (0, .ref (a 0)), (1, .int (nI pl)), (2, .int (t))]) hx hb dX0_isClosedAt_32 hl (k := 3) rfl (nI_1 _) (by decide) rfl (fun ls hl => ?_)
            refine lv_goto (tgt := 2) hx hb dX0_isClosedAt_35 (by decide) ?_
            exact ih2 (c + 1) (by omega) (by omega) (by rw [anyN, hv]; first | (rw [decide_eq_true h_17]; rfl) | (rw [bI_f h_27, Bool.and_false]; rfl)) ls (lv_sub hl [1, 2, 3, 0] rfl)
          · skip
            refine lv_iconst (v := nI 1) hx hb dX0_isClosedAt_30 (by decide) ?_
            exact xr_zret (v := nI 1) hx hb hr hlocks (by first | rfl | exact bI_nar _) (bI_1 (anyN_of (c := c) (by omega) (by rw [decide_eq_false h_17, bI_t h_27]; rfl))) dX0_isClosedAt_31
  refine lv_iconst (v := nI 0) hx hb dX0_isClosedAt_0 (by decide) ?_
  refine lv_istore_n (lv' := [(3, .int (nI 0)), (0, .ref (a 0)), (1, .int (nI pl)), (2, .int (t))]) hx hb dX0_isClosedAt_1 rfl hl (by decide) rfl (fun ls hl => ?_)
  exact L2 (kN S + 1) 0 (by omega) (by omega) rfl ls (lv_sub hl [1, 2, 3, 0] rfl)
set_option maxHeartbeats 4000000 in
set_option maxRecDepth 100000 in
theorem r_X0_endsAheadOf (l : Launch) (D : va_G) (a : Nat → Nat) (cI cZ : ClassId) (S : KS) (hO : kOk S) (d c : Nat) (hd : d < kN S) (hc : c < kN S) : xRO l yX0_endsAheadOf cX0_endsAheadOf 3 (some .boolean) (xrm 0 0) [.ref (a 0), .int (nI d), .int (nI c)] D (wK a cI cZ S) (tyL cI cZ) (bI (aheadK S d c)) := by
  refine xRO.of (by decide) (Nat.le_of_ble_eq_true rfl) ?_
  intro p e s m args below meth cd hx hb hr hml hown hlocks ht hN hP hK ls hl
  have hl : lv_has ls 3 [(0, .ref (a 0)), (1, .int (nI d)), (2, .int (nI c))] := hl
  have hown : s.vm.findClass RX0 = some m.cls := hown
  have hn := hO.1
  refine lv_aload_n hx hb dX0_endsAheadOf_0 rfl (lv_at hl 0 rfl) ?_
  refine va_get (D := D) (ci := 0) (v := .ref (a 5)) (C := RX0) (T := TX0) (N := 10) hx hb ht inX0 hown hK hP 0 rfl rfl 4 (by decide) (ht _ wd52) (fun _ h9 => h9) rfl dX0_endsAheadOf_1 ?_
  refine lv_iload_n hx hb dX0_endsAheadOf_4 rfl (lv_at hl 1 rfl) ?_
  refine xa_iald hx hb hK hP 5 0 (i := d) rfl rfl (by omega) (by decide) dX0_endsAheadOf_5 ?_
  refine lv_aload_n hx hb dX0_endsAheadOf_6 rfl (lv_at hl 0 rfl) ?_
  refine va_get (D := D) (ci := 0) (v := .ref (a 5)) (C := RX0) (T := TX0) (N := 10) hx hb ht inX0 hown hK hP 0 rfl rfl 4 (by decide) (ht _ wd52) (fun _ h9 => h9) rfl dX0_endsAheadOf_7 ?_
  refine lv_iload_n hx hb dX0_endsAheadOf_10 rfl (lv_at hl 2 rfl) ?_
  refine xa_iald hx hb hK hP 5 0 (i := c) rfl rfl (by omega) (by decide) dX0_endsAheadOf_11 ?_
  refine lv_icmp_lt (tgt := 35) hx hb dX0_endsAheadOf_12 (by decide) (fun h_12 => ?_) (fun h_12 => ?_)
  · skip
    refine lv_iconst (v := nI 1) hx hb dX0_endsAheadOf_35 (by decide) ?_
    refine lv_goto (tgt := 40) hx hb dX0_endsAheadOf_36 (by decide) ?_
    exact xr_zret (v := nI 1) hx hb hr hlocks (by first | rfl | exact bI_nar _) (bI_1 (by unfold aheadK; first | (rw [if_pos h_12]; done) | (rw [if_neg h_12, decide_eq_true h_27, decide_eq_true (show d < c by omega)]; rfl))) dX0_endsAheadOf_40
  · skip
    refine lv_aload_n hx hb dX0_endsAheadOf_15 rfl (lv_at hl 0 rfl) ?_
    refine va_get (D := D) (ci := 0) (v := .ref (a 5)) (C := RX0) (T := TX0) (N := 10) hx hb ht inX0 hown hK hP 0 rfl rfl 4 (by decide) (ht _ wd52) (fun _ h9 => h9) rfl dX0_endsAheadOf_16 ?_
    refine lv_iload_n hx hb dX0_endsAheadOf_19 rfl (lv_at hl 1 rfl) ?_
    refine xa_iald hx hb hK hP 5 0 (i := d) rfl rfl (by omega) (by decide) dX0_endsAheadOf_20 ?_
    refine lv_aload_n hx hb dX0_endsAheadOf_21 rfl (lv_at hl 0 rfl) ?_
    refine va_get (D := D) (ci := 0) (v := .ref (a 5)) (C := RX0) (T := TX0) (N := 10) hx hb ht inX0 hown hK hP 0 rfl rfl 4 (by decide) (ht _ wd52) (fun _ h9 => h9) rfl dX0_endsAheadOf_22 ?_
    refine lv_iload_n hx hb dX0_endsAheadOf_25 rfl (lv_at hl 2 rfl) ?_
    refine xa_iald hx hb hK hP 5 0 (i := c) rfl rfl (by omega) (by decide) dX0_endsAheadOf_26 ?_
    refine lv_icmp_ne (tgt := 39) hx hb dX0_endsAheadOf_27 (by decide) (fun h_27 => ?_) (fun h_27 => ?_)
    · skip
      refine lv_iconst (v := nI 0) hx hb dX0_endsAheadOf_39 (by decide) ?_
      exact xr_zret (v := nI 0) hx hb hr hlocks (by first | rfl | exact bI_nar _) (bI_0 (by unfold aheadK; rw [if_neg h_12]; first | (rw [decide_eq_false h_27]; rfl) | (rw [decide_eq_false (show ¬ d < c by omega), Bool.and_false]))) dX0_endsAheadOf_40
    · skip
      refine lv_iload_n hx hb dX0_endsAheadOf_30 rfl (lv_at hl 1 rfl) ?_
      refine lv_iload_n hx hb dX0_endsAheadOf_31 rfl (lv_at hl 2 rfl) ?_
      refine lv_icmp_ge (tgt := 39) hx hb dX0_endsAheadOf_32 (by decide) (fun h_32 => ?_) (fun h_32 => ?_)
      · skip
        have h_32 : c ≤ d := (nI_leI (by omega) (by omega)).mp h_32
        refine lv_iconst (v := nI 0) hx hb dX0_endsAheadOf_39 (by decide) ?_
        exact xr_zret (v := nI 0) hx hb hr hlocks (by first | rfl | exact bI_nar _) (bI_0 (by unfold aheadK; rw [if_neg h_12]; first | (rw [decide_eq_false h_27]; rfl) | (rw [decide_eq_false (show ¬ d < c by omega), Bool.and_false]))) dX0_endsAheadOf_40
      · skip
        have h_32 : ¬ (c ≤ d) := fun z => h_32 ((nI_leI (by omega) (by omega)).mpr z)
        refine lv_iconst (v := nI 1) hx hb dX0_endsAheadOf_35 (by decide) ?_
        refine lv_goto (tgt := 40) hx hb dX0_endsAheadOf_36 (by decide) ?_
        exact xr_zret (v := nI 1) hx hb hr hlocks (by first | rfl | exact bI_nar _) (bI_1 (by unfold aheadK; first | (rw [if_pos h_12]; done) | (rw [if_neg h_12, decide_eq_true h_27, decide_eq_true (show d < c by omega)]; rfl))) dX0_endsAheadOf_40
set_option maxHeartbeats 4000000 in
set_option maxRecDepth 100000 in
theorem r_X0_rankOf (l : Launch) (D : va_G) (a : Nat → Nat) (cI cZ : ClassId) (S : KS) (hO : kOk S) (c : Nat) (hc : c < kN S) (pl : Nat) (hp : pl < 120) (t : Int32) : xRO l yX0_rankOf cX0_rankOf 6 (some .int) (xrm 4 87) [.ref (a 0), .int (nI c), .int (nI pl), .int (t)] D (wK a cI cZ S) (tyL cI cZ) (nI (rankK S c pl t)) := by
  refine xRO.of (by decide) (Nat.le_of_ble_eq_true rfl) ?_
  intro p e s m args below meth cd hx hb hr hml hown hlocks ht hN hP hK ls hl
  have hl : lv_has ls 6 [(0, .ref (a 0)), (1, .int (nI c)), (2, .int (nI pl)), (3, .int (t))] := hl
  have hown : s.vm.findClass RX0 = some m.cls := hown
  have hn := hO.1
  have L6 : ∀ (n : Nat) (k : Nat) (d : Nat), kN S < d + n → d ≤ kN S → k = cntN (fun d => aheadK S d c && onK S d pl t) d → ∀ ls : Array Slot, lv_has ls 6 [(0, .ref (a 0)), (1, .int (nI c)), (2, .int (nI pl)), (3, .int (t)), (4, .int (nI k)), (5, .int (nI d))] → W p l e (xrm 4 87) s m args below meth cd s.heap [] 0 0 (MQ below (QcRead (nI (rankK S c pl t))) args s 0 0 (fun _ => False)) (F0 m 6 ls []) := by
    intro n
    induction n with
    | zero =>
      intro k d hfuel hi hv
      exact absurd hfuel (by omega)
    | succ n ih6 =>
      intro k d hfuel hi hv ls hl
      refine lv_iload hx hb dX0_rankOf_6 (lv_at hl 5 rfl) ?_
      refine lv_aload_n hx hb dX0_rankOf_8 rfl (lv_at hl 0 rfl) ?_
      refine va_get (D := D) (ci := 0) (v := .int (nI (kN S))) (C := RX0) (T := TX0) (N := 10) hx hb ht inX0 hown hK hP 0 rfl rfl 9 (by decide) (ht _ wd57) (fun _ h9 => h9) rfl dX0_rankOf_9 ?_
      refine lv_icmp_ge (tgt := 45) hx hb dX0_rankOf_12 (by decide) (fun h_12 => ?_) (fun h_12 => ?_)
      · skip
        have h_12 : (kN S) ≤ d := (nI_leI (by omega) (by omega)).mp h_12
        refine lv_iload hx hb dX0_rankOf_45 (lv_at hl 4 rfl) ?_
        exact xr_iret (v := nI k) hx hb hr hlocks (by rw [rankK, show kN S = d by omega, ← hv]) dX0_rankOf_47
      · skip
        have h_12 : ¬ ((kN S) ≤ d) := fun z => h_12 ((nI_leI (by omega) (by omega)).mpr z)
        refine lv_aload_n hx hb dX0_rankOf_15 rfl (lv_at hl 0 rfl) ?_
        refine lv_iload hx hb dX0_rankOf_16 (lv_at hl 5 rfl) ?_
        refine lv_iload_n hx hb dX0_rankOf_18 rfl (lv_at hl 1 rfl) ?_
        refine xrV (As := [.int (nI d), .int (nI c)]) (rest := []) hx hb hml hown ht hN kV_X0_69 (r_X0_endsAheadOf l D a cI cZ S hO d c (by omega) hc) ⟨by decide, by decide⟩ hP hK rfl rfl rfl rfl hl.1 rfl (Nat.le_of_ble_eq_true rfl) dX0_rankOf_19 ⟨Nat.zero_le _, Nat.zero_le _⟩ ?_
        refine lv_if_eq (tgt := 39) hx hb dX0_rankOf_22 (by decide) (fun h_22 => ?_) (fun h_22 => ?_)
        · skip
          refine lv_iinc (v := nI (d + 1)) (lv' := [(5, .int (nI (d + 1))), (0, .ref (a 0)), (1, .int (nI c)), (2, .int (nI pl)), (3, .int (t)), (4, .int (nI k))]) hx hb dX0_rankOf_39 hl (k := 5) rfl (nI_1 _) (by decide) rfl (fun ls hl => ?_)
          refine lv_goto (tgt := 6) hx hb dX0_rankOf_42 (by decide) ?_
          exact ih6 k (d + 1) (by omega) (by omega) (by rw [cntN, ← hv]; first | (rw [bI_f h_22]; rfl) | (rw [bI_t h_22, bI_t h_33]; rfl) | (rw [bI_f h_33, Bool.and_false]; rfl)) ls (lv_sub hl [1, 2, 3, 4, 5, 0] rfl)
        · skip
          refine lv_aload_n hx hb dX0_rankOf_25 rfl (lv_at hl 0 rfl) ?_
          refine lv_iload hx hb dX0_rankOf_26 (lv_at hl 5 rfl) ?_
          refine lv_iload_n hx hb dX0_rankOf_28 rfl (lv_at hl 2 rfl) ?_
          refine lv_iload_n hx hb dX0_rankOf_29 rfl (lv_at hl 3 rfl) ?_
          refine xrV (As := [.int (nI d), .int (nI pl), .int (t)]) (rest := []) hx hb hml hown ht hN kV_X0_44 (r_X0_holdsOn l D a cI cZ S hO d (by omega) pl hp t) ⟨by decide, by decide⟩ hP hK rfl rfl rfl rfl hl.1 rfl (Nat.le_of_ble_eq_true rfl) dX0_rankOf_30 ⟨Nat.zero_le _, Nat.zero_le _⟩ ?_
          refine lv_if_eq (tgt := 39) hx hb dX0_rankOf_33 (by decide) (fun h_33 => ?_) (fun h_33 => ?_)
          · skip
            refine lv_iinc (v := nI (d + 1)) (lv' := [(5, .int (nI (d + 1))), (0, .ref (a 0)), (1, .int (nI c)), (2, .int (nI pl)), (3, .int (t)), (4, .int (nI k))]) hx hb dX0_rankOf_39 hl (k := 5) rfl (nI_1 _) (by decide) rfl (fun ls hl => ?_)
            refine lv_goto (tgt := 6) hx hb dX0_rankOf_42 (by decide) ?_
            exact ih6 k (d + 1) (by omega) (by omega) (by rw [cntN, ← hv]; first | (rw [bI_f h_22]; rfl) | (rw [bI_t h_22, bI_t h_33]; rfl) | (rw [bI_f h_33, Bool.and_false]; rfl)) ls (lv_sub hl [1, 2, 3, 4, 5, 0] rfl)
          · skip
            refine lv_iinc (v := nI (k + 1)) (lv' := [(4, .int (nI (k + 1))), (0, .ref (a 0)), (1, .int (nI c)), (2, .int (nI pl)), (3, .int (t)), (5, .int (nI d))]) hx hb dX0_rankOf_36 hl (k := 4) rfl (nI_1 _) (by decide) rfl (fun ls hl => ?_)
            refine lv_iinc (v := nI (d + 1)) (lv' := [(5, .int (nI (d + 1))), (4, .int (nI (k + 1))), (0, .ref (a 0)), (1, .int (nI c)), (2, .int (nI pl)), (3, .int (t))]) hx hb dX0_rankOf_39 hl (k := 5) rfl (nI_1 _) (by decide) rfl (fun ls hl => ?_)
            refine lv_goto (tgt := 6) hx hb dX0_rankOf_42 (by decide) ?_
            exact ih6 (k + 1) (d + 1) (by omega) (by omega) (by rw [cntN, ← hv]; first | (rw [bI_f h_22]; rfl) | (rw [bI_t h_22, bI_t h_33]; rfl) | (rw [bI_f h_33, Bool.and_false]; rfl)) ls (lv_sub hl [2, 3, 4, 5, 1, 0] rfl)
  refine lv_iconst (v := nI 0) hx hb dX0_rankOf_0 (by decide) ?_
  refine lv_istore (lv' := [(4, .int (nI 0)), (0, .ref (a 0)), (1, .int (nI c)), (2, .int (nI pl)), (3, .int (t))]) hx hb dX0_rankOf_1 hl (by decide) rfl (fun ls hl => ?_)
  refine lv_iconst (v := nI 0) hx hb dX0_rankOf_3 (by decide) ?_
  refine lv_istore (lv' := [(5, .int (nI 0)), (4, .int (nI 0)), (0, .ref (a 0)), (1, .int (nI c)), (2, .int (nI pl)), (3, .int (t))]) hx hb dX0_rankOf_4 hl (by decide) rfl (fun ls hl => ?_)
  exact L6 (kN S + 1) 0 0 (by omega) (by omega) rfl ls (lv_sub hl [2, 3, 4, 5, 1, 0] rfl)
set_option maxHeartbeats 4000000 in
set_option maxRecDepth 100000 in
theorem r_X0_holdingAt (l : Launch) (D : va_G) (a : Nat → Nat) (cI cZ : ClassId) (S : KS) (hO : kOk S) (pl : Nat) (hp : pl < 120) (t i : Int32) : xRO l yX0_holdingAt cX0_holdingAt 5 (some .int) (xrm 5 112) [.ref (a 0), .int (nI pl), .int (t), .int (i)] D (wK a cI cZ S) (tyL cI cZ) (holdingK S pl t i) := by
  refine xRO.of (by decide) (Nat.le_of_ble_eq_true rfl) ?_
  intro p e s m args below meth cd hx hb hr hml hown hlocks ht hN hP hK ls hl
  have hl : lv_has ls 5 [(0, .ref (a 0)), (1, .int (nI pl)), (2, .int (t)), (3, .int (i))] := hl
  have hown : s.vm.findClass RX0 = some m.cls := hown
  have hn := hO.1
  have L3 : ∀ (n : Nat) (c : Nat), kN S < c + n → c ≤ kN S → holdingK S pl t i = fstN (fun c => onK S c pl t && decide (nI (rankK S c pl t) = i)) c (kN S - c) → ∀ ls : Array Slot, lv_has ls 5 [(0, .ref (a 0)), (1, .int (nI pl)), (2, .int (t)), (3, .int (i)), (4, .int (nI c))] → W p l e (xrm 5 112) s m args below meth cd s.heap [] 0 0 (MQ below (QcRead (holdingK S pl t i)) args s 0 0 (fun _ => False)) (F0 m 3 ls []) := by
    intro n
    induction n with
    | zero =>
      intro c hfuel hi hv
      exact absurd hfuel (by omega)
    | succ n ih3 =>
      intro c hfuel hi hv ls hl
      refine lv_iload hx hb dX0_holdingAt_3 (lv_at hl 4 rfl) ?_
      refine lv_aload_n hx hb dX0_holdingAt_5 rfl (lv_at hl 0 rfl) ?_
      refine va_get (D := D) (ci := 0) (v := .int (nI (kN S))) (C := RX0) (T := TX0) (N := 10) hx hb ht inX0 hown hK hP 0 rfl rfl 9 (by decide) (ht _ wd57) (fun _ h9 => h9) rfl dX0_holdingAt_6 ?_
      refine lv_icmp_ge (tgt := 44) hx hb dX0_holdingAt_9 (by decide) (fun h_9 => ?_) (fun h_9 => ?_)
      · skip
        have h_9 : (kN S) ≤ c := (nI_leI (by omega) (by omega)).mp h_9
        refine lv_iconst (v := (-1 : Int32)) hx hb dX0_holdingAt_44 (by decide) ?_
        exact xr_iret (v := (-1 : Int32)) hx hb hr hlocks (by rw [hv, show kN S - c = 0 by omega]; rfl) dX0_holdingAt_45
      · skip
        have h_9 : ¬ ((kN S) ≤ c) := fun z => h_9 ((nI_leI (by omega) (by omega)).mpr z)
        refine lv_aload_n hx hb dX0_holdingAt_12 rfl (lv_at hl 0 rfl) ?_
        refine lv_iload hx hb dX0_holdingAt_13 (lv_at hl 4 rfl) ?_
        refine lv_iload_n hx hb dX0_holdingAt_15 rfl (lv_at hl 1 rfl) ?_
        refine lv_iload_n hx hb dX0_holdingAt_16 rfl (lv_at hl 2 rfl) ?_
        refine xrV (As := [.int (nI c), .int (nI pl), .int (t)]) (rest := []) hx hb hml hown ht hN kV_X0_44 (r_X0_holdsOn l D a cI cZ S hO c (by omega) pl hp t) ⟨by decide, by decide⟩ hP hK rfl rfl rfl rfl hl.1 rfl (Nat.le_of_ble_eq_true rfl) dX0_holdingAt_17 ⟨Nat.zero_le _, Nat.zero_le _⟩ ?_
        refine lv_if_eq (tgt := 38) hx hb dX0_holdingAt_20 (by decide) (fun h_20 => ?_) (fun h_20 => ?_)
        · skip
          refine lv_iinc (v := nI (c + 1)) (lv' := [(4, .int (nI (c + 1))), (0, .ref (a 0)), (1, .int (nI pl)), (2, .int (t)), (3, .int (i))]) hx hb dX0_holdingAt_38 hl (k := 4) rfl (nI_1 _) (by decide) rfl (fun ls hl => ?_)
          refine lv_goto (tgt := 3) hx hb dX0_holdingAt_41 (by decide) ?_
          exact ih3 (c + 1) (by omega) (by omega) (by rw [hv, show kN S - c = (kN S - (c + 1)) + 1 by omega, fstN]; first | (rw [bI_f h_20]; rfl) | (rw [bI_t h_20, decide_eq_false h_32]; rfl)) ls (lv_sub hl [1, 2, 3, 4, 0] rfl)
        · skip
          refine lv_aload_n hx hb dX0_holdingAt_23 rfl (lv_at hl 0 rfl) ?_
          refine lv_iload hx hb dX0_holdingAt_24 (lv_at hl 4 rfl) ?_
          refine lv_iload_n hx hb dX0_holdingAt_26 rfl (lv_at hl 1 rfl) ?_
          refine lv_iload_n hx hb dX0_holdingAt_27 rfl (lv_at hl 2 rfl) ?_
          refine xrV (As := [.int (nI c), .int (nI pl), .int (t)]) (rest := []) hx hb hml hown ht hN kV_X0_65 (r_X0_rankOf l D a cI cZ S hO c (by omega) pl hp t) ⟨by decide, by decide⟩ hP hK rfl rfl rfl rfl hl.1 rfl (Nat.le_of_ble_eq_true rfl) dX0_holdingAt_28 ⟨Nat.zero_le _, Nat.zero_le _⟩ ?_
          refine lv_iload_n hx hb dX0_holdingAt_31 rfl (lv_at hl 3 rfl) ?_
          refine lv_icmp_ne (tgt := 38) hx hb dX0_holdingAt_32 (by decide) (fun h_32 => ?_) (fun h_32 => ?_)
          · skip
            refine lv_iinc (v := nI (c + 1)) (lv' := [(4, .int (nI (c + 1))), (0, .ref (a 0)), (1, .int (nI pl)), (2, .int (t)), (3, .int (i))]) hx hb dX0_holdingAt_38 hl (k := 4) rfl (nI_1 _) (by decide) rfl (fun ls hl => ?_)
            refine lv_goto (tgt := 3) hx hb dX0_holdingAt_41 (by decide) ?_
            exact ih3 (c + 1) (by omega) (by omega) (by rw [hv, show kN S - c = (kN S - (c + 1)) + 1 by omega, fstN]; first | (rw [bI_f h_20]; rfl) | (rw [bI_t h_20, decide_eq_false h_32]; rfl)) ls (lv_sub hl [1, 2, 3, 4, 0] rfl)
          · skip
            refine lv_iload hx hb dX0_holdingAt_35 (lv_at hl 4 rfl) ?_
            exact xr_iret (v := nI c) hx hb hr hlocks (by rw [hv, show kN S - c = (kN S - (c + 1)) + 1 by omega, fstN, bI_t h_20, decide_eq_true h_32]; rfl) dX0_holdingAt_37
  refine lv_iconst (v := nI 0) hx hb dX0_holdingAt_0 (by decide) ?_
  refine lv_istore (lv' := [(4, .int (nI 0)), (0, .ref (a 0)), (1, .int (nI pl)), (2, .int (t)), (3, .int (i))]) hx hb dX0_holdingAt_1 hl (by decide) rfl (fun ls hl => ?_)
  exact L3 (kN S + 1) 0 (by omega) (by omega) rfl ls (lv_sub hl [1, 2, 3, 4, 0] rfl)
set_option maxHeartbeats 4000000 in
set_option maxRecDepth 100000 in
theorem r_X0_percentAt (l : Launch) (D : va_G) (a : Nat → Nat) (cI cZ : ClassId) (S : KS) (hO : kOk S) (pl : Nat) (hp : pl < 120) (t : Int32) : xRO l yX0_percentAt cX0_percentAt 5 (some .int) (xrm 4 87) [.ref (a 0), .int (nI pl), .int (t)] D (wK a cI cZ S) (tyL cI cZ) (percentK S pl t) := by
  refine xRO.of (by decide) (Nat.le_of_ble_eq_true rfl) ?_
  intro p e s m args below meth cd hx hb hr hml hown hlocks ht hN hP hK ls hl
  have hl : lv_has ls 5 [(0, .ref (a 0)), (1, .int (nI pl)), (2, .int (t))] := hl
  have hown : s.vm.findClass RX0 = some m.cls := hown
  have hn := hO.1
  have L6 : ∀ (n : Nat) (v : Int32) (c : Nat), kN S < c + n → c ≤ kN S → v = minN (fun c => decide (kKd S c = nI 5) && onK S c pl t) (kXs S) c → ∀ ls : Array Slot, lv_has ls 5 [(0, .ref (a 0)), (1, .int (nI pl)), (2, .int (t)), (3, .int (v)), (4, .int (nI c))] → W p l e (xrm 4 87) s m args below meth cd s.heap [] 0 0 (MQ below (QcRead (percentK S pl t)) args s 0 0 (fun _ => False)) (F0 m 6 ls []) := by
    intro n
    induction n with
    | zero =>
      intro v c hfuel hi hv
      exact absurd hfuel (by omega)
    | succ n ih6 =>
      intro v c hfuel hi hv ls hl
      refine lv_iload hx hb dX0_percentAt_6 (lv_at hl 4 rfl) ?_
      refine lv_aload_n hx hb dX0_percentAt_8 rfl (lv_at hl 0 rfl) ?_
      refine va_get (D := D) (ci := 0) (v := .int (nI (kN S))) (C := RX0) (T := TX0) (N := 10) hx hb ht inX0 hown hK hP 0 rfl rfl 9 (by decide) (ht _ wd57) (fun _ h9 => h9) rfl dX0_percentAt_9 ?_
      refine lv_icmp_ge (tgt := 55) hx hb dX0_percentAt_12 (by decide) (fun h_12 => ?_) (fun h_12 => ?_)
      · skip
        have h_12 : (kN S) ≤ c := (nI_leI (by omega) (by omega)).mp h_12
        refine lv_iload_n hx hb dX0_percentAt_55 rfl (lv_at hl 3 rfl) ?_
        exact xr_iret (v := v) hx hb hr hlocks (by rw [percentK, show kN S = c by omega, ← hv]) dX0_percentAt_56
      · skip
        have h_12 : ¬ ((kN S) ≤ c) := fun z => h_12 ((nI_leI (by omega) (by omega)).mpr z)
        refine lv_aload_n hx hb dX0_percentAt_15 rfl (lv_at hl 0 rfl) ?_
        refine va_get (D := D) (ci := 0) (v := .ref (a 1)) (C := RX0) (T := TX0) (N := 10) hx hb ht inX0 hown hK hP 0 rfl rfl 0 (by decide) (ht _ wd48) (fun _ h9 => h9) rfl dX0_percentAt_16 ?_
        refine lv_iload hx hb dX0_percentAt_19 (lv_at hl 4 rfl) ?_
        refine xa_iald hx hb hK hP 1 0 (i := c) rfl rfl (by omega) (by decide) dX0_percentAt_21 ?_
        refine lv_iconst (v := nI 5) hx hb dX0_percentAt_22 (by decide) ?_
        refine lv_icmp_ne (tgt := 49) hx hb dX0_percentAt_23 (by decide) (fun h_23 => ?_) (fun h_23 => ?_)
        · skip
          refine lv_iinc (v := nI (c + 1)) (lv' := [(4, .int (nI (c + 1))), (0, .ref (a 0)), (1, .int (nI pl)), (2, .int (t)), (3, .int (v))]) hx hb dX0_percentAt_49 hl (k := 4) rfl (nI_1 _) (by decide) rfl (fun ls hl => ?_)
          refine lv_goto (tgt := 6) hx hb dX0_percentAt_52 (by decide) ?_
          exact ih6 _ (c + 1) (by omega) (by omega) (by rw [minN, ← hv]; first | (rw [decide_eq_false h_23]; rfl) | (rw [decide_eq_true h_23, bI_t h_34]; rfl) | (rw [bI_f h_34, Bool.and_false]; rfl)) ls (lv_sub hl [1, 2, 3, 4, 0] rfl)
        · skip
          refine lv_aload_n hx hb dX0_percentAt_26 rfl (lv_at hl 0 rfl) ?_
          refine lv_iload hx hb dX0_percentAt_27 (lv_at hl 4 rfl) ?_
          refine lv_iload_n hx hb dX0_percentAt_29 rfl (lv_at hl 1 rfl) ?_
          refine lv_iload_n hx hb dX0_percentAt_30 rfl (lv_at hl 2 rfl) ?_
          refine xrV (As := [.int (nI c), .int (nI pl), .int (t)]) (rest := []) hx hb hml hown ht hN kV_X0_44 (r_X0_holdsOn l D a cI cZ S hO c (by omega) pl hp t) ⟨by decide, by decide⟩ hP hK rfl rfl rfl rfl hl.1 rfl (Nat.le_of_ble_eq_true rfl) dX0_percentAt_31 ⟨Nat.zero_le _, Nat.zero_le _⟩ ?_
          refine lv_if_eq (tgt := 49) hx hb dX0_percentAt_34 (by decide) (fun h_34 => ?_) (fun h_34 => ?_)
          · skip
            refine lv_iinc (v := nI (c + 1)) (lv' := [(4, .int (nI (c + 1))), (0, .ref (a 0)), (1, .int (nI pl)), (2, .int (t)), (3, .int (v))]) hx hb dX0_percentAt_49 hl (k := 4) rfl (nI_1 _) (by decide) rfl (fun ls hl => ?_)
            refine lv_goto (tgt := 6) hx hb dX0_percentAt_52 (by decide) ?_
            exact ih6 _ (c + 1) (by omega) (by omega) (by rw [minN, ← hv]; first | (rw [decide_eq_false h_23]; rfl) | (rw [decide_eq_true h_23, bI_t h_34]; rfl) | (rw [bI_f h_34, Bool.and_false]; rfl)) ls (lv_sub hl [1, 2, 3, 4, 0] rfl)
          · skip
            refine lv_iload_n hx hb dX0_percentAt_37 rfl (lv_at hl 3 rfl) ?_
            refine lv_aload_n hx hb dX0_percentAt_38 rfl (lv_at hl 0 rfl) ?_
            refine va_get (D := D) (ci := 0) (v := .ref (a 6)) (C := RX0) (T := TX0) (N := 10) hx hb ht inX0 hown hK hP 0 rfl rfl 5 (by decide) (ht _ wd53) (fun _ h9 => h9) rfl dX0_percentAt_39 ?_
            refine lv_iload hx hb dX0_percentAt_42 (lv_at hl 4 rfl) ?_
            refine xa_iald hx hb hK hP 6 0 (i := c) rfl rfl (by omega) (by decide) dX0_percentAt_44 ?_
            refine xr_min hx hb (hml.trans hl.1.symm) hown (ht _ wd463) (ht _ wd464) (ht _ wd32) (ht _ wd465) (by decide) (by decide) (Nat.zero_le _) (Nat.zero_le _) dX0_percentAt_45 ?_
            refine lv_istore_n (lv' := [(3, .int (mnI (v) (kXs S c))), (0, .ref (a 0)), (1, .int (nI pl)), (2, .int (t)), (4, .int (nI c))]) hx hb dX0_percentAt_48 rfl hl (by decide) rfl (fun ls hl => ?_)
            refine lv_iinc (v := nI (c + 1)) (lv' := [(4, .int (nI (c + 1))), (3, .int (mnI (v) (kXs S c))), (0, .ref (a 0)), (1, .int (nI pl)), (2, .int (t))]) hx hb dX0_percentAt_49 hl (k := 4) rfl (nI_1 _) (by decide) rfl (fun ls hl => ?_)
            refine lv_goto (tgt := 6) hx hb dX0_percentAt_52 (by decide) ?_
            exact ih6 _ (c + 1) (by omega) (by omega) (by rw [minN, ← hv]; first | (rw [decide_eq_false h_23]; rfl) | (rw [decide_eq_true h_23, bI_t h_34]; rfl) | (rw [bI_f h_34, Bool.and_false]; rfl)) ls (lv_sub hl [2, 3, 4, 1, 0] rfl)
  refine lv_bipush (v := nI 100) hx hb dX0_percentAt_0 (by decide) ?_
  refine lv_istore_n (lv' := [(3, .int (nI 100)), (0, .ref (a 0)), (1, .int (nI pl)), (2, .int (t))]) hx hb dX0_percentAt_2 rfl hl (by decide) rfl (fun ls hl => ?_)
  refine lv_iconst (v := nI 0) hx hb dX0_percentAt_3 (by decide) ?_
  refine lv_istore (lv' := [(4, .int (nI 0)), (3, .int (nI 100)), (0, .ref (a 0)), (1, .int (nI pl)), (2, .int (t))]) hx hb dX0_percentAt_4 hl (by decide) rfl (fun ls hl => ?_)
  exact L6 (kN S + 1) (nI 100) 0 (by omega) (by omega) rfl ls (lv_sub hl [2, 3, 4, 1, 0] rfl)
set_option maxHeartbeats 4000000 in
set_option maxRecDepth 100000 in
theorem r_X0_changeOf (l : Launch) (D : va_G) (a : Nat → Nat) (cI cZ : ClassId) (S : KS) (hO : kOk S) (c : Nat) (hc : c < kN S) (t : Int32) : xRO l yX0_changeOf cX0_changeOf 6 (some .int) (xrm 2 42) [.ref (a 0), .int (nI c), .int (t)] D (wK a cI cZ S) (tyL cI cZ) (changeK S c t) := by
  refine xRO.of (by decide) (Nat.le_of_ble_eq_true rfl) ?_
  intro p e s m args below meth cd hx hb hr hml hown hlocks ht hN hP hK ls hl
  have hl : lv_has ls 6 [(0, .ref (a 0)), (1, .int (nI c)), (2, .int (t))] := hl
  have hown : s.vm.findClass RX0 = some m.cls := hown
  have hn := hO.1
  refine lv_iload_n hx hb dX0_changeOf_0 rfl (lv_at hl 2 rfl) ?_
  refine lv_aload_n hx hb dX0_changeOf_1 rfl (lv_at hl 0 rfl) ?_
  refine va_get (D := D) (ci := 0) (v := .ref (a 5)) (C := RX0) (T := TX0) (N := 10) hx hb ht inX0 hown hK hP 0 rfl rfl 4 (by decide) (ht _ wd52) (fun _ h9 => h9) rfl dX0_changeOf_2 ?_
  refine lv_iload_n hx hb dX0_changeOf_5 rfl (lv_at hl 1 rfl) ?_
  refine xa_iald hx hb hK hP 5 0 (i := c) rfl rfl (by omega) (by decide) dX0_changeOf_6 ?_
  refine lv_icmp_lt (tgt := 13) hx hb dX0_changeOf_7 (by decide) (fun h_7 => ?_) (fun h_7 => ?_)
  · skip
    refine lv_iload_n hx hb dX0_changeOf_13 rfl (lv_at hl 2 rfl) ?_
    refine lv_aload_n hx hb dX0_changeOf_14 rfl (lv_at hl 0 rfl) ?_
    refine va_get (D := D) (ci := 0) (v := .ref (a 4)) (C := RX0) (T := TX0) (N := 10) hx hb ht inX0 hown hK hP 0 rfl rfl 3 (by decide) (ht _ wd51) (fun _ h9 => h9) rfl dX0_changeOf_15 ?_
    refine lv_iload_n hx hb dX0_changeOf_18 rfl (lv_at hl 1 rfl) ?_
    refine xa_iald hx hb hK hP 4 0 (i := c) rfl rfl (by omega) (by decide) dX0_changeOf_19 ?_
    refine lv_icmp_ge (tgt := 30) hx hb dX0_changeOf_20 (by decide) (fun h_20 => ?_) (fun h_20 => ?_)
    · skip
      refine lv_aload_n hx hb dX0_changeOf_30 rfl (lv_at hl 0 rfl) ?_
      refine va_get (D := D) (ci := 0) (v := .ref (a 1)) (C := RX0) (T := TX0) (N := 10) hx hb ht inX0 hown hK hP 0 rfl rfl 0 (by decide) (ht _ wd48) (fun _ h9 => h9) rfl dX0_changeOf_31 ?_
      refine lv_iload_n hx hb dX0_changeOf_34 rfl (lv_at hl 1 rfl) ?_
      refine xa_iald hx hb hK hP 1 0 (i := c) rfl rfl (by omega) (by decide) dX0_changeOf_35 ?_
      refine lv_iconst (v := nI 4) hx hb dX0_changeOf_36 (by decide) ?_
      refine lv_icmp_eq (tgt := 47) hx hb dX0_changeOf_37 (by decide) (fun h_37 => ?_) (fun h_37 => ?_)
      · skip
        refine lv_aload_n hx hb dX0_changeOf_47 rfl (lv_at hl 0 rfl) ?_
        refine lv_iload_n hx hb dX0_changeOf_48 rfl (lv_at hl 1 rfl) ?_
        refine lv_iload_n hx hb dX0_changeOf_49 rfl (lv_at hl 2 rfl) ?_
        refine xrV (As := [.int (nI c), .int (t)]) (rest := []) hx hb hml hown ht hN kV_X0_79 (r_X0_minuteOfPeriod l D a cI cZ S hO c hc t ((hO.2.2 c hc).2.1 h_37)) ⟨by decide, by decide⟩ hP hK rfl rfl rfl rfl hl.1 rfl (Nat.le_of_ble_eq_true rfl) dX0_changeOf_50 ⟨Nat.zero_le _, Nat.zero_le _⟩ ?_
        refine lv_istore_n (lv' := [(3, .int (mopK S c t)), (0, .ref (a 0)), (1, .int (nI c)), (2, .int (t))]) hx hb dX0_changeOf_53 rfl hl (by decide) rfl (fun ls hl => ?_)
        refine lv_aload_n hx hb dX0_changeOf_54 rfl (lv_at hl 1 rfl) ?_
        refine va_get (D := D) (ci := 0) (v := .ref (a 6)) (C := RX0) (T := TX0) (N := 10) hx hb ht inX0 hown hK hP 0 rfl rfl 5 (by decide) (ht _ wd53) (fun _ h9 => h9) rfl dX0_changeOf_55 ?_
        refine lv_iload_n hx hb dX0_changeOf_58 rfl (lv_at hl 2 rfl) ?_
        refine xa_iald hx hb hK hP 6 0 (i := c) rfl rfl (by omega) (by decide) dX0_changeOf_59 ?_
        refine xrN (As := [.int (kXs S c)]) (rest := []) hx hb hml hown ht hN kN_X0_82 (r_X3_lengthOf l D (kXs S c)) ⟨by decide, by decide⟩ (fun k q h => by simp at h) (hK.sub (tys' := []) [] rfl) rfl hl.1 rfl (Nat.le_of_ble_eq_true rfl) dX0_changeOf_60 ⟨Nat.zero_le _, Nat.zero_le _⟩ ?_
        refine lv_istore (lv' := [(4, .int (rI (kXs S c) (nI 100))), (3, .int (mopK S c t)), (0, .ref (a 0)), (1, .int (nI c)), (2, .int (t))]) hx hb dX0_changeOf_63 hl (by decide) rfl (fun ls hl => ?_)
        refine lv_iload_n hx hb dX0_changeOf_65 rfl (lv_at hl 1 rfl) ?_
        refine lv_iload hx hb dX0_changeOf_66 (lv_at hl 0 rfl) ?_
        refine lv_icmp_ge (tgt := 76) hx hb dX0_changeOf_68 (by decide) (fun h_68 => ?_) (fun h_68 => ?_)
        · skip
          refine lv_aload_n hx hb dX0_changeOf_76 rfl (lv_at hl 2 rfl) ?_
          refine va_get (D := D) (ci := 0) (v := .ref (a 6)) (C := RX0) (T := TX0) (N := 10) hx hb ht inX0 hown hK hP 0 rfl rfl 5 (by decide) (ht _ wd53) (fun _ h9 => h9) rfl dX0_changeOf_77 ?_
          refine lv_iload_n hx hb dX0_changeOf_80 rfl (lv_at hl 3 rfl) ?_
          refine xa_iald hx hb hK hP 6 0 (i := c) rfl rfl (by omega) (by decide) dX0_changeOf_81 ?_
          refine xrN (As := [.int (kXs S c)]) (rest := []) hx hb hml hown ht hN kN_X0_86 (r_X3_periodOf l D (kXs S c)) ⟨by decide, by decide⟩ (fun k q h => by simp at h) (hK.sub (tys' := []) [] rfl) rfl hl.1 rfl (Nat.le_of_ble_eq_true rfl) dX0_changeOf_82 ⟨Nat.zero_le _, Nat.zero_le _⟩ ?_
          refine lv_istore (lv' := [(5, .int (kXs S c / nI 100)), (4, .int (rI (kXs S c) (nI 100))), (3, .int (mopK S c t)), (0, .ref (a 0)), (1, .int (nI c)), (2, .int (t))]) hx hb dX0_changeOf_85 hl (by decide) rfl (fun ls hl => ?_)
          refine lv_iload_n hx hb dX0_changeOf_87 rfl (lv_at hl 5 rfl) ?_
          refine lv_iload_n hx hb dX0_changeOf_88 rfl (lv_at hl 2 rfl) ?_
          refine lv_isub hx hb dX0_changeOf_89 ?_
          refine lv_iload hx hb dX0_changeOf_90 (lv_at hl 0 rfl) ?_
          refine lv_iadd hx hb dX0_changeOf_92 ?_
          refine lv_aload_n hx hb dX0_changeOf_93 rfl (lv_at hl 3 rfl) ?_
          refine va_get (D := D) (ci := 0) (v := .ref (a 5)) (C := RX0) (T := TX0) (N := 10) hx hb ht inX0 hown hK hP 0 rfl rfl 4 (by decide) (ht _ wd52) (fun _ h9 => h9) rfl dX0_changeOf_94 ?_
          refine lv_iload_n hx hb dX0_changeOf_97 rfl (lv_at hl 4 rfl) ?_
          refine xa_iald hx hb hK hP 5 0 (i := c) rfl rfl (by omega) (by decide) dX0_changeOf_98 ?_
          refine xr_min hx hb (hml.trans hl.1.symm) hown (ht _ wd463) (ht _ wd464) (ht _ wd32) (ht _ wd465) (by decide) (by decide) (Nat.zero_le _) (Nat.zero_le _) dX0_changeOf_99 ?_
          exact xr_iret (v := mnI (((t) - (mopK S c t)) + (kXs S c / nI 100)) (kEn S c)) hx hb hr hlocks (by rw [changeK, if_pos h_7, if_pos h_20, if_pos h_37]; first | (rw [if_pos h_68]; done) | (rw [if_neg h_68]; done)) dX0_changeOf_102
        · skip
          refine lv_iload hx hb dX0_changeOf_71 (lv_at hl 0 rfl) ?_
          refine lv_goto (tgt := 85) hx hb dX0_changeOf_73 (by decide) ?_
          refine lv_istore (lv' := [(5, .int (rI (kXs S c) (nI 100))), (4, .int (rI (kXs S c) (nI 100))), (3, .int (mopK S c t)), (0, .ref (a 0)), (1, .int (nI c)), (2, .int (t))]) hx hb dX0_changeOf_85 hl (by decide) rfl (fun ls hl => ?_)
          refine lv_iload_n hx hb dX0_changeOf_87 rfl (lv_at hl 5 rfl) ?_
          refine lv_iload_n hx hb dX0_changeOf_88 rfl (lv_at hl 2 rfl) ?_
          refine lv_isub hx hb dX0_changeOf_89 ?_
          refine lv_iload hx hb dX0_changeOf_90 (lv_at hl 0 rfl) ?_
          refine lv_iadd hx hb dX0_changeOf_92 ?_
          refine lv_aload_n hx hb dX0_changeOf_93 rfl (lv_at hl 3 rfl) ?_
          refine va_get (D := D) (ci := 0) (v := .ref (a 5)) (C := RX0) (T := TX0) (N := 10) hx hb ht inX0 hown hK hP 0 rfl rfl 4 (by decide) (ht _ wd52) (fun _ h9 => h9) rfl dX0_changeOf_94 ?_
          refine lv_iload_n hx hb dX0_changeOf_97 rfl (lv_at hl 4 rfl) ?_
          refine xa_iald hx hb hK hP 5 0 (i := c) rfl rfl (by omega) (by decide) dX0_changeOf_98 ?_
          refine xr_min hx hb (hml.trans hl.1.symm) hown (ht _ wd463) (ht _ wd464) (ht _ wd32) (ht _ wd465) (by decide) (by decide) (Nat.zero_le _) (Nat.zero_le _) dX0_changeOf_99 ?_
          exact xr_iret (v := mnI (((t) - (mopK S c t)) + (rI (kXs S c) (nI 100))) (kEn S c)) hx hb hr hlocks (by rw [changeK, if_pos h_7, if_pos h_20, if_pos h_37]; first | (rw [if_pos h_68]; done) | (rw [if_neg h_68]; done)) dX0_changeOf_102
      · skip
        refine lv_aload_n hx hb dX0_changeOf_40 rfl (lv_at hl 0 rfl) ?_
        refine va_get (D := D) (ci := 0) (v := .ref (a 5)) (C := RX0) (T := TX0) (N := 10) hx hb ht inX0 hown hK hP 0 rfl rfl 4 (by decide) (ht _ wd52) (fun _ h9 => h9) rfl dX0_changeOf_41 ?_
        refine lv_iload_n hx hb dX0_changeOf_44 rfl (lv_at hl 1 rfl) ?_
        refine xa_iald hx hb hK hP 5 0 (i := c) rfl rfl (by omega) (by decide) dX0_changeOf_45 ?_
        exact xr_iret (v := kEn S c) hx hb hr hlocks (by rw [changeK, if_pos h_7, if_pos h_20, if_neg h_37]) dX0_changeOf_46
    · skip
      refine lv_aload_n hx hb dX0_changeOf_23 rfl (lv_at hl 0 rfl) ?_
      refine va_get (D := D) (ci := 0) (v := .ref (a 4)) (C := RX0) (T := TX0) (N := 10) hx hb ht inX0 hown hK hP 0 rfl rfl 3 (by decide) (ht _ wd51) (fun _ h9 => h9) rfl dX0_changeOf_24 ?_
      refine lv_iload_n hx hb dX0_changeOf_27 rfl (lv_at hl 1 rfl) ?_
      refine xa_iald hx hb hK hP 4 0 (i := c) rfl rfl (by omega) (by decide) dX0_changeOf_28 ?_
      exact xr_iret (v := kSt S c) hx hb hr hlocks (by rw [changeK, if_pos h_7, if_neg h_20]) dX0_changeOf_29
  · skip
    refine lv_ldc (v := nI 100000) hx hb hown (ht _ wd458) dX0_changeOf_10 ?_
    exact xr_iret (v := nI 100000) hx hb hr hlocks (by rw [changeK, if_neg h_7]) dX0_changeOf_12
set_option maxHeartbeats 4000000 in
set_option maxRecDepth 100000 in
theorem r_X0_nextChange (l : Launch) (D : va_G) (a : Nat → Nat) (cI cZ : ClassId) (S : KS) (hO : kOk S) (t : Int32) : xRO l yX0_nextChange cX0_nextChange 4 (some .int) (xrm 3 67) [.ref (a 0), .int (t)] D (wK a cI cZ S) (tyL cI cZ) (nextK S t (kN S)) := by
  refine xRO.of (by decide) (Nat.le_of_ble_eq_true rfl) ?_
  intro p e s m args below meth cd hx hb hr hml hown hlocks ht hN hP hK ls hl
  have hl : lv_has ls 4 [(0, .ref (a 0)), (1, .int (t))] := hl
  have hown : s.vm.findClass RX0 = some m.cls := hown
  have hn := hO.1
  have L5 : ∀ (n : Nat) (v : Int32) (c : Nat), kN S < c + n → c ≤ kN S → v = nextK S t c → ∀ ls : Array Slot, lv_has ls 4 [(0, .ref (a 0)), (1, .int (t)), (2, .int (v)), (3, .int (nI c))] → W p l e (xrm 3 67) s m args below meth cd s.heap [] 0 0 (MQ below (QcRead (nextK S t (kN S))) args s 0 0 (fun _ => False)) (F0 m 5 ls []) := by
    intro n
    induction n with
    | zero =>
      intro v c hfuel hi hv
      exact absurd hfuel (by omega)
    | succ n ih5 =>
      intro v c hfuel hi hv ls hl
      refine lv_iload_n hx hb dX0_nextChange_5 rfl (lv_at hl 3 rfl) ?_
      refine lv_aload_n hx hb dX0_nextChange_6 rfl (lv_at hl 0 rfl) ?_
      refine va_get (D := D) (ci := 0) (v := .int (nI (kN S))) (C := RX0) (T := TX0) (N := 10) hx hb ht inX0 hown hK hP 0 rfl rfl 9 (by decide) (ht _ wd57) (fun _ h9 => h9) rfl dX0_nextChange_7 ?_
      refine lv_icmp_ge (tgt := 30) hx hb dX0_nextChange_10 (by decide) (fun h_10 => ?_) (fun h_10 => ?_)
      · skip
        have h_10 : (kN S) ≤ c := (nI_leI (by omega) (by omega)).mp h_10
        refine lv_iload_n hx hb dX0_nextChange_30 rfl (lv_at hl 2 rfl) ?_
        exact xr_iret (v := v) hx hb hr hlocks (by rw [show kN S = c by omega, ← hv]) dX0_nextChange_31
      · skip
        have h_10 : ¬ ((kN S) ≤ c) := fun z => h_10 ((nI_leI (by omega) (by omega)).mpr z)
        refine lv_iload_n hx hb dX0_nextChange_13 rfl (lv_at hl 2 rfl) ?_
        refine lv_aload_n hx hb dX0_nextChange_14 rfl (lv_at hl 0 rfl) ?_
        refine lv_iload_n hx hb dX0_nextChange_15 rfl (lv_at hl 3 rfl) ?_
        refine lv_iload_n hx hb dX0_nextChange_16 rfl (lv_at hl 1 rfl) ?_
        refine xrV (As := [.int (nI c), .int (t)]) (rest := [.int (v)]) hx hb hml hown ht hN kV_X0_73 (r_X0_changeOf l D a cI cZ S hO c (by omega) t) ⟨by decide, by decide⟩ hP hK rfl rfl rfl rfl hl.1 rfl (Nat.le_of_ble_eq_true rfl) dX0_nextChange_17 ⟨Nat.zero_le _, Nat.zero_le _⟩ ?_
        refine xr_min hx hb (hml.trans hl.1.symm) hown (ht _ wd463) (ht _ wd464) (ht _ wd32) (ht _ wd465) (by decide) (by decide) (Nat.zero_le _) (Nat.zero_le _) dX0_nextChange_20 ?_
        refine lv_istore_n (lv' := [(2, .int (mnI (v) (changeK S c t))), (0, .ref (a 0)), (1, .int (t)), (3, .int (nI c))]) hx hb dX0_nextChange_23 rfl hl (by decide) rfl (fun ls hl => ?_)
        refine lv_iinc (v := nI (c + 1)) (lv' := [(3, .int (nI (c + 1))), (2, .int (mnI (v) (changeK S c t))), (0, .ref (a 0)), (1, .int (t))]) hx hb dX0_nextChange_24 hl (k := 3) rfl (nI_1 _) (by decide) rfl (fun ls hl => ?_)
        refine lv_goto (tgt := 5) hx hb dX0_nextChange_27 (by decide) ?_
        exact ih5 _ (c + 1) (by omega) (by omega) (by rw [nextK, ← hv]) ls (lv_sub hl [2, 3, 1, 0] rfl)
  refine lv_ldc (v := nI 100000) hx hb hown (ht _ wd458) dX0_nextChange_0 ?_
  refine lv_istore_n (lv' := [(2, .int (nI 100000)), (0, .ref (a 0)), (1, .int (t))]) hx hb dX0_nextChange_2 rfl hl (by decide) rfl (fun ls hl => ?_)
  refine lv_iconst (v := nI 0) hx hb dX0_nextChange_3 (by decide) ?_
  refine lv_istore_n (lv' := [(3, .int (nI 0)), (2, .int (nI 100000)), (0, .ref (a 0)), (1, .int (t))]) hx hb dX0_nextChange_4 rfl hl (by decide) rfl (fun ls hl => ?_)
  exact L5 (kN S + 1) (nI 100000) 0 (by omega) (by omega) (by rw [nextK]) ls (lv_sub hl [2, 3, 1, 0] rfl)
set_option maxHeartbeats 4000000 in
set_option maxRecDepth 100000 in
theorem r_X0_nextChangeOn (l : Launch) (D : va_G) (a : Nat → Nat) (cI cZ : ClassId) (S : KS) (hO : kOk S) (pl : Nat) (hp : pl < 120) (t : Int32) : xRO l yX0_nextChangeOn cX0_nextChangeOn 5 (some .int) (xrm 3 67) [.ref (a 0), .int (nI pl), .int (t)] D (wK a cI cZ S) (tyL cI cZ) (nextOnK S pl t (kN S)) := by
  refine xRO.of (by decide) (Nat.le_of_ble_eq_true rfl) ?_
  intro p e s m args below meth cd hx hb hr hml hown hlocks ht hN hP hK ls hl
  have hl : lv_has ls 5 [(0, .ref (a 0)), (1, .int (nI pl)), (2, .int (t))] := hl
  have hown : s.vm.findClass RX0 = some m.cls := hown
  have hn := hO.1
  have L6 : ∀ (n : Nat) (v : Int32) (c : Nat), kN S < c + n → c ≤ kN S → v = nextOnK S pl t c → ∀ ls : Array Slot, lv_has ls 5 [(0, .ref (a 0)), (1, .int (nI pl)), (2, .int (t)), (3, .int (v)), (4, .int (nI c))] → W p l e (xrm 3 67) s m args below meth cd s.heap [] 0 0 (MQ below (QcRead (nextOnK S pl t (kN S))) args s 0 0 (fun _ => False)) (F0 m 6 ls []) := by
    intro n
    induction n with
    | zero =>
      intro v c hfuel hi hv
      exact absurd hfuel (by omega)
    | succ n ih6 =>
      intro v c hfuel hi hv ls hl
      refine lv_iload hx hb dX0_nextChangeOn_6 (lv_at hl 4 rfl) ?_
      refine lv_aload_n hx hb dX0_nextChangeOn_8 rfl (lv_at hl 0 rfl) ?_
      refine va_get (D := D) (ci := 0) (v := .int (nI (kN S))) (C := RX0) (T := TX0) (N := 10) hx hb ht inX0 hown hK hP 0 rfl rfl 9 (by decide) (ht _ wd57) (fun _ h9 => h9) rfl dX0_nextChangeOn_9 ?_
      refine lv_icmp_ge (tgt := 43) hx hb dX0_nextChangeOn_12 (by decide) (fun h_12 => ?_) (fun h_12 => ?_)
      · skip
        have h_12 : (kN S) ≤ c := (nI_leI (by omega) (by omega)).mp h_12
        refine lv_iload_n hx hb dX0_nextChangeOn_43 rfl (lv_at hl 3 rfl) ?_
        exact xr_iret (v := v) hx hb hr hlocks (by rw [show kN S = c by omega, ← hv]) dX0_nextChangeOn_44
      · skip
        have h_12 : ¬ ((kN S) ≤ c) := fun z => h_12 ((nI_leI (by omega) (by omega)).mpr z)
        refine lv_aload_n hx hb dX0_nextChangeOn_15 rfl (lv_at hl 0 rfl) ?_
        refine lv_iload hx hb dX0_nextChangeOn_16 (lv_at hl 4 rfl) ?_
        refine lv_iload_n hx hb dX0_nextChangeOn_18 rfl (lv_at hl 1 rfl) ?_
        refine xrV (As := [.int (nI c), .int (nI pl)]) (rest := []) hx hb hml hown ht hN kV_X0_76 (r_X0_covers l D a cI cZ S hO c (by omega) pl hp) ⟨by decide, by decide⟩ hP hK rfl rfl rfl rfl hl.1 rfl (Nat.le_of_ble_eq_true rfl) dX0_nextChangeOn_19 ⟨Nat.zero_le _, Nat.zero_le _⟩ ?_
        refine lv_if_eq (tgt := 37) hx hb dX0_nextChangeOn_22 (by decide) (fun h_22 => ?_) (fun h_22 => ?_)
        · skip
          refine lv_iinc (v := nI (c + 1)) (lv' := [(4, .int (nI (c + 1))), (0, .ref (a 0)), (1, .int (nI pl)), (2, .int (t)), (3, .int (v))]) hx hb dX0_nextChangeOn_37 hl (k := 4) rfl (nI_1 _) (by decide) rfl (fun ls hl => ?_)
          refine lv_goto (tgt := 6) hx hb dX0_nextChangeOn_40 (by decide) ?_
          exact ih6 _ (c + 1) (by omega) (by omega) (by rw [nextOnK, ← hv]; first | (rw [if_pos (bI_t h_22)]; done) | (rw [if_neg (by rw [bI_f h_22]; decide)]; done)) ls (lv_sub hl [1, 2, 3, 4, 0] rfl)
        · skip
          refine lv_iload_n hx hb dX0_nextChangeOn_25 rfl (lv_at hl 3 rfl) ?_
          refine lv_aload_n hx hb dX0_nextChangeOn_26 rfl (lv_at hl 0 rfl) ?_
          refine lv_iload hx hb dX0_nextChangeOn_27 (lv_at hl 4 rfl) ?_
          refine lv_iload_n hx hb dX0_nextChangeOn_29 rfl (lv_at hl 2 rfl) ?_
          refine xrV (As := [.int (nI c), .int (t)]) (rest := [.int (v)]) hx hb hml hown ht hN kV_X0_73 (r_X0_changeOf l D a cI cZ S hO c (by omega) t) ⟨by decide, by decide⟩ hP hK rfl rfl rfl rfl hl.1 rfl (Nat.le_of_ble_eq_true rfl) dX0_nextChangeOn_30 ⟨Nat.zero_le _, Nat.zero_le _⟩ ?_
          refine xr_min hx hb (hml.trans hl.1.symm) hown (ht _ wd463) (ht _ wd464) (ht _ wd32) (ht _ wd465) (by decide) (by decide) (Nat.zero_le _) (Nat.zero_le _) dX0_nextChangeOn_33 ?_
          refine lv_istore_n (lv' := [(3, .int (mnI (v) (changeK S c t))), (0, .ref (a 0)), (1, .int (nI pl)), (2, .int (t)), (4, .int (nI c))]) hx hb dX0_nextChangeOn_36 rfl hl (by decide) rfl (fun ls hl => ?_)
          refine lv_iinc (v := nI (c + 1)) (lv' := [(4, .int (nI (c + 1))), (3, .int (mnI (v) (changeK S c t))), (0, .ref (a 0)), (1, .int (nI pl)), (2, .int (t))]) hx hb dX0_nextChangeOn_37 hl (k := 4) rfl (nI_1 _) (by decide) rfl (fun ls hl => ?_)
          refine lv_goto (tgt := 6) hx hb dX0_nextChangeOn_40 (by decide) ?_
          exact ih6 _ (c + 1) (by omega) (by omega) (by rw [nextOnK, ← hv]; first | (rw [if_pos (bI_t h_22)]; done) | (rw [if_neg (by rw [bI_f h_22]; decide)]; done)) ls (lv_sub hl [2, 3, 4, 1, 0] rfl)
  refine lv_ldc (v := nI 100000) hx hb hown (ht _ wd458) dX0_nextChangeOn_0 ?_
  refine lv_istore_n (lv' := [(3, .int (nI 100000)), (0, .ref (a 0)), (1, .int (nI pl)), (2, .int (t))]) hx hb dX0_nextChangeOn_2 rfl hl (by decide) rfl (fun ls hl => ?_)
  refine lv_iconst (v := nI 0) hx hb dX0_nextChangeOn_3 (by decide) ?_
  refine lv_istore (lv' := [(4, .int (nI 0)), (3, .int (nI 100000)), (0, .ref (a 0)), (1, .int (nI pl)), (2, .int (t))]) hx hb dX0_nextChangeOn_4 hl (by decide) rfl (fun ls hl => ?_)
  exact L6 (kN S + 1) (nI 100000) 0 (by omega) (by omega) (by rw [nextOnK]) ls (lv_sub hl [2, 3, 4, 1, 0] rfl)
