theorem kS_X3_230 : xcS RX3 230 yX3_periodOf cX3_periodOf 1 (some .int) 1 := ⟨wd256, wd254, wd255, wd21, ⟨by decide +kernel, by decide +kernel, by decide +kernel⟩⟩
theorem kS_X3_233 : xcS RX3 233 yX3_lengthOf cX3_lengthOf 1 (some .int) 1 := ⟨wd259, wd257, wd258, wd21, ⟨by decide +kernel, by decide +kernel, by decide +kernel⟩⟩
theorem kS_X3_116 : xcS RX3 116 yX3_isIncident cX3_isIncident 1 (some .boolean) 1 := ⟨wd214, wd212, wd213, wd21, ⟨by decide +kernel, by decide +kernel, by decide +kernel⟩⟩
theorem kS_X3_75 : xcS RX3 75 yX3_hasEnd cX3_hasEnd 1 (some .boolean) 1 := ⟨wd246, wd244, wd245, wd21, ⟨by decide +kernel, by decide +kernel, by decide +kernel⟩⟩
theorem kS_X3_223 : xcS RX3 223 yX3_isTimetable cX3_isTimetable 2 (some .boolean) 1 := ⟨wd253, wd251, wd252, wd21, ⟨by decide +kernel, by decide +kernel, by decide +kernel⟩⟩
theorem kS_X3_45 : xcS RX3 45 yX3_needPiece cX3_needPiece 1 none 1 := ⟨wd218, wd216, wd217, wd21, ⟨by decide +kernel, by decide +kernel, by decide +kernel⟩⟩
theorem kS_X3_214 : xcS RX3 214 yX3_placeOf cX3_placeOf 2 (some .int) 2 := ⟨wd311, wd432, wd310, wd21, ⟨by decide +kernel, by decide +kernel, by decide +kernel⟩⟩
set_option maxHeartbeats 4000000 in
set_option maxRecDepth 100000 in
theorem r_X3_isIncident (l : Launch) (D : va_G) (x : Int32) : xRO l yX3_isIncident cX3_isIncident 1 (some .boolean) (xrm 0 0) [.int (x)] D [] [] (bI (inI x (nI 0) (nI 19))) := by
  refine xRO.of (by decide +kernel) (Nat.le_of_ble_eq_true rfl) ?_
  intro p e s m args below meth cd hx hb hr hml hown hlocks ht hN hP hK ls hl
  have hl : lv_has ls 1 [(0, .int (x))] := hl
  have hown : s.vm.findClass RX3 = some m.cls := hown
  refine lv_iload_n hx hb dX3_isIncident_0 rfl (lv_at hl 0 rfl) ?_
  refine lv_if_lt (tgt := 14) hx hb dX3_isIncident_1 (by decide) (fun h_1 => ?_) (fun h_1 => ?_)
  · skip
    have h_1 : (x : Int32) < (0 : Int32) := h_1
    refine lv_iconst (v := nI 0) hx hb dX3_isIncident_14 (by decide) ?_
    exact xr_zret (v := nI 0) hx hb hr hlocks (by first | rfl | exact bI_nar _) (bI_0 (by first | exact inI_lo (lo := nI 0) h_1 | exact inI_hi ((le_sI (by decide)).mp h_7))) dX3_isIncident_15
  · skip
    have h_1 : ¬ ((x : Int32) < (0 : Int32)) := h_1
    refine lv_iload_n hx hb dX3_isIncident_4 rfl (lv_at hl 0 rfl) ?_
    refine lv_bipush (v := nI 20) hx hb dX3_isIncident_5 (by decide) ?_
    refine lv_icmp_ge (tgt := 14) hx hb dX3_isIncident_7 (by decide) (fun h_7 => ?_) (fun h_7 => ?_)
    · skip
      have h_7 : (nI 20 : Int32) ≤ (x : Int32) := h_7
      refine lv_iconst (v := nI 0) hx hb dX3_isIncident_14 (by decide) ?_
      exact xr_zret (v := nI 0) hx hb hr hlocks (by first | rfl | exact bI_nar _) (bI_0 (by first | exact inI_lo (lo := nI 0) h_1 | exact inI_hi ((le_sI (by decide)).mp h_7))) dX3_isIncident_15
    · skip
      have h_7 : ¬ ((nI 20 : Int32) ≤ (x : Int32)) := h_7
      refine lv_iconst (v := nI 1) hx hb dX3_isIncident_10 (by decide) ?_
      refine lv_goto (tgt := 15) hx hb dX3_isIncident_11 (by decide) ?_
      exact xr_zret (v := nI 1) hx hb hr hlocks (by first | rfl | exact bI_nar _) (bI_1 (inI_t (lo := nI 0) h_1 (fun z => h_7 ((le_sI (by decide)).mpr z)))) dX3_isIncident_15
set_option maxHeartbeats 4000000 in
set_option maxRecDepth 100000 in
theorem r_X3_hasEnd (l : Launch) (D : va_G) (k : Int32) : xRO l yX3_hasEnd cX3_hasEnd 1 (some .boolean) (xrm 0 0) [.int (k)] D [] [] (bI (bEnd k)) := by
  refine xRO.of (by decide +kernel) (Nat.le_of_ble_eq_true rfl) ?_
  intro p e s m args below meth cd hx hb hr hml hown hlocks ht hN hP hK ls hl
  have hl : lv_has ls 1 [(0, .int (k))] := hl
  have hown : s.vm.findClass RX3 = some m.cls := hown
  refine lv_iload_n hx hb dX3_hasEnd_0 rfl (lv_at hl 0 rfl) ?_
  refine lv_iconst (v := nI 2) hx hb dX3_hasEnd_1 (by decide) ?_
  refine lv_icmp_eq (tgt := 14) hx hb dX3_hasEnd_2 (by decide) (fun h_2 => ?_) (fun h_2 => ?_)
  · skip
    have h_2 : (k : Int32) = (nI 2 : Int32) := h_2
    refine lv_iconst (v := nI 0) hx hb dX3_hasEnd_14 (by decide) ?_
    exact xr_zret (v := nI 0) hx hb hr hlocks (by first | rfl | exact bI_nar _) (bI_0 (by unfold bEnd; first | (rw [decide_eq_true h_2]; rfl) | (rw [decide_eq_true h_7, Bool.not_true, Bool.and_false]))) dX3_hasEnd_15
  · skip
    have h_2 : ¬ ((k : Int32) = (nI 2 : Int32)) := h_2
    refine lv_iload_n hx hb dX3_hasEnd_5 rfl (lv_at hl 0 rfl) ?_
    refine lv_iconst (v := nI 3) hx hb dX3_hasEnd_6 (by decide) ?_
    refine lv_icmp_eq (tgt := 14) hx hb dX3_hasEnd_7 (by decide) (fun h_7 => ?_) (fun h_7 => ?_)
    · skip
      have h_7 : (k : Int32) = (nI 3 : Int32) := h_7
      refine lv_iconst (v := nI 0) hx hb dX3_hasEnd_14 (by decide) ?_
      exact xr_zret (v := nI 0) hx hb hr hlocks (by first | rfl | exact bI_nar _) (bI_0 (by unfold bEnd; first | (rw [decide_eq_true h_2]; rfl) | (rw [decide_eq_true h_7, Bool.not_true, Bool.and_false]))) dX3_hasEnd_15
    · skip
      have h_7 : ¬ ((k : Int32) = (nI 3 : Int32)) := h_7
      refine lv_iconst (v := nI 1) hx hb dX3_hasEnd_10 (by decide) ?_
      refine lv_goto (tgt := 15) hx hb dX3_hasEnd_11 (by decide) ?_
      exact xr_zret (v := nI 1) hx hb hr hlocks (by first | rfl | exact bI_nar _) (bI_1 (by unfold bEnd; rw [decide_eq_false h_2, decide_eq_false h_7]; rfl)) dX3_hasEnd_15
set_option maxHeartbeats 4000000 in
set_option maxRecDepth 100000 in
theorem r_X3_isTimetable (l : Launch) (D : va_G) (x : Int32) : xRO l yX3_isTimetable cX3_isTimetable 2 (some .boolean) (xrm 1 20) [.int (x)] D [] [] (bI (numM (nI 4) x)) := by
  refine xRO.of (by decide +kernel) (Nat.le_of_ble_eq_true rfl) ?_
  intro p e s m args below meth cd hx hb hr hml hown hlocks ht hN hP hK ls hl
  have hl : lv_has ls 2 [(0, .int (x))] := hl
  have hown : s.vm.findClass RX3 = some m.cls := hown
  refine lv_iload_n hx hb dX3_isTimetable_0 rfl (lv_at hl 0 rfl) ?_
  refine xrS (As := [.int (x)]) (rest := []) hx hb hml hown ht hN kS_X3_230 (r_X3_periodOf l D x) ⟨by decide, by decide⟩ hP hK rfl hl.1 rfl (Nat.le_of_ble_eq_true rfl) dX3_isTimetable_1 ⟨Nat.zero_le _, Nat.zero_le _⟩ ?_
  refine lv_istore_n (lv' := [(1, .int (x / nI 100)), (0, .int (x))]) hx hb dX3_isTimetable_4 rfl hl (by decide) rfl (fun ls hl => ?_)
  refine lv_iload_n hx hb dX3_isTimetable_5 rfl (lv_at hl 0 rfl) ?_
  refine lv_iconst (v := nI 1) hx hb dX3_isTimetable_6 (by decide) ?_
  refine lv_icmp_lt (tgt := 28) hx hb dX3_isTimetable_7 (by decide) (fun h_7 => ?_) (fun h_7 => ?_)
  · skip
    have h_7 : (x / nI 100 : Int32) < (nI 1 : Int32) := h_7
    refine lv_iconst (v := nI 0) hx hb dX3_isTimetable_28 (by decide) ?_
    exact xr_zret (v := nI 0) hx hb hr hlocks (by first | rfl | exact bI_nar _) (bI_0 (by rw [← tmt_eq]; first | (rw [inI_lo h_7]; rfl) | (rw [inI_hi h_13]; rfl) | (rw [decide_eq_true h_21, Bool.not_true, Bool.and_false]))) dX3_isTimetable_29
  · skip
    have h_7 : ¬ ((x / nI 100 : Int32) < (nI 1 : Int32)) := h_7
    refine lv_iload_n hx hb dX3_isTimetable_10 rfl (lv_at hl 0 rfl) ?_
    refine lv_bipush (v := nI 99) hx hb dX3_isTimetable_11 (by decide) ?_
    refine lv_icmp_gt (tgt := 28) hx hb dX3_isTimetable_13 (by decide) (fun h_13 => ?_) (fun h_13 => ?_)
    · skip
      have h_13 : (nI 99 : Int32) < (x / nI 100 : Int32) := h_13
      refine lv_iconst (v := nI 0) hx hb dX3_isTimetable_28 (by decide) ?_
      exact xr_zret (v := nI 0) hx hb hr hlocks (by first | rfl | exact bI_nar _) (bI_0 (by rw [← tmt_eq]; first | (rw [inI_lo h_7]; rfl) | (rw [inI_hi h_13]; rfl) | (rw [decide_eq_true h_21, Bool.not_true, Bool.and_false]))) dX3_isTimetable_29
    · skip
      have h_13 : ¬ ((nI 99 : Int32) < (x / nI 100 : Int32)) := h_13
      refine lv_iload_n hx hb dX3_isTimetable_16 rfl (lv_at hl 1 rfl) ?_
      refine xrS (As := [.int (x)]) (rest := []) hx hb hml hown ht hN kS_X3_233 (r_X3_lengthOf l D x) ⟨by decide, by decide⟩ hP hK rfl hl.1 rfl (Nat.le_of_ble_eq_true rfl) dX3_isTimetable_17 ⟨Nat.zero_le _, Nat.zero_le _⟩ ?_
      refine lv_iload_n hx hb dX3_isTimetable_20 rfl (lv_at hl 0 rfl) ?_
      refine lv_icmp_gt (tgt := 28) hx hb dX3_isTimetable_21 (by decide) (fun h_21 => ?_) (fun h_21 => ?_)
      · skip
        have h_21 : (x / nI 100 : Int32) < (rI x (nI 100) : Int32) := h_21
        refine lv_iconst (v := nI 0) hx hb dX3_isTimetable_28 (by decide) ?_
        exact xr_zret (v := nI 0) hx hb hr hlocks (by first | rfl | exact bI_nar _) (bI_0 (by rw [← tmt_eq]; first | (rw [inI_lo h_7]; rfl) | (rw [inI_hi h_13]; rfl) | (rw [decide_eq_true h_21, Bool.not_true, Bool.and_false]))) dX3_isTimetable_29
      · skip
        have h_21 : ¬ ((x / nI 100 : Int32) < (rI x (nI 100) : Int32)) := h_21
        refine lv_iconst (v := nI 1) hx hb dX3_isTimetable_24 (by decide) ?_
        refine lv_goto (tgt := 29) hx hb dX3_isTimetable_25 (by decide) ?_
        exact xr_zret (v := nI 1) hx hb hr hlocks (by first | rfl | exact bI_nar _) (bI_1 (by rw [← tmt_eq, inI_t h_7 h_13, decide_eq_false h_21]; rfl)) dX3_isTimetable_29
set_option maxHeartbeats 4000000 in
set_option maxRecDepth 100000 in
theorem r_X3_needPiece (l : Launch) (D : va_G) (hl9 : l.stackTraces = false) (h0 : Nat) (p1 : Int32) : xTV l yX3_needPiece cX3_needPiece 1 none (xrt 6 90) [.int (p1)] D h0 [] [] none (bPc p1 = false) (fun E => E = "java/lang/IllegalArgumentException" ∧ bPc p1 = true) := by
  refine xTV.of (by decide +kernel) (Nat.le_of_ble_eq_true rfl) ?_
  intro p e s m args below meth cd hx hb hr hml hown hlocks htab ht hN hT9 hP hK ls hl
  have hl : lv_has ls 1 [(0, .int (p1))] := hl
  have hown : s.vm.findClass RX3 = some m.cls := hown
  refine lv_iload_n hx hb dX3_needPiece_0 rfl (lv_at hl 0 rfl) ?_
  refine lv_if_lt (tgt := 10) hx hb dX3_needPiece_1 (by decide) (fun h_1 => ?_) (fun h_1 => ?_)
  · skip
    have h_1 : (p1 : Int32) < (0 : Int32) := h_1
    exact xt_throw hx hb hl9 hml hown ht hT9 kT_IAE_210 hl.1 dX3_needPiece_10 dX3_needPiece_13 dX3_needPiece_14 dX3_needPiece_16 dX3_needPiece_19 htab hlocks (by decide) (Nat.le_of_ble_eq_true rfl) ⟨by decide, by decide⟩ (⟨rfl, by unfold bPc; first | (rw [inI_lo (lo := nI 0) h_1]; rfl) | (rw [inI_hi (Classical.byContradiction (fun z => h_7 ((lt_sI (by decide)).mpr z)))]; rfl)⟩)
  · skip
    have h_1 : ¬ ((p1 : Int32) < (0 : Int32)) := h_1
    refine lv_iload_n hx hb dX3_needPiece_4 rfl (lv_at hl 0 rfl) ?_
    refine lv_bipush (v := nI 60) hx hb dX3_needPiece_5 (by decide) ?_
    refine lv_icmp_lt (tgt := 20) hx hb dX3_needPiece_7 (by decide) (fun h_7 => ?_) (fun h_7 => ?_)
    · skip
      have h_7 : (p1 : Int32) < (nI 60 : Int32) := h_7
      exact xt_vret hx hb hr hlocks (by unfold bPc; rw [inI_t (lo := nI 0) h_1 ((lt_sI (by decide)).mp h_7)]; rfl) dX3_needPiece_20
    · skip
      have h_7 : ¬ ((p1 : Int32) < (nI 60 : Int32)) := h_7
      exact xt_throw hx hb hl9 hml hown ht hT9 kT_IAE_210 hl.1 dX3_needPiece_10 dX3_needPiece_13 dX3_needPiece_14 dX3_needPiece_16 dX3_needPiece_19 htab hlocks (by decide) (Nat.le_of_ble_eq_true rfl) ⟨by decide, by decide⟩ (⟨rfl, by unfold bPc; first | (rw [inI_lo (lo := nI 0) h_1]; rfl) | (rw [inI_hi (Classical.byContradiction (fun z => h_7 ((lt_sI (by decide)).mpr z)))]; rfl)⟩)
set_option maxHeartbeats 4000000 in
set_option maxRecDepth 100000 in
theorem r_X3_needUnit (l : Launch) (D : va_G) (hl9 : l.stackTraces = false) (h0 : Nat) (u1 : Int32) : xTV l yX3_needUnit cX3_needUnit 1 none (xrt 6 90) [.int (u1)] D h0 [] [] none (bUn u1 = false) (fun E => E = "java/lang/IllegalArgumentException" ∧ bUn u1 = true) := by
  refine xTV.of (by decide +kernel) (Nat.le_of_ble_eq_true rfl) ?_
  intro p e s m args below meth cd hx hb hr hml hown hlocks htab ht hN hT9 hP hK ls hl
  have hl : lv_has ls 1 [(0, .int (u1))] := hl
  have hown : s.vm.findClass RX3 = some m.cls := hown
  refine lv_iload_n hx hb dX3_needUnit_0 rfl (lv_at hl 0 rfl) ?_
  refine lv_if_lt (tgt := 10) hx hb dX3_needUnit_1 (by decide) (fun h_1 => ?_) (fun h_1 => ?_)
  · skip
    have h_1 : (u1 : Int32) < (0 : Int32) := h_1
    exact xt_throw hx hb hl9 hml hown ht hT9 kT_IAE_217 hl.1 dX3_needUnit_10 dX3_needUnit_13 dX3_needUnit_14 dX3_needUnit_16 dX3_needUnit_19 htab hlocks (by decide) (Nat.le_of_ble_eq_true rfl) ⟨by decide, by decide⟩ (⟨rfl, by unfold bUn; first | (rw [inI_lo (lo := nI 0) h_1]; rfl) | (rw [inI_hi (Classical.byContradiction (fun z => h_7 ((lt_sI (by decide)).mpr z)))]; rfl)⟩)
  · skip
    have h_1 : ¬ ((u1 : Int32) < (0 : Int32)) := h_1
    refine lv_iload_n hx hb dX3_needUnit_4 rfl (lv_at hl 0 rfl) ?_
    refine lv_bipush (v := nI 10) hx hb dX3_needUnit_5 (by decide) ?_
    refine lv_icmp_lt (tgt := 20) hx hb dX3_needUnit_7 (by decide) (fun h_7 => ?_) (fun h_7 => ?_)
    · skip
      have h_7 : (u1 : Int32) < (nI 10 : Int32) := h_7
      exact xt_vret hx hb hr hlocks (by unfold bUn; rw [inI_t (lo := nI 0) h_1 ((lt_sI (by decide)).mp h_7)]; rfl) dX3_needUnit_20
    · skip
      have h_7 : ¬ ((u1 : Int32) < (nI 10 : Int32)) := h_7
      exact xt_throw hx hb hl9 hml hown ht hT9 kT_IAE_217 hl.1 dX3_needUnit_10 dX3_needUnit_13 dX3_needUnit_14 dX3_needUnit_16 dX3_needUnit_19 htab hlocks (by decide) (Nat.le_of_ble_eq_true rfl) ⟨by decide, by decide⟩ (⟨rfl, by unfold bUn; first | (rw [inI_lo (lo := nI 0) h_1]; rfl) | (rw [inI_hi (Classical.byContradiction (fun z => h_7 ((lt_sI (by decide)).mpr z)))]; rfl)⟩)
set_option maxHeartbeats 4000000 in
set_option maxRecDepth 100000 in
theorem r_X3_needMinute (l : Launch) (D : va_G) (hl9 : l.stackTraces = false) (h0 : Nat) (t : Int32) : xTV l yX3_needMinute cX3_needMinute 1 none (xrt 6 90) [.int (t)] D h0 [] [] none (inI t (nI 0) (nI 99999) = true) (fun E => E = "java/lang/IndexOutOfBoundsException" ∧ inI t (nI 0) (nI 99999) = false) := by
  refine xTV.of (by decide +kernel) (Nat.le_of_ble_eq_true rfl) ?_
  intro p e s m args below meth cd hx hb hr hml hown hlocks htab ht hN hT9 hP hK ls hl
  have hl : lv_has ls 1 [(0, .int (t))] := hl
  have hown : s.vm.findClass RX3 = some m.cls := hown
  refine lv_iload_n hx hb dX3_needMinute_0 rfl (lv_at hl 0 rfl) ?_
  refine lv_if_lt (tgt := 10) hx hb dX3_needMinute_1 (by decide) (fun h_1 => ?_) (fun h_1 => ?_)
  · skip
    have h_1 : (t : Int32) < (0 : Int32) := h_1
    exact xt_throw hx hb hl9 hml hown ht hT9 kT_IOE_219 hl.1 dX3_needMinute_10 dX3_needMinute_13 dX3_needMinute_14 dX3_needMinute_16 dX3_needMinute_19 htab hlocks (by decide) (Nat.le_of_ble_eq_true rfl) ⟨by decide, by decide⟩ (⟨rfl, by first | exact inI_lo (lo := nI 0) h_1 | exact inI_hi (Int32.not_le.mp h_7)⟩)
  · skip
    have h_1 : ¬ ((t : Int32) < (0 : Int32)) := h_1
    refine lv_iload_n hx hb dX3_needMinute_4 rfl (lv_at hl 0 rfl) ?_
    refine lv_ldc (v := nI 99999) hx hb hown (ht _ wd239) dX3_needMinute_5 ?_
    refine lv_icmp_le (tgt := 20) hx hb dX3_needMinute_7 (by decide) (fun h_7 => ?_) (fun h_7 => ?_)
    · skip
      have h_7 : (t : Int32) ≤ (nI 99999 : Int32) := h_7
      exact xt_vret hx hb hr hlocks (inI_t (lo := nI 0) h_1 (Int32.not_lt.mpr h_7)) dX3_needMinute_20
    · skip
      have h_7 : ¬ ((t : Int32) ≤ (nI 99999 : Int32)) := h_7
      exact xt_throw hx hb hl9 hml hown ht hT9 kT_IOE_219 hl.1 dX3_needMinute_10 dX3_needMinute_13 dX3_needMinute_14 dX3_needMinute_16 dX3_needMinute_19 htab hlocks (by decide) (Nat.le_of_ble_eq_true rfl) ⟨by decide, by decide⟩ (⟨rfl, by first | exact inI_lo (lo := nI 0) h_1 | exact inI_hi (Int32.not_le.mp h_7)⟩)
set_option maxHeartbeats 4000000 in
set_option maxRecDepth 100000 in
theorem r_X3_needKind (l : Launch) (D : va_G) (hl9 : l.stackTraces = false) (h0 : Nat) (k1 x1 : Int32) : xTV l yX3_needKind cX3_needKind 2 none (xrt 6 90) [.int (k1), .int (x1)] D h0 [] [] none (bKi k1 x1 = false) (fun E => E = "java/lang/IllegalArgumentException" ∧ bKi k1 x1 = true) := by
  refine xTV.of (by decide +kernel) (Nat.le_of_ble_eq_true rfl) ?_
  intro p e s m args below meth cd hx hb hr hml hown hlocks htab ht hN hT9 hP hK ls hl
  have hl : lv_has ls 2 [(0, .int (k1)), (1, .int (x1))] := hl
  have hown : s.vm.findClass RX3 = some m.cls := hown
  refine lv_iload_n hx hb dX3_needKind_0 rfl (lv_at hl 0 rfl) ?_
  refine lv_if_lt (tgt := 9) hx hb dX3_needKind_1 (by decide) (fun h_1 => ?_) (fun h_1 => ?_)
  · skip
    have h_1 : (k1 : Int32) < (0 : Int32) := h_1
    exact xt_throw hx hb hl9 hml hown ht hT9 kT_IAE_208 hl.1 dX3_needKind_9 dX3_needKind_12 dX3_needKind_13 dX3_needKind_15 dX3_needKind_18 htab hlocks (by decide) (Nat.le_of_ble_eq_true rfl) ⟨by decide, by decide⟩ (⟨rfl, by unfold bKi; first | (rw [inI_lo (lo := nI 0) h_1]; rfl) | (rw [inI_hi (Int32.not_le.mp h_6)]; rfl)⟩)
  · skip
    have h_1 : ¬ ((k1 : Int32) < (0 : Int32)) := h_1
    refine lv_iload_n hx hb dX3_needKind_4 rfl (lv_at hl 0 rfl) ?_
    refine lv_iconst (v := nI 5) hx hb dX3_needKind_5 (by decide) ?_
    refine lv_icmp_le (tgt := 19) hx hb dX3_needKind_6 (by decide) (fun h_6 => ?_) (fun h_6 => ?_)
    · skip
      have h_6 : (k1 : Int32) ≤ (nI 5 : Int32) := h_6
      refine lv_iload_n hx hb dX3_needKind_19 rfl (lv_at hl 0 rfl) ?_
      refine lv_iconst (v := nI 2) hx hb dX3_needKind_20 (by decide) ?_
      refine lv_icmp_ne (tgt := 41) hx hb dX3_needKind_21 (by decide) (fun h_21 => ?_) (fun h_21 => ?_)
      · skip
        have h_21 : ¬ ((k1 : Int32) = (nI 2 : Int32)) := h_21
        exact xt_vret hx hb hr hlocks (by unfold bKi; rw [inI_t (lo := nI 0) h_1 (Int32.not_lt.mpr h_6)]; first | (rw [decide_eq_false h_21]; rfl) | (rw [bI_t h_28, Bool.not_true, Bool.and_false]; rfl)) dX3_needKind_41
      · skip
        have h_21 : (k1 : Int32) = (nI 2 : Int32) := h_21
        refine lv_iload_n hx hb dX3_needKind_24 rfl (lv_at hl 1 rfl) ?_
        refine xrS (As := [.int (x1)]) (rest := []) hx hb hml hown ht hN kS_X3_116 (r_X3_isIncident l D x1) ⟨by decide, by decide⟩ hP hK rfl hl.1 rfl (Nat.le_of_ble_eq_true rfl) dX3_needKind_25 ⟨Nat.zero_le _, Nat.zero_le _⟩ ?_
        refine lv_if_ne (tgt := 41) hx hb dX3_needKind_28 (by decide) (fun h_28 => ?_) (fun h_28 => ?_)
        · skip
          have h_28 : ¬ ((bI (inI x1 (nI 0) (nI 19)) : Int32) = (0 : Int32)) := h_28
          exact xt_vret hx hb hr hlocks (by unfold bKi; rw [inI_t (lo := nI 0) h_1 (Int32.not_lt.mpr h_6)]; first | (rw [decide_eq_false h_21]; rfl) | (rw [bI_t h_28, Bool.not_true, Bool.and_false]; rfl)) dX3_needKind_41
        · skip
          have h_28 : (bI (inI x1 (nI 0) (nI 19)) : Int32) = (0 : Int32) := h_28
          exact xt_throw hx hb hl9 hml hown ht hT9 kT_IAE_121 hl.1 dX3_needKind_31 dX3_needKind_34 dX3_needKind_35 dX3_needKind_37 dX3_needKind_40 htab hlocks (by decide) (Nat.le_of_ble_eq_true rfl) ⟨by decide, by decide⟩ (⟨rfl, by unfold bKi; rw [decide_eq_true h_21, bI_f h_28, Bool.not_false, Bool.and_self, Bool.or_true]⟩)
    · skip
      have h_6 : ¬ ((k1 : Int32) ≤ (nI 5 : Int32)) := h_6
      exact xt_throw hx hb hl9 hml hown ht hT9 kT_IAE_208 hl.1 dX3_needKind_9 dX3_needKind_12 dX3_needKind_13 dX3_needKind_15 dX3_needKind_18 htab hlocks (by decide) (Nat.le_of_ble_eq_true rfl) ⟨by decide, by decide⟩ (⟨rfl, by unfold bKi; first | (rw [inI_lo (lo := nI 0) h_1]; rfl) | (rw [inI_hi (Int32.not_le.mp h_6)]; rfl)⟩)
set_option maxHeartbeats 4000000 in
set_option maxRecDepth 100000 in
theorem r_X3_needEnd (l : Launch) (D : va_G) (hl9 : l.stackTraces = false) (h0 : Nat) (k1 a1 b1 : Int32) : xTV l yX3_needEnd cX3_needEnd 3 none (xrt 6 90) [.int (k1), .int (a1), .int (b1)] D h0 [] [] none (bEn k1 a1 b1 = false) (fun E => E = "java/lang/IndexOutOfBoundsException" ∧ bEn k1 a1 b1 = true) := by
  refine xTV.of (by decide +kernel) (Nat.le_of_ble_eq_true rfl) ?_
  intro p e s m args below meth cd hx hb hr hml hown hlocks htab ht hN hT9 hP hK ls hl
  have hl : lv_has ls 3 [(0, .int (k1)), (1, .int (a1)), (2, .int (b1))] := hl
  have hown : s.vm.findClass RX3 = some m.cls := hown
  refine lv_iload_n hx hb dX3_needEnd_0 rfl (lv_at hl 0 rfl) ?_
  refine xrS (As := [.int (k1)]) (rest := []) hx hb hml hown ht hN kS_X3_75 (r_X3_hasEnd l D k1) ⟨by decide, by decide⟩ hP hK rfl hl.1 rfl (Nat.le_of_ble_eq_true rfl) dX3_needEnd_1 ⟨Nat.zero_le _, Nat.zero_le _⟩ ?_
  refine lv_if_eq (tgt := 28) hx hb dX3_needEnd_4 (by decide) (fun h_4 => ?_) (fun h_4 => ?_)
  · skip
    have h_4 : (bI (bEnd k1) : Int32) = (0 : Int32) := h_4
    exact xt_vret hx hb hr hlocks (by unfold bEn; first | (rw [bI_f h_4]; rfl) | (rw [decide_eq_false h_9, decide_eq_false (Int32.not_lt.mpr h_15), Bool.or_self, Bool.and_false])) dX3_needEnd_28
  · skip
    have h_4 : ¬ ((bI (bEnd k1) : Int32) = (0 : Int32)) := h_4
    refine lv_iload_n hx hb dX3_needEnd_7 rfl (lv_at hl 2 rfl) ?_
    refine lv_iload_n hx hb dX3_needEnd_8 rfl (lv_at hl 1 rfl) ?_
    refine lv_icmp_le (tgt := 18) hx hb dX3_needEnd_9 (by decide) (fun h_9 => ?_) (fun h_9 => ?_)
    · skip
      have h_9 : (b1 : Int32) ≤ (a1 : Int32) := h_9
      exact xt_throw hx hb hl9 hml hown ht hT9 kT_IOE_221 hl.1 dX3_needEnd_18 dX3_needEnd_21 dX3_needEnd_22 dX3_needEnd_24 dX3_needEnd_27 htab hlocks (by decide) (Nat.le_of_ble_eq_true rfl) ⟨by decide, by decide⟩ (⟨rfl, by unfold bEn; rw [bI_t h_4]; first | (rw [decide_eq_true h_9]; rfl) | (rw [decide_eq_true (Int32.not_le.mp h_15), Bool.or_true]; rfl)⟩)
    · skip
      have h_9 : ¬ ((b1 : Int32) ≤ (a1 : Int32)) := h_9
      refine lv_iload_n hx hb dX3_needEnd_12 rfl (lv_at hl 2 rfl) ?_
      refine lv_ldc (v := nI 99999) hx hb hown (ht _ wd239) dX3_needEnd_13 ?_
      refine lv_icmp_le (tgt := 28) hx hb dX3_needEnd_15 (by decide) (fun h_15 => ?_) (fun h_15 => ?_)
      · skip
        have h_15 : (b1 : Int32) ≤ (nI 99999 : Int32) := h_15
        exact xt_vret hx hb hr hlocks (by unfold bEn; first | (rw [bI_f h_4]; rfl) | (rw [decide_eq_false h_9, decide_eq_false (Int32.not_lt.mpr h_15), Bool.or_self, Bool.and_false])) dX3_needEnd_28
      · skip
        have h_15 : ¬ ((b1 : Int32) ≤ (nI 99999 : Int32)) := h_15
        exact xt_throw hx hb hl9 hml hown ht hT9 kT_IOE_221 hl.1 dX3_needEnd_18 dX3_needEnd_21 dX3_needEnd_22 dX3_needEnd_24 dX3_needEnd_27 htab hlocks (by decide) (Nat.le_of_ble_eq_true rfl) ⟨by decide, by decide⟩ (⟨rfl, by unfold bEn; rw [bI_t h_4]; first | (rw [decide_eq_true h_9]; rfl) | (rw [decide_eq_true (Int32.not_le.mp h_15), Bool.or_true]; rfl)⟩)
set_option maxHeartbeats 4000000 in
set_option maxRecDepth 100000 in
theorem r_X3_needX (l : Launch) (D : va_G) (hl9 : l.stackTraces = false) (h0 : Nat) (k1 x1 : Int32) : xTV l yX3_needX cX3_needX 2 none (xrt 6 90) [.int (k1), .int (x1)] D h0 [] [] none (numM k1 x1 = true) (fun E => E = "java/lang/IndexOutOfBoundsException" ∧ numM k1 x1 = false) := by
  refine xTV.of (by decide +kernel) (Nat.le_of_ble_eq_true rfl) ?_
  intro p e s m args below meth cd hx hb hr hml hown hlocks htab ht hN hT9 hP hK ls hl
  have hl : lv_has ls 2 [(0, .int (k1)), (1, .int (x1))] := hl
  have hown : s.vm.findClass RX3 = some m.cls := hown
  refine lv_iload_n hx hb dX3_needX_0 rfl (lv_at hl 0 rfl) ?_
  refine lv_iconst (v := nI 4) hx hb dX3_needX_1 (by decide) ?_
  refine lv_icmp_ne (tgt := 22) hx hb dX3_needX_2 (by decide) (fun h_2 => ?_) (fun h_2 => ?_)
  · skip
    have h_2 : ¬ ((k1 : Int32) = (nI 4 : Int32)) := h_2
    refine lv_iload_n hx hb dX3_needX_22 rfl (lv_at hl 0 rfl) ?_
    refine lv_iconst (v := nI 5) hx hb dX3_needX_23 (by decide) ?_
    refine lv_icmp_ne (tgt := 48) hx hb dX3_needX_24 (by decide) (fun h_24 => ?_) (fun h_24 => ?_)
    · skip
      have h_24 : ¬ ((k1 : Int32) = (nI 5 : Int32)) := h_24
      exact xt_vret hx hb hr hlocks (by first | (rw [h_2]; exact bI_t h_9) | (rw [numM, if_neg h_2, decide_eq_false h_24]; rfl) | (rw [numM, if_neg h_2, inI_t h_29 ((lt_sI (by decide)).mp h_35), Bool.or_true])) dX3_needX_48
    · skip
      have h_24 : (k1 : Int32) = (nI 5 : Int32) := h_24
      refine lv_iload_n hx hb dX3_needX_27 rfl (lv_at hl 1 rfl) ?_
      refine lv_iconst (v := nI 1) hx hb dX3_needX_28 (by decide) ?_
      refine lv_icmp_lt (tgt := 38) hx hb dX3_needX_29 (by decide) (fun h_29 => ?_) (fun h_29 => ?_)
      · skip
        have h_29 : (x1 : Int32) < (nI 1 : Int32) := h_29
        exact xt_throw hx hb hl9 hml hown ht hT9 kT_IOE_228 hl.1 dX3_needX_38 dX3_needX_41 dX3_needX_42 dX3_needX_44 dX3_needX_47 htab hlocks (by decide) (Nat.le_of_ble_eq_true rfl) ⟨by decide, by decide⟩ (⟨rfl, by have h4 : ¬ k1 = nI 4 := (by rw [h_24]; decide); rw [numM, if_neg h4, decide_eq_true h_24, Bool.not_true, Bool.false_or]; first | exact inI_lo h_29 | exact inI_hi (Classical.byContradiction (fun z => h_35 ((lt_sI (by decide)).mpr z)))⟩)
      · skip
        have h_29 : ¬ ((x1 : Int32) < (nI 1 : Int32)) := h_29
        refine lv_iload_n hx hb dX3_needX_32 rfl (lv_at hl 1 rfl) ?_
        refine lv_bipush (v := nI 100) hx hb dX3_needX_33 (by decide) ?_
        refine lv_icmp_lt (tgt := 48) hx hb dX3_needX_35 (by decide) (fun h_35 => ?_) (fun h_35 => ?_)
        · skip
          have h_35 : (x1 : Int32) < (nI 100 : Int32) := h_35
          exact xt_vret hx hb hr hlocks (by first | (rw [h_2]; exact bI_t h_9) | (rw [numM, if_neg h_2, decide_eq_false h_24]; rfl) | (rw [numM, if_neg h_2, inI_t h_29 ((lt_sI (by decide)).mp h_35), Bool.or_true])) dX3_needX_48
        · skip
          have h_35 : ¬ ((x1 : Int32) < (nI 100 : Int32)) := h_35
          exact xt_throw hx hb hl9 hml hown ht hT9 kT_IOE_228 hl.1 dX3_needX_38 dX3_needX_41 dX3_needX_42 dX3_needX_44 dX3_needX_47 htab hlocks (by decide) (Nat.le_of_ble_eq_true rfl) ⟨by decide, by decide⟩ (⟨rfl, by have h4 : ¬ k1 = nI 4 := (by rw [h_24]; decide); rw [numM, if_neg h4, decide_eq_true h_24, Bool.not_true, Bool.false_or]; first | exact inI_lo h_29 | exact inI_hi (Classical.byContradiction (fun z => h_35 ((lt_sI (by decide)).mpr z)))⟩)
  · skip
    have h_2 : (k1 : Int32) = (nI 4 : Int32) := h_2
    have h54 : ¬ k1 = nI 5 := by rw [h_2]; decide
    refine lv_iload_n hx hb dX3_needX_5 rfl (lv_at hl 1 rfl) ?_
    refine xrS (As := [.int (x1)]) (rest := []) hx hb hml hown ht hN kS_X3_223 (r_X3_isTimetable l D x1) ⟨by decide, by decide⟩ hP hK rfl hl.1 rfl (Nat.le_of_ble_eq_true rfl) dX3_needX_6 ⟨Nat.zero_le _, Nat.zero_le _⟩ ?_
    refine lv_if_ne (tgt := 22) hx hb dX3_needX_9 (by decide) (fun h_9 => ?_) (fun h_9 => ?_)
    · skip
      have h_9 : ¬ ((bI (numM (nI 4) x1) : Int32) = (0 : Int32)) := h_9
      refine lv_iload_n hx hb dX3_needX_22 rfl (lv_at hl 0 rfl) ?_
      refine lv_iconst (v := nI 5) hx hb dX3_needX_23 (by decide) ?_
      refine lv_icmp_ne (tgt := 48) hx hb dX3_needX_24 (by decide) (fun h_24 => ?_) (fun h_24 => ?_)
      · skip
        have h_24 : ¬ ((k1 : Int32) = (nI 5 : Int32)) := h_24
        exact xt_vret hx hb hr hlocks (by first | (rw [h_2]; exact bI_t h_9) | (rw [numM, if_neg h_2, decide_eq_false h_24]; rfl) | (rw [numM, if_neg h_2, inI_t h_29 ((lt_sI (by decide)).mp h_35), Bool.or_true])) dX3_needX_48
      · skip
        have h_24 : (k1 : Int32) = (nI 5 : Int32) := h_24
        refine lv_iload_n hx hb dX3_needX_27 rfl (lv_at hl 1 rfl) ?_
        refine lv_iconst (v := nI 1) hx hb dX3_needX_28 (by decide) ?_
        refine lv_icmp_lt (tgt := 38) hx hb dX3_needX_29 (by decide) (fun h_29 => ?_) (fun h_29 => ?_)
        · skip
          have h_29 : (x1 : Int32) < (nI 1 : Int32) := h_29
          exact xt_throw hx hb hl9 hml hown ht hT9 kT_IOE_228 hl.1 dX3_needX_38 dX3_needX_41 dX3_needX_42 dX3_needX_44 dX3_needX_47 htab hlocks (by decide) (Nat.le_of_ble_eq_true rfl) ⟨by decide, by decide⟩ (⟨rfl, by have h4 : ¬ k1 = nI 4 := (by rw [h_24]; decide); rw [numM, if_neg h4, decide_eq_true h_24, Bool.not_true, Bool.false_or]; first | exact inI_lo h_29 | exact inI_hi (Classical.byContradiction (fun z => h_35 ((lt_sI (by decide)).mpr z)))⟩)
        · skip
          have h_29 : ¬ ((x1 : Int32) < (nI 1 : Int32)) := h_29
          refine lv_iload_n hx hb dX3_needX_32 rfl (lv_at hl 1 rfl) ?_
          refine lv_bipush (v := nI 100) hx hb dX3_needX_33 (by decide) ?_
          refine lv_icmp_lt (tgt := 48) hx hb dX3_needX_35 (by decide) (fun h_35 => ?_) (fun h_35 => ?_)
          · skip
            have h_35 : (x1 : Int32) < (nI 100 : Int32) := h_35
            exact xt_vret hx hb hr hlocks (by first | (rw [h_2]; exact bI_t h_9) | (rw [numM, if_neg h_2, decide_eq_false h_24]; rfl) | (rw [numM, if_neg h_2, inI_t h_29 ((lt_sI (by decide)).mp h_35), Bool.or_true])) dX3_needX_48
          · skip
            have h_35 : ¬ ((x1 : Int32) < (nI 100 : Int32)) := h_35
            exact xt_throw hx hb hl9 hml hown ht hT9 kT_IOE_228 hl.1 dX3_needX_38 dX3_needX_41 dX3_needX_42 dX3_needX_44 dX3_needX_47 htab hlocks (by decide) (Nat.le_of_ble_eq_true rfl) ⟨by decide, by decide⟩ (⟨rfl, by have h4 : ¬ k1 = nI 4 := (by rw [h_24]; decide); rw [numM, if_neg h4, decide_eq_true h_24, Bool.not_true, Bool.false_or]; first | exact inI_lo h_29 | exact inI_hi (Classical.byContradiction (fun z => h_35 ((lt_sI (by decide)).mpr z)))⟩)
    · skip
      have h_9 : (bI (numM (nI 4) x1) : Int32) = (0 : Int32) := h_9
      exact xt_throw hx hb hl9 hml hown ht hT9 kT_IOE_226 hl.1 dX3_needX_12 dX3_needX_15 dX3_needX_16 dX3_needX_18 dX3_needX_21 htab hlocks (by decide) (Nat.le_of_ble_eq_true rfl) ⟨by decide, by decide⟩ (⟨rfl, by rw [h_2]; exact bI_f h_9⟩)
set_option maxHeartbeats 4000000 in
set_option maxRecDepth 100000 in
theorem r_X3_needPlace (l : Launch) (D : va_G) (hl9 : l.stackTraces = false) (h0 : Nat) (p1 s1 : Int32) : xTV l yX3_needPlace cX3_needPlace 2 (some .int) (xrt 7 110) [.int (p1), .int (s1)] D h0 [] [] (some (.int (nI (2 * ix p1 + (ix s1 - 1))))) (bPc p1 = false ∧ inI s1 (nI 1) (nI 2) = true) (fun E => (E = "java/lang/IllegalArgumentException" ∧ bPc p1 = true) ∨ (E = "java/lang/IndexOutOfBoundsException" ∧ bPc p1 = false ∧ inI s1 (nI 1) (nI 2) = false)) := by
  refine xTV.of (by decide +kernel) (Nat.le_of_ble_eq_true rfl) ?_
  intro p e s m args below meth cd hx hb hr hml hown hlocks htab ht hN hT9 hP hK ls hl
  have hl : lv_has ls 2 [(0, .int (p1)), (1, .int (s1))] := hl
  have hown : s.vm.findClass RX3 = some m.cls := hown
  refine lv_iload_n hx hb dX3_needPlace_0 rfl (lv_at hl 0 rfl) ?_
  refine xtS (As := [.int (p1)]) (rest := []) hx hb hml hown ht hN hT9 kS_X3_45 (r_X3_needPiece l D hl9 h0 p1) ⟨by decide, by decide⟩ hP hK rfl hl.1 rfl (Nat.le_of_ble_eq_true rfl) dX3_needPlace_1 ⟨by decide, by decide⟩ (fun E ce q9 H1 hF hz hk hce hcv hcl => xt_out htab hlocks (Or.inl hF) hz hk hce hcv hcl) (fun hp_1 => ?_)
  refine lv_iload_n hx hb dX3_needPlace_4 rfl (lv_at hl 1 rfl) ?_
  refine lv_iconst (v := nI 1) hx hb dX3_needPlace_5 (by decide) ?_
  refine lv_icmp_eq (tgt := 24) hx hb dX3_needPlace_6 (by decide) (fun h_6 => ?_) (fun h_6 => ?_)
  · skip
    have h_6 : (s1 : Int32) = (nI 1 : Int32) := h_6
    have hs : inI s1 (nI 1) (nI 2) = true := by rw [in12]; first | (rw [decide_eq_true h_6]; rfl) | (rw [decide_eq_true h_11, Bool.or_true])
    obtain ⟨ep, -, hp9⟩ := ix_in (by decide) (by decide) (notF hp_1)
    obtain ⟨es, hs1, hs9⟩ := ix_in (by decide) (by decide) hs
    refine lv_iload_n hx hb dX3_needPlace_24 rfl (lv_at hl 0 rfl) ?_
    refine lv_iload_n hx hb dX3_needPlace_25 rfl (lv_at hl 1 rfl) ?_
    refine xtop (y := nI ((ix s1 - 1) + 1)) (by rw [Nat.sub_add_cancel hs1]; exact es) ?_
    refine xtop2 (y := nI (ix p1)) ep ?_
    refine xrS (As := [.int (nI (ix p1)), .int (nI ((ix s1 - 1) + 1))]) (rest := []) hx hb hml hown ht hN kS_X3_214 (r_X3_placeOf l D (ix p1) (ix s1 - 1)) ⟨by decide, by decide⟩ hP hK rfl hl.1 rfl (Nat.le_of_ble_eq_true rfl) dX3_needPlace_26 ⟨Nat.zero_le _, Nat.zero_le _⟩ ?_
    exact xt_iret (v := nI (2 * ix p1 + (ix s1 - 1))) hx hb hr hlocks (rfl) (⟨hp_1, hs⟩) dX3_needPlace_29
  · skip
    have h_6 : ¬ ((s1 : Int32) = (nI 1 : Int32)) := h_6
    refine lv_iload_n hx hb dX3_needPlace_9 rfl (lv_at hl 1 rfl) ?_
    refine lv_iconst (v := nI 2) hx hb dX3_needPlace_10 (by decide) ?_
    refine lv_icmp_eq (tgt := 24) hx hb dX3_needPlace_11 (by decide) (fun h_11 => ?_) (fun h_11 => ?_)
    · skip
      have h_11 : (s1 : Int32) = (nI 2 : Int32) := h_11
      have hs : inI s1 (nI 1) (nI 2) = true := by rw [in12]; first | (rw [decide_eq_true h_6]; rfl) | (rw [decide_eq_true h_11, Bool.or_true])
      obtain ⟨ep, -, hp9⟩ := ix_in (by decide) (by decide) (notF hp_1)
      obtain ⟨es, hs1, hs9⟩ := ix_in (by decide) (by decide) hs
      refine lv_iload_n hx hb dX3_needPlace_24 rfl (lv_at hl 0 rfl) ?_
      refine lv_iload_n hx hb dX3_needPlace_25 rfl (lv_at hl 1 rfl) ?_
      refine xtop (y := nI ((ix s1 - 1) + 1)) (by rw [Nat.sub_add_cancel hs1]; exact es) ?_
      refine xtop2 (y := nI (ix p1)) ep ?_
      refine xrS (As := [.int (nI (ix p1)), .int (nI ((ix s1 - 1) + 1))]) (rest := []) hx hb hml hown ht hN kS_X3_214 (r_X3_placeOf l D (ix p1) (ix s1 - 1)) ⟨by decide, by decide⟩ hP hK rfl hl.1 rfl (Nat.le_of_ble_eq_true rfl) dX3_needPlace_26 ⟨Nat.zero_le _, Nat.zero_le _⟩ ?_
      exact xt_iret (v := nI (2 * ix p1 + (ix s1 - 1))) hx hb hr hlocks (rfl) (⟨hp_1, hs⟩) dX3_needPlace_29
    · skip
      have h_11 : ¬ ((s1 : Int32) = (nI 2 : Int32)) := h_11
      exact xt_throw hx hb hl9 hml hown ht hT9 kT_IOE_212 hl.1 dX3_needPlace_14 dX3_needPlace_17 dX3_needPlace_18 dX3_needPlace_20 dX3_needPlace_23 htab hlocks (by decide) (Nat.le_of_ble_eq_true rfl) ⟨by decide, by decide⟩ (Or.inr ⟨rfl, hp_1, by rw [in12, decide_eq_false h_6, decide_eq_false h_11]; rfl⟩)
