theorem kV_X3_203 : xcV RX3 RX0 203 yX0_has cX0_has 2 (some .boolean) 1 := ⟨wd355, wd352, wd353, wd354, wd22, rfl, ⟨by decide +kernel, by decide +kernel, by decide +kernel⟩⟩
theorem kS_X3_133 : xcS RX3 133 yX3_needPlace cX3_needPlace 2 (some .int) 2 := ⟨wd430, wd428, wd429, wd21, ⟨by decide +kernel, by decide +kernel, by decide +kernel⟩⟩
theorem kS_X3_56 : xcS RX3 56 yX3_needMinute cX3_needMinute 1 none 1 := ⟨wd238, wd236, wd237, wd21, ⟨by decide +kernel, by decide +kernel, by decide +kernel⟩⟩
theorem kV_X3_154 : xcV RX3 RX0 154 yX0_isClosedAt cX0_isClosedAt 4 (some .boolean) 2 := ⟨wd476, wd473, wd474, wd475, wd22, rfl, ⟨by decide +kernel, by decide +kernel, by decide +kernel⟩⟩
theorem kV_X3_173 : xcV RX3 RX0 173 yX0_percentAt cX0_percentAt 5 (some .int) 2 := ⟨wd537, wd534, wd535, wd536, wd22, rfl, ⟨by decide +kernel, by decide +kernel, by decide +kernel⟩⟩
theorem kV_X3_169 : xcV RX3 RX0 169 yX0_holdingAt cX0_holdingAt 5 (some .int) 3 := ⟨wd518, wd515, wd516, wd517, wd22, rfl, ⟨by decide +kernel, by decide +kernel, by decide +kernel⟩⟩
theorem kV_X3_176 : xcV RX3 RX1 176 yX1_isKept cX1_isKept 2 (some .boolean) 1 := ⟨wd548, wd545, wd546, wd547, wd24, rfl, ⟨by decide +kernel, by decide +kernel, by decide +kernel⟩⟩
theorem kV_X3_181 : xcV RX3 RX1 181 yX1_get cX1_get 3 (some .int) 2 := ⟨wd553, wd550, wd551, wd552, wd24, rfl, ⟨by decide +kernel, by decide +kernel, by decide +kernel⟩⟩
theorem kV_X3_184 : xcV RX3 RX2 184 yX2_length cX2_length 2 (some .int) 1 := ⟨wd564, wd561, wd562, wd563, wd23, rfl, ⟨by decide +kernel, by decide +kernel, by decide +kernel⟩⟩
theorem kV_X3_187 : xcV RX3 RX2 187 yX2_stepOf cX2_stepOf 3 (some .int) 2 := ⟨wd323, wd565, wd321, wd322, wd23, rfl, ⟨by decide +kernel, by decide +kernel, by decide +kernel⟩⟩
theorem kS_X3_127 : xcS RX3 127 yX3_needUnit cX3_needUnit 1 none 1 := ⟨wd422, wd420, wd421, wd21, ⟨by decide +kernel, by decide +kernel, by decide +kernel⟩⟩
theorem kV_X3_124 : xcV RX3 RX0 124 yX0_setIncident cX0_setIncident 3 none 2 := ⟨wd412, wd409, wd410, wd411, wd22, rfl, ⟨by decide +kernel, by decide +kernel, by decide +kernel⟩⟩
theorem kV_X3_84 : xcV RX3 RX3 84 yX3_tellChanges cX3_tellChanges 2 none 0 := ⟨wd290, wd287, wd289, wd1, wd21, rfl, ⟨by decide +kernel, by decide +kernel, by decide +kernel⟩⟩
theorem kV_X3_87 : xcV RX3 RX3 87 yX3_needClosure cX3_needClosure 2 none 1 := ⟨wd351, wd348, wd350, wd6, wd21, rfl, ⟨by decide +kernel, by decide +kernel, by decide +kernel⟩⟩
theorem kV_X3_90 : xcV RX3 RX0 90 yX0_awaitsAnswer cX0_awaitsAnswer 2 (some .boolean) 1 := ⟨wd360, wd357, wd358, wd359, wd22, rfl, ⟨by decide +kernel, by decide +kernel, by decide +kernel⟩⟩
theorem kV_X3_98 : xcV RX3 RX0 98 yX0_setAnswer cX0_setAnswer 3 none 2 := ⟨wd380, wd377, wd378, wd379, wd22, rfl, ⟨by decide +kernel, by decide +kernel, by decide +kernel⟩⟩
theorem kV_X3_104 : xcV RX3 RX0 104 yX0_canBeLifted cX0_canBeLifted 3 (some .boolean) 2 := ⟨wd392, wd389, wd390, wd391, wd22, rfl, ⟨by decide +kernel, by decide +kernel, by decide +kernel⟩⟩
theorem kV_X3_110 : xcV RX3 RX0 110 yX0_giveWord cX0_giveWord 3 (some .boolean) 2 := ⟨wd397, wd394, wd395, wd396, wd22, rfl, ⟨by decide +kernel, by decide +kernel, by decide +kernel⟩⟩
theorem kV_X3_113 : xcV RX3 RX0 113 yX0_endAt cX0_endAt 3 none 2 := ⟨wd401, wd398, wd399, wd400, wd22, rfl, ⟨by decide +kernel, by decide +kernel, by decide +kernel⟩⟩
theorem kV_X3_137 : xcV RX3 RX2 137 yX2_isFull cX2_isFull 2 (some .boolean) 1 := ⟨wd436, wd433, wd434, wd435, wd23, rfl, ⟨by decide +kernel, by decide +kernel, by decide +kernel⟩⟩
theorem kV_X3_141 : xcV RX3 RX2 141 yX2_add cX2_add 3 (some .int) 2 := ⟨wd441, wd438, wd439, wd440, wd23, rfl, ⟨by decide +kernel, by decide +kernel, by decide +kernel⟩⟩
theorem kV_X3_130 : xcV RX3 RX2 130 yX2_empty cX2_empty 2 none 1 := ⟨wd427, wd424, wd425, wd426, wd23, rfl, ⟨by decide +kernel, by decide +kernel, by decide +kernel⟩⟩
theorem kS_X3_41 : xcS RX3 41 yX3_needKind cX3_needKind 2 none 2 := ⟨wd142, wd140, wd141, wd21, ⟨by decide +kernel, by decide +kernel, by decide +kernel⟩⟩
theorem kS_X3_59 : xcS RX3 59 yX3_needEnd cX3_needEnd 3 none 3 := ⟨wd243, wd241, wd242, wd21, ⟨by decide +kernel, by decide +kernel, by decide +kernel⟩⟩
theorem kS_X3_63 : xcS RX3 63 yX3_needX cX3_needX 2 none 2 := ⟨wd250, wd248, wd249, wd21, ⟨by decide +kernel, by decide +kernel, by decide +kernel⟩⟩
theorem kV_X3_66 : xcV RX3 RX0 66 yX0_isFull cX0_isFull 1 (some .boolean) 0 := ⟨wd265, wd262, wd263, wd264, wd22, rfl, ⟨by decide +kernel, by decide +kernel, by decide +kernel⟩⟩
theorem kV_X3_80 : xcV RX3 RX0 80 yX0_add cX0_add 8 (some .int) 6 := ⟨wd286, wd283, wd284, wd285, wd22, rfl, ⟨by decide +kernel, by decide +kernel, by decide +kernel⟩⟩
set_option maxHeartbeats 4000000 in
set_option maxRecDepth 100000 in
theorem r_X3_needClosure (l : Launch) (D : va_G) (hl9 : l.stackTraces = false) (h0 : Nat) (a : Nat → Nat) (cI cZ : ClassId) (C : CS) (hO : kOk (cK C)) (i1 : Int32) : xTV l yX3_needClosure cX3_needClosure 2 none (xrt 6 90) [.ref (a 17), .int (i1)] D h0 (wC a cI cZ C) (tyL cI cZ) none (bCl (kN (cK C)) i1 = false) (fun E => E = eIA ∧ bCl (kN (cK C)) i1 = true) := by
  refine xTV.of (by decide +kernel) (Nat.le_of_ble_eq_true rfl) ?_
  intro p e s m args below meth cd hx hb hr hml hown hlocks htab ht hN hT9 hP hK ls hl
  have hl : lv_has ls 2 [(0, .ref (a 17)), (1, .int (i1))] := hl
  have hown : s.vm.findClass RX3 = some m.cls := hown
  refine lv_aload_n hx hb dX3_needClosure_0 rfl (lv_at hl 0 rfl) ?_
  refine va_get (D := D) (ci := 3) (v := .ref (a 0)) (C := RX3) (T := TX3) (N := 6) hx hb ht inX3 hown hK hP 0 rfl rfl 0 (by decide) (ht _ wd107) (fun _ h9 => h9) rfl dX3_needClosure_1 ?_
  refine lv_iload_n hx hb dX3_needClosure_4 rfl (lv_at hl 1 rfl) ?_
  refine xrV (As := [.int (i1)]) (rest := []) hx hb hml hown ht hN kV_X3_203 (r_X0_has l D a cI cZ (cK C) hO i1) ⟨by decide, by decide⟩ (hP.sub (ws' := (wK a cI cZ (cK C))) [1, 2, 3, 4, 5, 6, 7, 8, 9, 10] rfl) hK rfl rfl rfl rfl hl.1 rfl (Nat.le_of_ble_eq_true rfl) dX3_needClosure_5 ⟨Nat.zero_le _, Nat.zero_le _⟩ ?_
  refine lv_if_ne (tgt := 21) hx hb dX3_needClosure_8 (by decide) (fun h_8 => ?_) (fun h_8 => ?_)
  · skip
    have h_8 : ¬ ((bI (!decide (i1 < 0) && !decide (nI (kN (cK C)) ≤ i1)) : Int32) = (0 : Int32)) := h_8
    exact xt_vret hx hb hr hlocks (by unfold bCl; rw [← has_eq hO.1, bI_t h_8]; rfl) dX3_needClosure_21
  · skip
    have h_8 : (bI (!decide (i1 < 0) && !decide (nI (kN (cK C)) ≤ i1)) : Int32) = (0 : Int32) := h_8
    exact xt_throw hx hb hl9 hml hown ht hT9 kT_IAE_206 hl.1 dX3_needClosure_11 dX3_needClosure_14 dX3_needClosure_15 dX3_needClosure_17 dX3_needClosure_20 htab hlocks (by decide) (Nat.le_of_ble_eq_true rfl) ⟨by decide, by decide⟩ (⟨rfl, by unfold bCl; rw [← has_eq hO.1, bI_f h_8]; rfl⟩)
set_option maxHeartbeats 4000000 in
set_option maxRecDepth 100000 in
theorem r_X3_clock (l : Launch) (D : va_G) (a : Nat → Nat) (cI cZ : ClassId) (C : CS) : xRO l yX3_clock cX3_clock 1 (some .int) (xrm 0 0) [.ref (a 17)] D (wC a cI cZ C) (tyL cI cZ) (nI (cT C)) := by
  refine xRO.of (by decide +kernel) (Nat.le_of_ble_eq_true rfl) ?_
  intro p e s m args below meth cd hx hb hr hml hown hlocks ht hN hP hK ls hl
  have hl : lv_has ls 1 [(0, .ref (a 17))] := hl
  have hown : s.vm.findClass RX3 = some m.cls := hown
  refine lv_aload_n hx hb dX3_clock_0 rfl (lv_at hl 0 rfl) ?_
  refine va_get (D := D) (ci := 3) (v := .int (nI (cT C))) (C := RX3) (T := TX3) (N := 6) hx hb ht inX3 hown hK hP 0 rfl rfl 5 (by decide) (ht _ wd112) (fun _ h9 => h9) rfl dX3_clock_1 ?_
  exact xr_iret (v := nI (cT C)) hx hb hr hlocks (rfl) dX3_clock_4
set_option maxHeartbeats 4000000 in
set_option maxRecDepth 100000 in
theorem r_X3_closed (l : Launch) (D : va_G) (hl9 : l.stackTraces = false) (h0 : Nat) (a : Nat → Nat) (cI cZ : ClassId) (C : CS) (hC : cOk C) (p1 s1 t : Int32) : xTP l yX3_closed cX3_closed 5 (some .boolean) (xrt 8 131) [.ref (a 17), .int (p1), .int (s1), .int (t)] D h0 (wC a cI cZ C) (tyL cI cZ) (some (.int (bI (closedK (cK C) (plI p1 s1) t)))) (wC a cI cZ C) (ok3 (bPc p1) (bSt s1 t) (false)) (fl3 eIA eIO eIS (bPc p1) (bSt s1 t) (false)) := by
  refine xTP.of (by decide +kernel) (Nat.le_of_ble_eq_true rfl) ?_
  intro p e s m args below meth cd hx hb hr hml hown hlocks htab ht hN hT9 hP hK hD hS ls hl
  have hl : lv_has ls 5 [(0, .ref (a 17)), (1, .int (p1)), (2, .int (s1)), (3, .int (t))] := hl
  have hown : s.vm.findClass RX3 = some m.cls := hown
  have hO := hC.1
  have hR := hC.2.1
  have hT0 := hC.2.2
  have hn := hO.1
  refine lv_iload_n hx hb dX3_closed_0 rfl (lv_at hl 1 rfl) ?_
  refine lv_iload_n hx hb dX3_closed_1 rfl (lv_at hl 2 rfl) ?_
  refine xtS (As := [.int (p1), .int (s1)]) (rest := []) hx hb hml hown ht hN hT9 kS_X3_133 (r_X3_needPlace l D hl9 h0 p1 s1) ⟨by decide, by decide⟩ (fun k q h => by simp at h) (hK.sub (tys' := []) [] rfl) rfl hl.1 rfl (Nat.le_of_ble_eq_true rfl) dX3_closed_2 ⟨by decide, by decide⟩ (fun E ce q9 H1 hF hz hk hce hcv hcl => xt_out htab hlocks (fl_place (t := t) hF (fun z => by unfold bSt; rw [z]; rfl)) hz hk hce hcv hcl) (fun hp_2 => ?_)
  refine lv_istore (lv' := [(4, .int (nI (plI p1 s1))), (0, .ref (a 17)), (1, .int (p1)), (2, .int (s1)), (3, .int (t))]) hx hb dX3_closed_5 hl (by decide) rfl (fun ls hl => ?_)
  refine lv_iload_n hx hb dX3_closed_7 rfl (lv_at hl 4 rfl) ?_
  refine xtS (As := [.int (t)]) (rest := []) hx hb hml hown ht hN hT9 kS_X3_56 (r_X3_needMinute l D hl9 h0 t) ⟨by decide, by decide⟩ (fun k q h => by simp at h) (hK.sub (tys' := []) [] rfl) rfl hl.1 rfl (Nat.le_of_ble_eq_true rfl) dX3_closed_8 ⟨by decide, by decide⟩ (fun E ce q9 H1 hF hz hk hce hcv hcl => xt_out htab hlocks (Or.inr (Or.inl ⟨hF.1, hp_2.1, by unfold bSt; rw [hF.2, Bool.not_false, Bool.or_true]⟩)) hz hk hce hcv hcl) (fun hp_8 => ?_)
  refine lv_aload_n hx hb dX3_closed_11 rfl (lv_at hl 1 rfl) ?_
  refine va_get (D := D) (ci := 3) (v := .ref (a 0)) (C := RX3) (T := TX3) (N := 6) hx hb ht inX3 hown hK hP 0 rfl rfl 0 (by decide) (ht _ wd107) (fun _ h9 => h9) rfl dX3_closed_12 ?_
  refine lv_iload hx hb dX3_closed_15 (lv_at hl 0 rfl) ?_
  refine lv_iload_n hx hb dX3_closed_17 rfl (lv_at hl 4 rfl) ?_
  refine xrV (As := [.int (nI (plI p1 s1)), .int (t)]) (rest := []) hx hb hml hown ht hN kV_X3_154 (r_X0_isClosedAt l D a cI cZ (cK C) hO (plI p1 s1) (plI_lt hp_2.1 hp_2.2).1 t) ⟨by decide, by decide⟩ (hP.sub (ws' := (wK a cI cZ (cK C))) [1, 2, 3, 4, 5, 6, 7, 8, 9, 10] rfl) hK rfl rfl rfl rfl hl.1 rfl (Nat.le_of_ble_eq_true rfl) dX3_closed_18 ⟨Nat.zero_le _, Nat.zero_le _⟩ ?_
  exact xp_zret (v := bI (closedK (cK C) (plI p1 s1) t)) hx hb hr hlocks (by first | rfl | exact bI_nar _) hS hP (rfl) (⟨hp_2.1, by unfold bSt; rw [hp_2.2, hp_8]; rfl, rfl⟩) dX3_closed_21
set_option maxHeartbeats 4000000 in
set_option maxRecDepth 100000 in
theorem r_X3_speed (l : Launch) (D : va_G) (hl9 : l.stackTraces = false) (h0 : Nat) (a : Nat → Nat) (cI cZ : ClassId) (C : CS) (hC : cOk C) (p1 s1 t : Int32) : xTP l yX3_speed cX3_speed 5 (some .int) (xrt 8 131) [.ref (a 17), .int (p1), .int (s1), .int (t)] D h0 (wC a cI cZ C) (tyL cI cZ) (some (.int (percentK (cK C) (plI p1 s1) t))) (wC a cI cZ C) (ok3 (bPc p1) (bSt s1 t) (false)) (fl3 eIA eIO eIS (bPc p1) (bSt s1 t) (false)) := by
  refine xTP.of (by decide +kernel) (Nat.le_of_ble_eq_true rfl) ?_
  intro p e s m args below meth cd hx hb hr hml hown hlocks htab ht hN hT9 hP hK hD hS ls hl
  have hl : lv_has ls 5 [(0, .ref (a 17)), (1, .int (p1)), (2, .int (s1)), (3, .int (t))] := hl
  have hown : s.vm.findClass RX3 = some m.cls := hown
  have hO := hC.1
  have hR := hC.2.1
  have hT0 := hC.2.2
  have hn := hO.1
  refine lv_iload_n hx hb dX3_speed_0 rfl (lv_at hl 1 rfl) ?_
  refine lv_iload_n hx hb dX3_speed_1 rfl (lv_at hl 2 rfl) ?_
  refine xtS (As := [.int (p1), .int (s1)]) (rest := []) hx hb hml hown ht hN hT9 kS_X3_133 (r_X3_needPlace l D hl9 h0 p1 s1) ⟨by decide, by decide⟩ (fun k q h => by simp at h) (hK.sub (tys' := []) [] rfl) rfl hl.1 rfl (Nat.le_of_ble_eq_true rfl) dX3_speed_2 ⟨by decide, by decide⟩ (fun E ce q9 H1 hF hz hk hce hcv hcl => xt_out htab hlocks (fl_place (t := t) hF (fun z => by unfold bSt; rw [z]; rfl)) hz hk hce hcv hcl) (fun hp_2 => ?_)
  refine lv_istore (lv' := [(4, .int (nI (plI p1 s1))), (0, .ref (a 17)), (1, .int (p1)), (2, .int (s1)), (3, .int (t))]) hx hb dX3_speed_5 hl (by decide) rfl (fun ls hl => ?_)
  refine lv_iload_n hx hb dX3_speed_7 rfl (lv_at hl 4 rfl) ?_
  refine xtS (As := [.int (t)]) (rest := []) hx hb hml hown ht hN hT9 kS_X3_56 (r_X3_needMinute l D hl9 h0 t) ⟨by decide, by decide⟩ (fun k q h => by simp at h) (hK.sub (tys' := []) [] rfl) rfl hl.1 rfl (Nat.le_of_ble_eq_true rfl) dX3_speed_8 ⟨by decide, by decide⟩ (fun E ce q9 H1 hF hz hk hce hcv hcl => xt_out htab hlocks (Or.inr (Or.inl ⟨hF.1, hp_2.1, by unfold bSt; rw [hF.2, Bool.not_false, Bool.or_true]⟩)) hz hk hce hcv hcl) (fun hp_8 => ?_)
  refine lv_aload_n hx hb dX3_speed_11 rfl (lv_at hl 1 rfl) ?_
  refine va_get (D := D) (ci := 3) (v := .ref (a 0)) (C := RX3) (T := TX3) (N := 6) hx hb ht inX3 hown hK hP 0 rfl rfl 0 (by decide) (ht _ wd107) (fun _ h9 => h9) rfl dX3_speed_12 ?_
  refine lv_iload hx hb dX3_speed_15 (lv_at hl 0 rfl) ?_
  refine lv_iload_n hx hb dX3_speed_17 rfl (lv_at hl 4 rfl) ?_
  refine xrV (As := [.int (nI (plI p1 s1)), .int (t)]) (rest := []) hx hb hml hown ht hN kV_X3_173 (r_X0_percentAt l D a cI cZ (cK C) hO (plI p1 s1) (plI_lt hp_2.1 hp_2.2).1 t) ⟨by decide, by decide⟩ (hP.sub (ws' := (wK a cI cZ (cK C))) [1, 2, 3, 4, 5, 6, 7, 8, 9, 10] rfl) hK rfl rfl rfl rfl hl.1 rfl (Nat.le_of_ble_eq_true rfl) dX3_speed_18 ⟨Nat.zero_le _, Nat.zero_le _⟩ ?_
  exact xp_iret (v := percentK (cK C) (plI p1 s1) t) hx hb hr hlocks hS hP (rfl) (⟨hp_2.1, by unfold bSt; rw [hp_2.2, hp_8]; rfl, rfl⟩) dX3_speed_21
set_option maxHeartbeats 4000000 in
set_option maxRecDepth 100000 in
theorem r_X3_reason (l : Launch) (D : va_G) (hl9 : l.stackTraces = false) (h0 : Nat) (a : Nat → Nat) (cI cZ : ClassId) (C : CS) (hC : cOk C) (p1 s1 t i1 : Int32) : xTP l yX3_reason cX3_reason 6 (some .int) (xrt 8 136) [.ref (a 17), .int (p1), .int (s1), .int (t), .int (i1)] D h0 (wC a cI cZ C) (tyL cI cZ) (some (.int (holdingK (cK C) (plI p1 s1) t i1))) (wC a cI cZ C) (ok3 (bPc p1) (bRe s1 t i1) (false)) (fl3 eIA eIO eIS (bPc p1) (bRe s1 t i1) (false)) := by
  refine xTP.of (by decide +kernel) (Nat.le_of_ble_eq_true rfl) ?_
  intro p e s m args below meth cd hx hb hr hml hown hlocks htab ht hN hT9 hP hK hD hS ls hl
  have hl : lv_has ls 6 [(0, .ref (a 17)), (1, .int (p1)), (2, .int (s1)), (3, .int (t)), (4, .int (i1))] := hl
  have hown : s.vm.findClass RX3 = some m.cls := hown
  have hO := hC.1
  have hR := hC.2.1
  have hT0 := hC.2.2
  have hn := hO.1
  refine lv_iload_n hx hb dX3_reason_0 rfl (lv_at hl 1 rfl) ?_
  refine lv_iload_n hx hb dX3_reason_1 rfl (lv_at hl 2 rfl) ?_
  refine xtS (As := [.int (p1), .int (s1)]) (rest := []) hx hb hml hown ht hN hT9 kS_X3_133 (r_X3_needPlace l D hl9 h0 p1 s1) ⟨by decide, by decide⟩ (fun k q h => by simp at h) (hK.sub (tys' := []) [] rfl) rfl hl.1 rfl (Nat.le_of_ble_eq_true rfl) dX3_reason_2 ⟨by decide, by decide⟩ (fun E ce q9 H1 hF hz hk hce hcv hcl => xt_out htab hlocks (fl_place (t := t) hF (fun z => by unfold bRe; rw [z]; rfl)) hz hk hce hcv hcl) (fun hp_2 => ?_)
  refine lv_istore (lv' := [(5, .int (nI (plI p1 s1))), (0, .ref (a 17)), (1, .int (p1)), (2, .int (s1)), (3, .int (t)), (4, .int (i1))]) hx hb dX3_reason_5 hl (by decide) rfl (fun ls hl => ?_)
  refine lv_iload_n hx hb dX3_reason_7 rfl (lv_at hl 4 rfl) ?_
  refine xtS (As := [.int (t)]) (rest := []) hx hb hml hown ht hN hT9 kS_X3_56 (r_X3_needMinute l D hl9 h0 t) ⟨by decide, by decide⟩ (fun k q h => by simp at h) (hK.sub (tys' := []) [] rfl) rfl hl.1 rfl (Nat.le_of_ble_eq_true rfl) dX3_reason_8 ⟨by decide, by decide⟩ (fun E ce q9 H1 hF hz hk hce hcv hcl => xt_out htab hlocks (Or.inr (Or.inl ⟨hF.1, hp_2.1, by unfold bRe; rw [hF.2, Bool.not_false, Bool.true_or, Bool.or_true]⟩)) hz hk hce hcv hcl) (fun hp_8 => ?_)
  refine lv_iload hx hb dX3_reason_11 (lv_at hl 5 rfl) ?_
  refine lv_if_ge (tgt := 26) hx hb dX3_reason_13 (by decide) (fun h_13 => ?_) (fun h_13 => ?_)
  · skip
    have h_13 : (0 : Int32) ≤ (i1 : Int32) := h_13
    refine lv_aload_n hx hb dX3_reason_26 rfl (lv_at hl 1 rfl) ?_
    refine va_get (D := D) (ci := 3) (v := .ref (a 0)) (C := RX3) (T := TX3) (N := 6) hx hb ht inX3 hown hK hP 0 rfl rfl 0 (by decide) (ht _ wd107) (fun _ h9 => h9) rfl dX3_reason_27 ?_
    refine lv_iload hx hb dX3_reason_30 (lv_at hl 0 rfl) ?_
    refine lv_iload_n hx hb dX3_reason_32 rfl (lv_at hl 4 rfl) ?_
    refine lv_iload hx hb dX3_reason_33 (lv_at hl 5 rfl) ?_
    refine xrV (As := [.int (nI (plI p1 s1)), .int (t), .int (i1)]) (rest := []) hx hb hml hown ht hN kV_X3_169 (r_X0_holdingAt l D a cI cZ (cK C) hO (plI p1 s1) (plI_lt hp_2.1 hp_2.2).1 t i1) ⟨by decide, by decide⟩ (hP.sub (ws' := (wK a cI cZ (cK C))) [1, 2, 3, 4, 5, 6, 7, 8, 9, 10] rfl) hK rfl rfl rfl rfl hl.1 rfl (Nat.le_of_ble_eq_true rfl) dX3_reason_35 ⟨Nat.zero_le _, Nat.zero_le _⟩ ?_
    exact xp_iret (v := holdingK (cK C) (plI p1 s1) t i1) hx hb hr hlocks hS hP (rfl) (⟨hp_2.1, by unfold bRe; rw [hp_2.2, hp_8, decide_eq_false (Int32.not_lt.mpr h_13)]; rfl, rfl⟩) dX3_reason_38
  · skip
    have h_13 : ¬ ((0 : Int32) ≤ (i1 : Int32)) := h_13
    exact xt_throw hx hb hl9 hml hown ht hT9 kT_IOE_167 hl.1 dX3_reason_16 dX3_reason_19 dX3_reason_20 dX3_reason_22 dX3_reason_25 htab hlocks (by decide) (Nat.le_of_ble_eq_true rfl) ⟨by decide, by decide⟩ (Or.inr (Or.inl ⟨rfl, hp_2.1, by unfold bRe; rw [decide_eq_true (Int32.not_le.mp h_13), Bool.or_true, Bool.or_true]⟩))
set_option maxHeartbeats 4000000 in
set_option maxRecDepth 100000 in
theorem r_X3_notice (l : Launch) (D : va_G) (hl9 : l.stackTraces = false) (h0 : Nat) (a : Nat → Nat) (cI cZ : ClassId) (C : CS) (hC : cOk C) (i1 w1 : Int32) : xTP l yX3_notice cX3_notice 3 (some .int) (xrt 6 90) [.ref (a 17), .int (i1), .int (w1)] D h0 (wC a cI cZ C) (tyL cI cZ) (some (.int (nRw (cN C) (fstT (ix i1) + ix w1)))) (wC a cI cZ C) (ok3 (noK (nT (cN C)) i1 w1) (false) (false)) (fl3 eIA eIO eIS (noK (nT (cN C)) i1 w1) (false) (false)) := by
  refine xTP.of (by decide +kernel) (Nat.le_of_ble_eq_true rfl) ?_
  intro p e s m args below meth cd hx hb hr hml hown hlocks htab ht hN hT9 hP hK hD hS ls hl
  have hl : lv_has ls 3 [(0, .ref (a 17)), (1, .int (i1)), (2, .int (w1))] := hl
  have hown : s.vm.findClass RX3 = some m.cls := hown
  have hO := hC.1
  have hR := hC.2.1
  have hT0 := hC.2.2
  have hn := hO.1
  refine lv_aload_n hx hb dX3_notice_0 rfl (lv_at hl 0 rfl) ?_
  refine va_get (D := D) (ci := 3) (v := .ref (a 13)) (C := RX3) (T := TX3) (N := 6) hx hb ht inX3 hown hK hP 0 rfl rfl 2 (by decide) (ht _ wd109) (fun _ h9 => h9) rfl dX3_notice_1 ?_
  refine lv_iload_n hx hb dX3_notice_4 rfl (lv_at hl 1 rfl) ?_
  refine xrV (As := [.int (i1)]) (rest := []) hx hb hml hown ht hN kV_X3_176 (r_X1_isKept l D (fun i => a (13 + i)) cI cZ (cN C) i1) ⟨by decide, by decide⟩ (hP.sub (ws' := (wNt (fun i => a (13 + i)) cI (cN C))) [14, 15] rfl) hK rfl rfl rfl rfl hl.1 rfl (Nat.le_of_ble_eq_true rfl) dX3_notice_5 ⟨Nat.zero_le _, Nat.zero_le _⟩ ?_
  refine lv_if_eq (tgt := 20) hx hb dX3_notice_8 (by decide) (fun h_8 => ?_) (fun h_8 => ?_)
  · skip
    have h_8 : (bI (!decide (i1 < 0) && (!decide (nI (nT (cN C)) ≤ i1) && !decide (i1 < nI (nT (cN C)) - nI 100))) : Int32) = (0 : Int32) := h_8
    exact xt_throw hx hb hl9 hml hown ht hT9 kT_IAE_179 hl.1 dX3_notice_20 dX3_notice_23 dX3_notice_24 dX3_notice_26 dX3_notice_29 htab hlocks (by decide) (Nat.le_of_ble_eq_true rfl) ⟨by decide, by decide⟩ (Or.inl ⟨rfl, by unfold noK; first | (rw [bI_f h_8]; rfl) | (rw [inI_lo (lo := nI 0) h_12, Bool.not_false, Bool.or_true]) | (rw [inI_hi (Classical.byContradiction (fun z => h_17 ((lt_sI (by decide)).mpr z))), Bool.not_false, Bool.or_true])⟩)
  · skip
    have h_8 : ¬ ((bI (!decide (i1 < 0) && (!decide (nI (nT (cN C)) ≤ i1) && !decide (i1 < nI (nT (cN C)) - nI 100))) : Int32) = (0 : Int32)) := h_8
    refine lv_iload_n hx hb dX3_notice_11 rfl (lv_at hl 2 rfl) ?_
    refine lv_if_lt (tgt := 20) hx hb dX3_notice_12 (by decide) (fun h_12 => ?_) (fun h_12 => ?_)
    · skip
      have h_12 : (w1 : Int32) < (0 : Int32) := h_12
      exact xt_throw hx hb hl9 hml hown ht hT9 kT_IAE_179 hl.1 dX3_notice_20 dX3_notice_23 dX3_notice_24 dX3_notice_26 dX3_notice_29 htab hlocks (by decide) (Nat.le_of_ble_eq_true rfl) ⟨by decide, by decide⟩ (Or.inl ⟨rfl, by unfold noK; first | (rw [bI_f h_8]; rfl) | (rw [inI_lo (lo := nI 0) h_12, Bool.not_false, Bool.or_true]) | (rw [inI_hi (Classical.byContradiction (fun z => h_17 ((lt_sI (by decide)).mpr z))), Bool.not_false, Bool.or_true])⟩)
    · skip
      have h_12 : ¬ ((w1 : Int32) < (0 : Int32)) := h_12
      refine lv_iload_n hx hb dX3_notice_15 rfl (lv_at hl 2 rfl) ?_
      refine lv_iconst (v := nI 5) hx hb dX3_notice_16 (by decide) ?_
      refine lv_icmp_lt (tgt := 30) hx hb dX3_notice_17 (by decide) (fun h_17 => ?_) (fun h_17 => ?_)
      · skip
        have h_17 : (w1 : Int32) < (nI 5 : Int32) := h_17
        have hw : inI w1 (nI 0) (nI 4) = true := inI_t (lo := nI 0) h_12 ((lt_sI (by decide)).mp h_17)
        obtain ⟨ew, -, hw9⟩ := ix_in (by decide) (by decide) hw
        have hk := bI_t h_8
        rw [Bool.and_eq_true, Bool.not_eq_true', decide_eq_false_iff_not] at hk
        obtain ⟨ei, hei⟩ := ix_of (v := i1) (by have z := hk.1; rw [Int32.lt_iff_toInt_lt] at z; have z0 : (0 : Int32).toInt = 0 := rfl; omega)
        have hi9 : ix i1 < 2 ^ 31 := by have z := Int32.toInt_lt i1; omega
        refine lv_aload_n hx hb dX3_notice_30 rfl (lv_at hl 0 rfl) ?_
        refine va_get (D := D) (ci := 3) (v := .ref (a 13)) (C := RX3) (T := TX3) (N := 6) hx hb ht inX3 hown hK hP 0 rfl rfl 2 (by decide) (ht _ wd109) (fun _ h9 => h9) rfl dX3_notice_31 ?_
        refine lv_iload_n hx hb dX3_notice_34 rfl (lv_at hl 1 rfl) ?_
        refine lv_iload_n hx hb dX3_notice_35 rfl (lv_at hl 2 rfl) ?_
        refine xtop (y := nI (ix w1)) ew ?_
        refine xtop2 (y := nI (ix i1)) ei ?_
        refine xrV (As := [.int (nI (ix i1)), .int (nI (ix w1))]) (rest := []) hx hb hml hown ht hN kV_X3_181 (r_X1_get l D (fun i => a (13 + i)) cI cZ (cN C) (ix i1) (ix w1) hi9 (by omega)) ⟨by decide, by decide⟩ (hP.sub (ws' := (wNt (fun i => a (13 + i)) cI (cN C))) [14, 15] rfl) hK rfl rfl rfl rfl hl.1 rfl (Nat.le_of_ble_eq_true rfl) dX3_notice_36 ⟨Nat.zero_le _, Nat.zero_le _⟩ ?_
        exact xp_iret (v := nRw (cN C) (fstT (ix i1) + ix w1)) hx hb hr hlocks hS hP (rfl) (⟨by unfold noK; rw [bI_t h_8, hw]; rfl, rfl, rfl⟩) dX3_notice_39
      · skip
        have h_17 : ¬ ((w1 : Int32) < (nI 5 : Int32)) := h_17
        exact xt_throw hx hb hl9 hml hown ht hT9 kT_IAE_179 hl.1 dX3_notice_20 dX3_notice_23 dX3_notice_24 dX3_notice_26 dX3_notice_29 htab hlocks (by decide) (Nat.le_of_ble_eq_true rfl) ⟨by decide, by decide⟩ (Or.inl ⟨rfl, by unfold noK; first | (rw [bI_f h_8]; rfl) | (rw [inI_lo (lo := nI 0) h_12, Bool.not_false, Bool.or_true]) | (rw [inI_hi (Classical.byContradiction (fun z => h_17 ((lt_sI (by decide)).mpr z))), Bool.not_false, Bool.or_true])⟩)
set_option maxHeartbeats 4000000 in
set_option maxRecDepth 100000 in
theorem r_X3_blocked (l : Launch) (D : va_G) (hl9 : l.stackTraces = false) (h0 : Nat) (a : Nat → Nat) (cI cZ : ClassId) (C : CS) (hC : cOk C) (u1 : Int32) : xTP l yX3_blocked cX3_blocked 4 (some .int) (xrt 7 110) [.ref (a 17), .int (u1)] D h0 (wC a cI cZ C) (tyL cI cZ) (some (.int (blkCr C u1))) (wC a cI cZ C) (ok3 (bUn u1) (false) (false)) (fl3 eIA eIO eIS (bUn u1) (false) (false)) := by
  refine xTP.of (by decide +kernel) (Nat.le_of_ble_eq_true rfl) ?_
  intro p e s m args below meth cd hx hb hr hml hown hlocks htab ht hN hT9 hP hK hD hS ls hl
  have hl : lv_has ls 4 [(0, .ref (a 17)), (1, .int (u1))] := hl
  have hown : s.vm.findClass RX3 = some m.cls := hown
  have hO := hC.1
  have hR := hC.2.1
  have hT0 := hC.2.2
  have hn := hO.1
  have L8 : ∀ (n : Nat) (n1 : Nat) (k : Nat), (rL (cR C) (ix u1) < k + n) → (k ≤ rL (cR C) (ix u1)) → (u1 = nI (ix u1)) → (ix u1 ≤ 9) → (bUn u1 = false) → (n1 = cntN (fun k => closedK (cK C) (rP (cR C) (ix u1 * 12 + k)) (nI (cT C))) k) → ∀ (H : Heap) (locs : List Loc), va_P D vwCl (wC a cI cZ C) H → va_D (xA (wC a cI cZ C)) (wC a cI cZ C) → va_S (xA (wC a cI cZ C)) s.heap H locs → ∀ ls : Array Slot, lv_has ls 4 [(0, .ref (a 17)), (1, .int (u1)), (2, .int (nI n1)), (3, .int (nI k))] → W p l e (xrt 7 110) s m args below meth cd H locs 0 0 (vx_MQ below (xQp (some (.int (blkCr C u1))) (ok3 (bUn u1) (false) (false)) D (wC a cI cZ C) (wC a cI cZ C)) (xXv (fl3 eIA eIO eIS (bUn u1) (false) (false))) args s 1 6 (xA (wC a cI cZ C))) (F0 m 8 ls []) := by
    intro n
    induction n with
    | zero =>
      intro n1 k hfuel hi eu hu9 hbu hv
      exact absurd hfuel (by omega)
    | succ n ih8 =>
      intro n1 k hfuel hi eu hu9 hbu hv H locs hP hD hS ls hl
      have hk := (hR (ix u1) (by omega)).1
      have hq := (hR (ix u1) (by omega)).2
      refine lv_iload_n hx hb dX3_blocked_8 rfl (lv_at hl 3 rfl) ?_
      refine lv_aload_n hx hb dX3_blocked_9 rfl (lv_at hl 0 rfl) ?_
      refine va_get (D := D) (ci := 3) (v := .ref (a 10)) (C := RX3) (T := TX3) (N := 6) hx hb ht inX3 hown hK hP 0 rfl rfl 1 (by decide) (ht _ wd108) (fun _ h9 => h9) rfl dX3_blocked_10 ?_
      refine lv_iload_n hx hb dX3_blocked_13 rfl (lv_at hl 1 rfl) ?_
      refine xtop (y := nI (ix u1)) eu ?_
      refine xrV (As := [.int (nI (ix u1))]) (rest := [.int (nI k)]) hx hb hml hown ht hN kV_X3_184 (r_X2_length l D (fun i => a (10 + i)) cI cZ (cR C) (ix u1) (by omega)) ⟨by decide, by decide⟩ (hP.sub (ws' := (wR (fun i => a (10 + i)) cI (cR C))) [11, 12, 13] rfl) hK rfl rfl rfl rfl hl.1 rfl (Nat.le_of_ble_eq_true rfl) dX3_blocked_14 ⟨Nat.zero_le _, Nat.zero_le _⟩ ?_
      refine lv_icmp_ge (tgt := 52) hx hb dX3_blocked_17 (by decide) (fun h_17 => ?_) (fun h_17 => ?_)
      · skip
        have h_17 : (nI (rL (cR C) (ix u1)) : Int32) ≤ (nI k : Int32) := h_17
        have h_17 : (rL (cR C) (ix u1)) ≤ k := (nI_leI (by omega) (by omega)).mp h_17
        refine lv_iload_n hx hb dX3_blocked_52 rfl (lv_at hl 2 rfl) ?_
        exact xp_iret (v := nI n1) hx hb hr hlocks hS hP (by rw [blkCr, show rL (cR C) (ix u1) = k by omega, ← hv]) (⟨hbu, rfl, rfl⟩) dX3_blocked_53
      · skip
        have h_17 : ¬ ((nI (rL (cR C) (ix u1)) : Int32) ≤ (nI k : Int32)) := h_17
        have h_17 : ¬ ((rL (cR C) (ix u1)) ≤ k) := fun z => h_17 ((nI_leI (by omega) (by omega)).mpr z)
        have hk9 := hq k (by omega)
        refine lv_aload_n hx hb dX3_blocked_20 rfl (lv_at hl 0 rfl) ?_
        refine va_get (D := D) (ci := 3) (v := .ref (a 0)) (C := RX3) (T := TX3) (N := 6) hx hb ht inX3 hown hK hP 0 rfl rfl 0 (by decide) (ht _ wd107) (fun _ h9 => h9) rfl dX3_blocked_21 ?_
        refine lv_aload_n hx hb dX3_blocked_24 rfl (lv_at hl 0 rfl) ?_
        refine va_get (D := D) (ci := 3) (v := .ref (a 10)) (C := RX3) (T := TX3) (N := 6) hx hb ht inX3 hown hK hP 0 rfl rfl 1 (by decide) (ht _ wd108) (fun _ h9 => h9) rfl dX3_blocked_25 ?_
        refine lv_iload_n hx hb dX3_blocked_28 rfl (lv_at hl 1 rfl) ?_
        refine lv_iload_n hx hb dX3_blocked_29 rfl (lv_at hl 3 rfl) ?_
        refine xtop2 (y := nI (ix u1)) eu ?_
        refine xrV (As := [.int (nI (ix u1)), .int (nI k)]) (rest := [.ref (a 0)]) hx hb hml hown ht hN kV_X3_187 (r_X2_stepOf l D (fun i => a (10 + i)) cI cZ (cR C) (ix u1) k (by omega)) ⟨by decide, by decide⟩ (hP.sub (ws' := (wR (fun i => a (10 + i)) cI (cR C))) [11, 12, 13] rfl) hK rfl rfl rfl rfl hl.1 rfl (Nat.le_of_ble_eq_true rfl) dX3_blocked_30 ⟨Nat.zero_le _, Nat.zero_le _⟩ ?_
        refine lv_aload_n hx hb dX3_blocked_33 rfl (lv_at hl 0 rfl) ?_
        refine va_get (D := D) (ci := 3) (v := .int (nI (cT C))) (C := RX3) (T := TX3) (N := 6) hx hb ht inX3 hown hK hP 0 rfl rfl 5 (by decide) (ht _ wd112) (fun _ h9 => h9) rfl dX3_blocked_34 ?_
        refine xrV (As := [.int (nI (rP (cR C) (ix u1 * 12 + k))), .int (nI (cT C))]) (rest := []) hx hb hml hown ht hN kV_X3_154 (r_X0_isClosedAt l D a cI cZ (cK C) hO (rP (cR C) (ix u1 * 12 + k)) hk9 (nI (cT C))) ⟨by decide, by decide⟩ (hP.sub (ws' := (wK a cI cZ (cK C))) [1, 2, 3, 4, 5, 6, 7, 8, 9, 10] rfl) hK rfl rfl rfl rfl hl.1 rfl (Nat.le_of_ble_eq_true rfl) dX3_blocked_37 ⟨Nat.zero_le _, Nat.zero_le _⟩ ?_
        refine lv_if_eq (tgt := 46) hx hb dX3_blocked_40 (by decide) (fun h_40 => ?_) (fun h_40 => ?_)
        · skip
          have h_40 : (bI (closedK (cK C) (rP (cR C) (ix u1 * 12 + k)) (nI (cT C))) : Int32) = (0 : Int32) := h_40
          refine lv_iinc (v := nI (k + 1)) (lv' := [(3, .int (nI (k + 1))), (0, .ref (a 17)), (1, .int (u1)), (2, .int (nI n1))]) hx hb dX3_blocked_46 hl (k := 3) rfl (nI_1 _) (by decide) rfl (fun ls hl => ?_)
          refine lv_goto (tgt := 8) hx hb dX3_blocked_49 (by decide) ?_
          exact ih8 (n1) (k + 1) (by omega) (by omega) eu hu9 hbu (by rw [cntN, ← hv]; first | (rw [if_pos (bI_t h_40)]; done) | (rw [if_neg (by rw [bI_f h_40]; decide)]; rfl)) _ _ hP hD hS ls (lv_sub hl [1, 2, 3, 0] rfl)
        · skip
          have h_40 : ¬ ((bI (closedK (cK C) (rP (cR C) (ix u1 * 12 + k)) (nI (cT C))) : Int32) = (0 : Int32)) := h_40
          refine lv_iinc (v := nI (n1 + 1)) (lv' := [(2, .int (nI (n1 + 1))), (0, .ref (a 17)), (1, .int (u1)), (3, .int (nI k))]) hx hb dX3_blocked_43 hl (k := 2) rfl (nI_1 _) (by decide) rfl (fun ls hl => ?_)
          refine lv_iinc (v := nI (k + 1)) (lv' := [(3, .int (nI (k + 1))), (2, .int (nI (n1 + 1))), (0, .ref (a 17)), (1, .int (u1))]) hx hb dX3_blocked_46 hl (k := 3) rfl (nI_1 _) (by decide) rfl (fun ls hl => ?_)
          refine lv_goto (tgt := 8) hx hb dX3_blocked_49 (by decide) ?_
          exact ih8 (n1 + 1) (k + 1) (by omega) (by omega) eu hu9 hbu (by rw [cntN, ← hv]; first | (rw [if_pos (bI_t h_40)]; done) | (rw [if_neg (by rw [bI_f h_40]; decide)]; rfl)) _ _ hP hD hS ls (lv_sub hl [2, 3, 1, 0] rfl)
  refine lv_iload_n hx hb dX3_blocked_0 rfl (lv_at hl 1 rfl) ?_
  refine xtS (As := [.int (u1)]) (rest := []) hx hb hml hown ht hN hT9 kS_X3_127 (r_X3_needUnit l D hl9 h0 u1) ⟨by decide, by decide⟩ (fun k q h => by simp at h) (hK.sub (tys' := []) [] rfl) rfl hl.1 rfl (Nat.le_of_ble_eq_true rfl) dX3_blocked_1 ⟨by decide, by decide⟩ (fun E ce q9 H1 hF hz hk hce hcv hcl => xt_out htab hlocks (Or.inl hF) hz hk hce hcv hcl) (fun hp_1 => ?_)
  obtain ⟨eu, -, hu9⟩ := ix_in (by decide) (by decide) (notF hp_1)
  refine lv_iconst (v := nI 0) hx hb dX3_blocked_4 (by decide) ?_
  refine lv_istore_n (lv' := [(2, .int (nI 0)), (0, .ref (a 17)), (1, .int (u1))]) hx hb dX3_blocked_5 rfl hl (by decide) rfl (fun ls hl => ?_)
  refine lv_iconst (v := nI 0) hx hb dX3_blocked_6 (by decide) ?_
  refine lv_istore_n (lv' := [(3, .int (nI 0)), (2, .int (nI 0)), (0, .ref (a 17)), (1, .int (u1))]) hx hb dX3_blocked_7 rfl hl (by decide) rfl (fun ls hl => ?_)
  exact L8 (rL (cR C) (ix u1) + 1) 0 0 (by omega) (by omega) eu hu9 hp_1 rfl _ _ hP hD hS ls (lv_sub hl [2, 3, 1, 0] rfl)
set_option maxHeartbeats 4000000 in
set_option maxRecDepth 100000 in
theorem r_X3_incident (l : Launch) (D : va_G) (hl9 : l.stackTraces = false) (h0 : Nat) (a : Nat → Nat) (cI cZ : ClassId) (C : CS) (hC : cOk C) (i1 : Int32) (b1 : Bool) : xTP l yX3_incident cX3_incident 3 none (xrt 6 110) [.ref (a 17), .int (i1), .int (bI b1)] D h0 (wC a cI cZ C) (tyL cI cZ) none (wC a cI cZ (incC C i1 b1)) (ok3 (bIn i1) (false) (false)) (fl3 eIA eIO eIS (bIn i1) (false) (false)) := by
  refine xTP.of (by decide +kernel) (Nat.le_of_ble_eq_true rfl) ?_
  intro p e s m args below meth cd hx hb hr hml hown hlocks htab ht hN hT9 hP hK hD hS ls hl
  have hl : lv_has ls 3 [(0, .ref (a 17)), (1, .int (i1)), (2, .int (bI b1))] := hl
  have hown : s.vm.findClass RX3 = some m.cls := hown
  have hO := hC.1
  have hR := hC.2.1
  have hT0 := hC.2.2
  have hn := hO.1
  refine lv_iload_n hx hb dX3_incident_0 rfl (lv_at hl 1 rfl) ?_
  refine xrS (As := [.int (i1)]) (rest := []) hx hb hml hown ht hN kS_X3_116 (r_X3_isIncident l D i1) ⟨by decide, by decide⟩ (fun k q h => by simp at h) (hK.sub (tys' := []) [] rfl) rfl hl.1 rfl (Nat.le_of_ble_eq_true rfl) dX3_incident_1 ⟨Nat.zero_le _, Nat.zero_le _⟩ ?_
  refine lv_if_ne (tgt := 17) hx hb dX3_incident_4 (by decide) (fun h_4 => ?_) (fun h_4 => ?_)
  · skip
    have h_4 : ¬ ((bI (inI i1 (nI 0) (nI 19)) : Int32) = (0 : Int32)) := h_4
    obtain ⟨ei, -, hi9⟩ := ix_in (by decide) (by decide) (bI_t h_4)
    refine lv_aload_n hx hb dX3_incident_17 rfl (lv_at hl 0 rfl) ?_
    refine va_get (D := D) (ci := 3) (v := .ref (a 0)) (C := RX3) (T := TX3) (N := 6) hx hb ht inX3 hown hK hP 0 rfl rfl 0 (by decide) (ht _ wd107) (fun _ h9 => h9) rfl dX3_incident_18 ?_
    refine lv_iload_n hx hb dX3_incident_21 rfl (lv_at hl 1 rfl) ?_
    refine lv_iload_n hx hb dX3_incident_22 rfl (lv_at hl 2 rfl) ?_
    refine xtop2 (y := nI (ix i1)) ei ?_
    refine xwV (As := [.int (nI (ix i1)), .int (bI b1)]) (rest := []) (wr := [(a 17, .inr (3, [.ref (a 0), .ref (a 10), .ref (a 13), .ref (a 15), .ref (a 16), .int (nI (cT C))])), (a 10, .inr (2, [.ref (a 11), .ref (a 12)])), (a 11, .inl (cI, 120, .inl (nF (rP (cR C))))), (a 12, .inl (cI, 10, .inl (nF (rL (cR C))))), (a 13, .inr (1, [.ref (a 14), .int (nI (nT (cN C)))])), (a 14, .inl (cI, 500, .inl (nRw (cN C)))), (a 15, .inl (cZ, 120, .inl (bF (cW C)))), (a 16, .inl (cZ, 120, .inl (bF (cM C))))]) (ws2 := (wC a cI cZ (setCK C (incK (cK C) (ix i1) (bI b1))))) hx hb hml hown ht hN kV_X3_124 (r_X0_setIncident l D a cI cZ (cK C) hO (ix i1) (by omega) b1) ⟨by decide, by decide⟩ hP hD hS hK [1, 2, 3, 4, 5, 6, 7, 8, 9, 10] [0, 11, 12, 13, 14, 15, 16, 17] [0, 8, 9, 10, 11, 12, 13, 14, 15, 16, 17, 1, 2, 3, 4, 5, 6, 7] rfl rfl (by decide) (by decide) (by decide) rfl rfl (by decide) rfl rfl rfl rfl hl.1 rfl (Nat.le_of_ble_eq_true rfl) dX3_incident_23 ⟨Nat.zero_le _, Nat.zero_le _⟩ (fun H locs hP hD hS => ?_)
    refine lv_aload_n hx hb dX3_incident_26 rfl (lv_at hl 0 rfl) ?_
    refine xwV (As := []) (rest := []) (wr := []) (ws2 := (wC a cI cZ (tellC (setCK C (incK (cK C) (ix i1) (bI b1)))))) hx hb hml hown ht hN kV_X3_84 (r_X3_tellChanges l D a cI cZ (setCK C (incK (cK C) (ix i1) (bI b1))) (incK_ok hO) hR (show nT (cN C) + 1200 < 2 ^ 31 by omega)) ⟨by decide, by decide⟩ hP hD hS hK [0, 1, 2, 3, 4, 5, 6, 7, 8, 9, 10, 11, 12, 13, 14, 15, 16, 17] [] [0, 1, 2, 3, 4, 5, 6, 7, 8, 9, 10, 11, 12, 13, 14, 15, 16, 17] rfl rfl (by decide) (by decide) (by decide) rfl rfl (by decide) rfl rfl rfl rfl hl.1 rfl (Nat.le_of_ble_eq_true rfl) dX3_incident_27 ⟨Nat.zero_le _, Nat.zero_le _⟩ (fun H locs hP hD hS => ?_)
    exact xp_vret hx hb hr hlocks hS hP (⟨by unfold bIn; rw [bI_t h_4]; rfl, rfl, rfl⟩) dX3_incident_30
  · skip
    have h_4 : (bI (inI i1 (nI 0) (nI 19)) : Int32) = (0 : Int32) := h_4
    exact xt_throw hx hb hl9 hml hown ht hT9 kT_IAE_121 hl.1 dX3_incident_7 dX3_incident_10 dX3_incident_11 dX3_incident_13 dX3_incident_16 htab hlocks (by decide) (Nat.le_of_ble_eq_true rfl) ⟨by decide, by decide⟩ (Or.inl ⟨rfl, by unfold bIn; rw [bI_f h_4]; rfl⟩)
set_option maxHeartbeats 4000000 in
set_option maxRecDepth 100000 in
theorem r_X3_answer (l : Launch) (D : va_G) (hl9 : l.stackTraces = false) (h0 : Nat) (a : Nat → Nat) (cI cZ : ClassId) (C : CS) (hC : cOk C) (i1 : Int32) (b1 : Bool) : xTP l yX3_answer cX3_answer 3 none (xrt 7 111) [.ref (a 17), .int (i1), .int (bI b1)] D h0 (wC a cI cZ C) (tyL cI cZ) none (wC a cI cZ (ansC C i1 b1)) (ok3 (bCl (kN (cK C)) i1) (stK (cK C) i1) (false)) (fl3 eIA eIS eIO (bCl (kN (cK C)) i1) (stK (cK C) i1) (false)) := by
  refine xTP.of (by decide +kernel) (Nat.le_of_ble_eq_true rfl) ?_
  intro p e s m args below meth cd hx hb hr hml hown hlocks htab ht hN hT9 hP hK hD hS ls hl
  have hl : lv_has ls 3 [(0, .ref (a 17)), (1, .int (i1)), (2, .int (bI b1))] := hl
  have hown : s.vm.findClass RX3 = some m.cls := hown
  have hO := hC.1
  have hR := hC.2.1
  have hT0 := hC.2.2
  have hn := hO.1
  refine lv_aload_n hx hb dX3_answer_0 rfl (lv_at hl 0 rfl) ?_
  refine lv_iload_n hx hb dX3_answer_1 rfl (lv_at hl 1 rfl) ?_
  refine xtV (As := [.int (i1)]) (rest := []) hx hb hml hown ht hN hT9 kV_X3_87 (r_X3_needClosure l D hl9 h0 a cI cZ C hO i1) ⟨by decide, by decide⟩ hP hK rfl rfl rfl rfl hl.1 rfl (Nat.le_of_ble_eq_true rfl) dX3_answer_2 ⟨by decide, by decide⟩ (fun E ce q9 H1 hF hz hk hce hcv hcl => xt_out htab hlocks (Or.inl hF) hz hk hce hcv hcl) (fun hp_2 => ?_)
  obtain ⟨ei, hi9⟩ := ix_cl hO.1 (notF hp_2)
  refine lv_aload_n hx hb dX3_answer_5 rfl (lv_at hl 0 rfl) ?_
  refine va_get (D := D) (ci := 3) (v := .ref (a 0)) (C := RX3) (T := TX3) (N := 6) hx hb ht inX3 hown hK hP 0 rfl rfl 0 (by decide) (ht _ wd107) (fun _ h9 => h9) rfl dX3_answer_6 ?_
  refine lv_iload_n hx hb dX3_answer_9 rfl (lv_at hl 1 rfl) ?_
  refine xtop (y := nI (ix i1)) ei ?_
  refine xrV (As := [.int (nI (ix i1))]) (rest := []) hx hb hml hown ht hN kV_X3_90 (r_X0_awaitsAnswer l D a cI cZ (cK C) hO (ix i1) hi9) ⟨by decide, by decide⟩ (hP.sub (ws' := (wK a cI cZ (cK C))) [1, 2, 3, 4, 5, 6, 7, 8, 9, 10] rfl) hK rfl rfl rfl rfl hl.1 rfl (Nat.le_of_ble_eq_true rfl) dX3_answer_10 ⟨Nat.zero_le _, Nat.zero_le _⟩ ?_
  refine lv_if_ne (tgt := 26) hx hb dX3_answer_13 (by decide) (fun h_13 => ?_) (fun h_13 => ?_)
  · skip
    have h_13 : ¬ ((bI (decide (kKd (cK C) (ix i1) = nI 1) && decide (kAn (cK C) (ix i1) = 0)) : Int32) = (0 : Int32)) := h_13
    refine lv_aload_n hx hb dX3_answer_26 rfl (lv_at hl 0 rfl) ?_
    refine va_get (D := D) (ci := 3) (v := .ref (a 0)) (C := RX3) (T := TX3) (N := 6) hx hb ht inX3 hown hK hP 0 rfl rfl 0 (by decide) (ht _ wd107) (fun _ h9 => h9) rfl dX3_answer_27 ?_
    refine lv_iload_n hx hb dX3_answer_30 rfl (lv_at hl 1 rfl) ?_
    refine lv_iload_n hx hb dX3_answer_31 rfl (lv_at hl 2 rfl) ?_
    refine xtop2 (y := nI (ix i1)) ei ?_
    refine xwV (As := [.int (nI (ix i1)), .int (bI b1)]) (rest := []) (wr := [(a 17, .inr (3, [.ref (a 0), .ref (a 10), .ref (a 13), .ref (a 15), .ref (a 16), .int (nI (cT C))])), (a 10, .inr (2, [.ref (a 11), .ref (a 12)])), (a 11, .inl (cI, 120, .inl (nF (rP (cR C))))), (a 12, .inl (cI, 10, .inl (nF (rL (cR C))))), (a 13, .inr (1, [.ref (a 14), .int (nI (nT (cN C)))])), (a 14, .inl (cI, 500, .inl (nRw (cN C)))), (a 15, .inl (cZ, 120, .inl (bF (cW C)))), (a 16, .inl (cZ, 120, .inl (bF (cM C))))]) (ws2 := (wC a cI cZ (setCK C (ansK (cK C) (ix i1) (if b1 then nI 1 else nI 2))))) hx hb hml hown ht hN kV_X3_98 (r_X0_setAnswer l D a cI cZ (cK C) hO (ix i1) hi9 b1) ⟨by decide, by decide⟩ hP hD hS hK [1, 2, 3, 4, 5, 6, 7, 8, 9, 10] [0, 11, 12, 13, 14, 15, 16, 17] [0, 8, 9, 10, 11, 12, 13, 14, 15, 16, 17, 1, 2, 3, 4, 5, 6, 7] rfl rfl (by decide) (by decide) (by decide) rfl rfl (by decide) rfl rfl rfl rfl hl.1 rfl (Nat.le_of_ble_eq_true rfl) dX3_answer_32 ⟨Nat.zero_le _, Nat.zero_le _⟩ (fun H locs hP hD hS => ?_)
    refine lv_aload_n hx hb dX3_answer_35 rfl (lv_at hl 0 rfl) ?_
    refine xwV (As := []) (rest := []) (wr := []) (ws2 := (wC a cI cZ (tellC (setCK C (ansK (cK C) (ix i1) (if b1 then nI 1 else nI 2)))))) hx hb hml hown ht hN kV_X3_84 (r_X3_tellChanges l D a cI cZ (setCK C (ansK (cK C) (ix i1) (if b1 then nI 1 else nI 2))) (hO) hR (show nT (cN C) + 1200 < 2 ^ 31 by omega)) ⟨by decide, by decide⟩ hP hD hS hK [0, 1, 2, 3, 4, 5, 6, 7, 8, 9, 10, 11, 12, 13, 14, 15, 16, 17] [] [0, 1, 2, 3, 4, 5, 6, 7, 8, 9, 10, 11, 12, 13, 14, 15, 16, 17] rfl rfl (by decide) (by decide) (by decide) rfl rfl (by decide) rfl rfl rfl rfl hl.1 rfl (Nat.le_of_ble_eq_true rfl) dX3_answer_36 ⟨Nat.zero_le _, Nat.zero_le _⟩ (fun H locs hP hD hS => ?_)
    exact xp_vret hx hb hr hlocks hS hP (⟨hp_2, by unfold stK; rw [bI_t h_13]; rfl, rfl⟩) dX3_answer_39
  · skip
    have h_13 : (bI (decide (kKd (cK C) (ix i1) = nI 1) && decide (kAn (cK C) (ix i1) = 0)) : Int32) = (0 : Int32) := h_13
    exact xt_throw hx hb hl9 hml hown ht hT9 kT_ISE_95 hl.1 dX3_answer_16 dX3_answer_19 dX3_answer_20 dX3_answer_22 dX3_answer_25 htab hlocks (by decide) (Nat.le_of_ble_eq_true rfl) ⟨by decide, by decide⟩ (Or.inr (Or.inl ⟨rfl, hp_2, by unfold stK; rw [bI_f h_13]; rfl⟩))
set_option maxHeartbeats 4000000 in
set_option maxRecDepth 100000 in
theorem r_X3_lift (l : Launch) (D : va_G) (hl9 : l.stackTraces = false) (h0 : Nat) (a : Nat → Nat) (cI cZ : ClassId) (C : CS) (hC : cOk C) (i1 v1 : Int32) : xTP l yX3_lift cX3_lift 3 (some .boolean) (xrt 7 111) [.ref (a 17), .int (i1), .int (v1)] D h0 (wC a cI cZ C) (tyL cI cZ) (some (.int (bI (gaveK (cK C) (ix i1) v1)))) (wC a cI cZ (liftC C i1 v1)) (ok3 (bCl (kN (cK C)) i1) (bBy v1) (ovK (cK C) (cT C) i1)) (fl3 eIA eIO eIS (bCl (kN (cK C)) i1) (bBy v1) (ovK (cK C) (cT C) i1)) := by
  refine xTP.of (by decide +kernel) (Nat.le_of_ble_eq_true rfl) ?_
  intro p e s m args below meth cd hx hb hr hml hown hlocks htab ht hN hT9 hP hK hD hS ls hl
  have hl : lv_has ls 3 [(0, .ref (a 17)), (1, .int (i1)), (2, .int (v1))] := hl
  have hown : s.vm.findClass RX3 = some m.cls := hown
  have hO := hC.1
  have hR := hC.2.1
  have hT0 := hC.2.2
  have hn := hO.1
  refine lv_aload_n hx hb dX3_lift_0 rfl (lv_at hl 0 rfl) ?_
  refine lv_iload_n hx hb dX3_lift_1 rfl (lv_at hl 1 rfl) ?_
  refine xtV (As := [.int (i1)]) (rest := []) hx hb hml hown ht hN hT9 kV_X3_87 (r_X3_needClosure l D hl9 h0 a cI cZ C hO i1) ⟨by decide, by decide⟩ hP hK rfl rfl rfl rfl hl.1 rfl (Nat.le_of_ble_eq_true rfl) dX3_lift_2 ⟨by decide, by decide⟩ (fun E ce q9 H1 hF hz hk hce hcv hcl => xt_out htab hlocks (Or.inl hF) hz hk hce hcv hcl) (fun hp_2 => ?_)
  obtain ⟨ei, hi9⟩ := ix_cl hO.1 (notF hp_2)
  refine lv_iload_n hx hb dX3_lift_5 rfl (lv_at hl 2 rfl) ?_
  refine lv_if_lt (tgt := 16) hx hb dX3_lift_6 (by decide) (fun h_6 => ?_) (fun h_6 => ?_)
  · skip
    have h_6 : (v1 : Int32) < (0 : Int32) := h_6
    exact xt_throw hx hb hl9 hml hown ht hT9 kT_IOE_102 hl.1 dX3_lift_16 dX3_lift_19 dX3_lift_20 dX3_lift_22 dX3_lift_25 htab hlocks (by decide) (Nat.le_of_ble_eq_true rfl) ⟨by decide, by decide⟩ (Or.inr (Or.inl ⟨rfl, hp_2, by unfold bBy; first | (rw [inI_lo (lo := nI 0) h_6]; rfl) | (rw [inI_hi (Int32.not_le.mp h_13)]; rfl)⟩))
  · skip
    have h_6 : ¬ ((v1 : Int32) < (0 : Int32)) := h_6
    refine lv_iload_n hx hb dX3_lift_9 rfl (lv_at hl 2 rfl) ?_
    refine lv_sipush (v := nI 999) hx hb dX3_lift_10 (by decide) ?_
    refine lv_icmp_le (tgt := 26) hx hb dX3_lift_13 (by decide) (fun h_13 => ?_) (fun h_13 => ?_)
    · skip
      have h_13 : (v1 : Int32) ≤ (nI 999 : Int32) := h_13
      have hby : bBy v1 = false := by unfold bBy; rw [inI_t (lo := nI 0) h_6 (Int32.not_lt.mpr h_13)]; rfl
      refine lv_aload_n hx hb dX3_lift_26 rfl (lv_at hl 0 rfl) ?_
      refine va_get (D := D) (ci := 3) (v := .ref (a 0)) (C := RX3) (T := TX3) (N := 6) hx hb ht inX3 hown hK hP 0 rfl rfl 0 (by decide) (ht _ wd107) (fun _ h9 => h9) rfl dX3_lift_27 ?_
      refine lv_iload_n hx hb dX3_lift_30 rfl (lv_at hl 1 rfl) ?_
      refine lv_aload_n hx hb dX3_lift_31 rfl (lv_at hl 0 rfl) ?_
      refine va_get (D := D) (ci := 3) (v := .int (nI (cT C))) (C := RX3) (T := TX3) (N := 6) hx hb ht inX3 hown hK hP 0 rfl rfl 5 (by decide) (ht _ wd112) (fun _ h9 => h9) rfl dX3_lift_32 ?_
      refine xtop2 (y := nI (ix i1)) ei ?_
      refine xrV (As := [.int (nI (ix i1)), .int (nI (cT C))]) (rest := []) hx hb hml hown ht hN kV_X3_104 (r_X0_canBeLifted l D a cI cZ (cK C) hO (ix i1) hi9 (nI (cT C))) ⟨by decide, by decide⟩ (hP.sub (ws' := (wK a cI cZ (cK C))) [1, 2, 3, 4, 5, 6, 7, 8, 9, 10] rfl) hK rfl rfl rfl rfl hl.1 rfl (Nat.le_of_ble_eq_true rfl) dX3_lift_35 ⟨Nat.zero_le _, Nat.zero_le _⟩ ?_
      refine lv_if_ne (tgt := 51) hx hb dX3_lift_38 (by decide) (fun h_38 => ?_) (fun h_38 => ?_)
      · skip
        have h_38 : ¬ ((bI (!decide (kKd (cK C) (ix i1) = nI 4) && !decide (kEn (cK C) (ix i1) ≤ nI (cT C))) : Int32) = (0 : Int32)) := h_38
        refine lv_aload_n hx hb dX3_lift_51 rfl (lv_at hl 0 rfl) ?_
        refine va_get (D := D) (ci := 3) (v := .ref (a 0)) (C := RX3) (T := TX3) (N := 6) hx hb ht inX3 hown hK hP 0 rfl rfl 0 (by decide) (ht _ wd107) (fun _ h9 => h9) rfl dX3_lift_52 ?_
        refine lv_iload_n hx hb dX3_lift_55 rfl (lv_at hl 1 rfl) ?_
        refine lv_iload_n hx hb dX3_lift_56 rfl (lv_at hl 2 rfl) ?_
        refine xtop2 (y := nI (ix i1)) ei ?_
        refine xwV (As := [.int (nI (ix i1)), .int (v1)]) (rest := []) (wr := [(a 17, .inr (3, [.ref (a 0), .ref (a 10), .ref (a 13), .ref (a 15), .ref (a 16), .int (nI (cT C))])), (a 10, .inr (2, [.ref (a 11), .ref (a 12)])), (a 11, .inl (cI, 120, .inl (nF (rP (cR C))))), (a 12, .inl (cI, 10, .inl (nF (rL (cR C))))), (a 13, .inr (1, [.ref (a 14), .int (nI (nT (cN C)))])), (a 14, .inl (cI, 500, .inl (nRw (cN C)))), (a 15, .inl (cZ, 120, .inl (bF (cW C)))), (a 16, .inl (cZ, 120, .inl (bF (cM C))))]) (ws2 := (wC a cI cZ (setCK C (giveK (cK C) (ix i1) v1)))) hx hb hml hown ht hN kV_X3_110 (r_X0_giveWord l D a cI cZ (cK C) hO (ix i1) hi9 v1) ⟨by decide, by decide⟩ hP hD hS hK [1, 2, 3, 4, 5, 6, 7, 8, 9, 10] [0, 11, 12, 13, 14, 15, 16, 17] [0, 8, 9, 10, 11, 12, 13, 14, 15, 16, 17, 1, 2, 3, 4, 5, 6, 7] rfl rfl (by decide) (by decide) (by decide) rfl rfl (by decide) rfl rfl rfl rfl hl.1 rfl (Nat.le_of_ble_eq_true rfl) dX3_lift_57 ⟨Nat.zero_le _, Nat.zero_le _⟩ (fun H locs hP hD hS => ?_)
        refine lv_if_ne (tgt := 65) hx hb dX3_lift_60 (by decide) (fun h_60 => ?_) (fun h_60 => ?_)
        · skip
          have h_60 : ¬ ((bI (gaveK (cK C) (ix i1) v1) : Int32) = (0 : Int32)) := h_60
          refine lv_aload_n hx hb dX3_lift_65 rfl (lv_at hl 0 rfl) ?_
          refine va_get (D := D) (ci := 3) (v := .ref (a 0)) (C := RX3) (T := TX3) (N := 6) hx hb ht inX3 hown hK hP 0 rfl rfl 0 (by decide) (ht _ wd107) (fun _ h9 => h9) rfl dX3_lift_66 ?_
          refine lv_iload_n hx hb dX3_lift_69 rfl (lv_at hl 1 rfl) ?_
          refine lv_aload_n hx hb dX3_lift_70 rfl (lv_at hl 0 rfl) ?_
          refine va_get (D := D) (ci := 3) (v := .int (nI (cT (setCK C (giveK (cK (setCK C (giveK (cK C) (ix i1) v1))) (ix i1) v1))))) (C := RX3) (T := TX3) (N := 6) hx hb ht inX3 hown hK hP 0 rfl rfl 5 (by decide) (ht _ wd112) (fun _ h9 => h9) rfl dX3_lift_71 ?_
          refine xtop2 (y := nI (ix i1)) ei ?_
          refine xwV (As := [.int (nI (ix i1)), .int (nI (cT (setCK C (giveK (cK (setCK C (giveK (cK C) (ix i1) v1))) (ix i1) v1))))]) (rest := []) (wr := [(a 17, .inr (3, [.ref (a 0), .ref (a 10), .ref (a 13), .ref (a 15), .ref (a 16), .int (nI (cT (setCK C (giveK (cK (setCK C (giveK (cK C) (ix i1) v1))) (ix i1) v1))))])), (a 10, .inr (2, [.ref (a 11), .ref (a 12)])), (a 11, .inl (cI, 120, .inl (nF (rP (cR (setCK C (giveK (cK C) (ix i1) v1))))))), (a 12, .inl (cI, 10, .inl (nF (rL (cR (setCK C (giveK (cK C) (ix i1) v1))))))), (a 13, .inr (1, [.ref (a 14), .int (nI (nT (cN (setCK C (giveK (cK C) (ix i1) v1)))))])), (a 14, .inl (cI, 500, .inl (nRw (cN (setCK C (giveK (cK C) (ix i1) v1)))))), (a 15, .inl (cZ, 120, .inl (bF (cW (setCK C (giveK (cK C) (ix i1) v1)))))), (a 16, .inl (cZ, 120, .inl (bF (cM (setCK C (giveK (cK C) (ix i1) v1))))))]) (ws2 := (wC a cI cZ (setCK C (endK (giveK (cK C) (ix i1) v1) (ix i1) (nI (cT C)))))) hx hb hml hown ht hN kV_X3_113 (r_X0_endAt l D a cI cZ (giveK (cK C) (ix i1) v1) (giveK_ok hO) (ix i1) (by rw [giveK_n.1]; exact hi9) (nI (cT C))) ⟨by decide, by decide⟩ hP hD hS hK [1, 2, 3, 4, 5, 6, 7, 8, 9, 10] [0, 11, 12, 13, 14, 15, 16, 17] [0, 8, 9, 10, 11, 12, 13, 14, 15, 16, 17, 1, 2, 3, 4, 5, 6, 7] rfl rfl (by decide) (by decide) (by decide) rfl rfl (by decide) rfl rfl rfl rfl hl.1 rfl (Nat.le_of_ble_eq_true rfl) dX3_lift_74 ⟨Nat.zero_le _, Nat.zero_le _⟩ (fun H locs hP hD hS => ?_)
          refine lv_aload_n hx hb dX3_lift_77 rfl (lv_at hl 0 rfl) ?_
          refine xwV (As := []) (rest := []) (wr := []) (ws2 := (wC a cI cZ (tellC (setCK C (endK (giveK (cK C) (ix i1) v1) (ix i1) (nI (cT C))))))) hx hb hml hown ht hN kV_X3_84 (r_X3_tellChanges l D a cI cZ (setCK C (endK (giveK (cK C) (ix i1) v1) (ix i1) (nI (cT C)))) (giveK_ok hO) hR (show nT (cN C) + 1200 < 2 ^ 31 by omega)) ⟨by decide, by decide⟩ hP hD hS hK [0, 1, 2, 3, 4, 5, 6, 7, 8, 9, 10, 11, 12, 13, 14, 15, 16, 17] [] [0, 1, 2, 3, 4, 5, 6, 7, 8, 9, 10, 11, 12, 13, 14, 15, 16, 17] rfl rfl (by decide) (by decide) (by decide) rfl rfl (by decide) rfl rfl rfl rfl hl.1 rfl (Nat.le_of_ble_eq_true rfl) dX3_lift_78 ⟨Nat.zero_le _, Nat.zero_le _⟩ (fun H locs hP hD hS => ?_)
          refine lv_iconst (v := nI 1) hx hb dX3_lift_81 (by decide) ?_
          exact xp_zret (v := nI 1) hx hb hr hlocks rfl hS (by rw [liftC, if_pos (bI_t h_60)]; exact hP) (bI_1 (bI_t h_60)) (⟨hp_2, hby, by unfold ovK; rw [bI_t h_38]; rfl⟩) dX3_lift_82
        · skip
          have h_60 : (bI (gaveK (cK C) (ix i1) v1) : Int32) = (0 : Int32) := h_60
          refine lv_iconst (v := nI 0) hx hb dX3_lift_63 (by decide) ?_
          exact xp_zret (v := nI 0) hx hb hr hlocks rfl hS (by rw [liftC, if_neg (by rw [bI_f h_60]; decide)]; exact hP) (bI_0 (bI_f h_60)) (⟨hp_2, hby, by unfold ovK; rw [bI_t h_38]; rfl⟩) dX3_lift_64
      · skip
        have h_38 : (bI (!decide (kKd (cK C) (ix i1) = nI 4) && !decide (kEn (cK C) (ix i1) ≤ nI (cT C))) : Int32) = (0 : Int32) := h_38
        exact xt_throw hx hb hl9 hml hown ht hT9 kT_ISE_108 hl.1 dX3_lift_41 dX3_lift_44 dX3_lift_45 dX3_lift_47 dX3_lift_50 htab hlocks (by decide) (Nat.le_of_ble_eq_true rfl) ⟨by decide, by decide⟩ (Or.inr (Or.inr ⟨rfl, hp_2, hby, by unfold ovK; rw [bI_f h_38]; rfl⟩))
    · skip
      have h_13 : ¬ ((v1 : Int32) ≤ (nI 999 : Int32)) := h_13
      exact xt_throw hx hb hl9 hml hown ht hT9 kT_IOE_102 hl.1 dX3_lift_16 dX3_lift_19 dX3_lift_20 dX3_lift_22 dX3_lift_25 htab hlocks (by decide) (Nat.le_of_ble_eq_true rfl) ⟨by decide, by decide⟩ (Or.inr (Or.inl ⟨rfl, hp_2, by unfold bBy; first | (rw [inI_lo (lo := nI 0) h_6]; rfl) | (rw [inI_hi (Int32.not_le.mp h_13)]; rfl)⟩))
set_option maxHeartbeats 4000000 in
set_option maxRecDepth 100000 in
theorem r_X3_step (l : Launch) (D : va_G) (hl9 : l.stackTraces = false) (h0 : Nat) (a : Nat → Nat) (cI cZ : ClassId) (C : CS) (hC : cOk C) (u1 p1 s1 : Int32) : xTP l yX3_step cX3_step 5 (some .int) (xrt 8 131) [.ref (a 17), .int (u1), .int (p1), .int (s1)] D h0 (wC a cI cZ C) (tyL cI cZ) (some (.int (stepCr C u1 p1))) (wC a cI cZ (stepC C u1 p1 s1)) (ok3 (bUp u1 p1) (bSd p1 s1) (fuR (cR C) u1 p1)) (fl3 eIA eIO eUO (bUp u1 p1) (bSd p1 s1) (fuR (cR C) u1 p1)) := by
  refine xTP.of (by decide +kernel) (Nat.le_of_ble_eq_true rfl) ?_
  intro p e s m args below meth cd hx hb hr hml hown hlocks htab ht hN hT9 hP hK hD hS ls hl
  have hl : lv_has ls 5 [(0, .ref (a 17)), (1, .int (u1)), (2, .int (p1)), (3, .int (s1))] := hl
  have hown : s.vm.findClass RX3 = some m.cls := hown
  have hO := hC.1
  have hR := hC.2.1
  have hT0 := hC.2.2
  have hn := hO.1
  refine lv_iload_n hx hb dX3_step_0 rfl (lv_at hl 1 rfl) ?_
  refine xtS (As := [.int (u1)]) (rest := []) hx hb hml hown ht hN hT9 kS_X3_127 (r_X3_needUnit l D hl9 h0 u1) ⟨by decide, by decide⟩ (fun k q h => by simp at h) (hK.sub (tys' := []) [] rfl) rfl hl.1 rfl (Nat.le_of_ble_eq_true rfl) dX3_step_1 ⟨by decide, by decide⟩ (fun E ce q9 H1 hF hz hk hce hcv hcl => xt_out htab hlocks (Or.inl ⟨hF.1, by have z := hF.2; unfold bUn at z; unfold bUp; rw [z]; rfl⟩) hz hk hce hcv hcl) (fun hp_1 => ?_)
  obtain ⟨eu, -, hu9⟩ := ix_in (by decide) (by decide) (notF hp_1)
  refine lv_iload_n hx hb dX3_step_4 rfl (lv_at hl 2 rfl) ?_
  refine lv_iconst (v := (-1 : Int32)) hx hb dX3_step_5 (by decide) ?_
  refine lv_icmp_ne (tgt := 19) hx hb dX3_step_6 (by decide) (fun h_6 => ?_) (fun h_6 => ?_)
  · skip
    have h_6 : ¬ ((p1 : Int32) = ((-1 : Int32) : Int32)) := h_6
    refine lv_iload_n hx hb dX3_step_19 rfl (lv_at hl 2 rfl) ?_
    refine lv_iload_n hx hb dX3_step_20 rfl (lv_at hl 3 rfl) ?_
    refine xtS (As := [.int (p1), .int (s1)]) (rest := []) hx hb hml hown ht hN hT9 kS_X3_133 (r_X3_needPlace l D hl9 h0 p1 s1) ⟨by decide, by decide⟩ (fun k q h => by simp at h) (hK.sub (tys' := []) [] rfl) rfl hl.1 rfl (Nat.le_of_ble_eq_true rfl) dX3_step_21 ⟨by decide, by decide⟩ (fun E ce q9 H1 hF hz hk hce hcv hcl => xt_out htab hlocks (by rcases hF with ⟨e, h⟩ | ⟨e, h1, h2⟩; exact Or.inl ⟨e, by unfold bUp; unfold bPc at h; rw [decide_eq_false h_6, h, Bool.not_false, Bool.and_self, Bool.or_true]⟩; exact Or.inr (Or.inl ⟨e, by unfold bUp; unfold bPc at h1; unfold bUn at hp_1; rw [hp_1, h1, Bool.and_false]; rfl, by unfold bSd; rw [decide_eq_false h_6, h2]; rfl⟩)) hz hk hce hcv hcl) (fun hp_21 => ?_)
    have hup : bUp u1 p1 = false := by unfold bUp; have z := hp_21.1; unfold bPc at z; have z1 := hp_1; unfold bUn at z1; rw [z1, z, Bool.and_false]; rfl
    have hsd : bSd p1 s1 = false := by unfold bSd; rw [hp_21.2, Bool.not_true, Bool.and_false]
    refine lv_istore (lv' := [(4, .int (nI (plI p1 s1))), (0, .ref (a 17)), (1, .int (u1)), (2, .int (p1)), (3, .int (s1))]) hx hb dX3_step_24 hl (by decide) rfl (fun ls hl => ?_)
    refine lv_aload_n hx hb dX3_step_26 rfl (lv_at hl 1 rfl) ?_
    refine va_get (D := D) (ci := 3) (v := .ref (a 10)) (C := RX3) (T := TX3) (N := 6) hx hb ht inX3 hown hK hP 0 rfl rfl 1 (by decide) (ht _ wd108) (fun _ h9 => h9) rfl dX3_step_27 ?_
    refine lv_iload_n hx hb dX3_step_30 rfl (lv_at hl 2 rfl) ?_
    refine xtop (y := nI (ix u1)) eu ?_
    refine xrV (As := [.int (nI (ix u1))]) (rest := []) hx hb hml hown ht hN kV_X3_137 (r_X2_isFull l D (fun i => a (10 + i)) cI cZ (cR C) hR (ix u1) (by omega)) ⟨by decide, by decide⟩ (hP.sub (ws' := (wR (fun i => a (10 + i)) cI (cR C))) [11, 12, 13] rfl) hK rfl rfl rfl rfl hl.1 rfl (Nat.le_of_ble_eq_true rfl) dX3_step_31 ⟨Nat.zero_le _, Nat.zero_le _⟩ ?_
    refine lv_if_eq (tgt := 47) hx hb dX3_step_34 (by decide) (fun h_34 => ?_) (fun h_34 => ?_)
    · skip
      have h_34 : (bI (decide (12 ≤ rL (cR C) (ix u1))) : Int32) = (0 : Int32) := h_34
      have hfl := of_decide_eq_false (bI_f h_34)
      refine lv_aload_n hx hb dX3_step_47 rfl (lv_at hl 1 rfl) ?_
      refine va_get (D := D) (ci := 3) (v := .ref (a 10)) (C := RX3) (T := TX3) (N := 6) hx hb ht inX3 hown hK hP 0 rfl rfl 1 (by decide) (ht _ wd108) (fun _ h9 => h9) rfl dX3_step_48 ?_
      refine lv_iload_n hx hb dX3_step_51 rfl (lv_at hl 2 rfl) ?_
      refine lv_iload hx hb dX3_step_52 (lv_at hl 0 rfl) ?_
      refine xtop2 (y := nI (ix u1)) eu ?_
      refine xwV (As := [.int (nI (ix u1)), .int (nI (plI p1 s1))]) (rest := []) (wr := [(a 17, .inr (3, [.ref (a 0), .ref (a 10), .ref (a 13), .ref (a 15), .ref (a 16), .int (nI (cT C))])), (a 0, .inr (0, [.ref (a 1), .ref (a 2), .ref (a 3), .ref (a 4), .ref (a 5), .ref (a 6), .ref (a 7), .ref (a 8), .ref (a 9), .int (nI (kN (cK C)))])), (a 1, .inl (cI, 100, .inl (kKd (cK C)))), (a 2, .inl (cI, 100, .inl (kPc (cK C)))), (a 3, .inl (cI, 100, .inl (kSd (cK C)))), (a 4, .inl (cI, 100, .inl (kSt (cK C)))), (a 5, .inl (cI, 100, .inl (kEn (cK C)))), (a 6, .inl (cI, 100, .inl (kXs (cK C)))), (a 7, .inl (cI, 100, .inl (kAn (cK C)))), (a 8, .inl (cI, 100, .inl (kWd (cK C)))), (a 9, .inl (cZ, 20, .inl (kIc (cK C)))), (a 13, .inr (1, [.ref (a 14), .int (nI (nT (cN C)))])), (a 14, .inl (cI, 500, .inl (nRw (cN C)))), (a 15, .inl (cZ, 120, .inl (bF (cW C)))), (a 16, .inl (cZ, 120, .inl (bF (cM C))))]) (ws2 := (wC a cI cZ (setCR C (stepR (cR C) (ix u1) (plI p1 s1))))) hx hb hml hown ht hN kV_X3_141 (r_X2_add l D (fun i => a (10 + i)) cI cZ (cR C) (ix u1) (plI p1 s1) (by omega) (by omega)) ⟨by decide, by decide⟩ hP hD hS hK [11, 12, 13] [0, 1, 2, 3, 4, 5, 6, 7, 8, 9, 10, 14, 15, 16, 17] [0, 1, 2, 3, 4, 5, 6, 7, 8, 9, 10, 15, 16, 17, 11, 12, 13, 14] rfl rfl (by decide) (by decide) (by decide) rfl rfl (by decide) rfl rfl rfl rfl hl.1 rfl (Nat.le_of_ble_eq_true rfl) dX3_step_54 ⟨Nat.zero_le _, Nat.zero_le _⟩ (fun H locs hP hD hS => ?_)
      exact xp_iret (v := nI (rL (cR C) (ix u1) + 1)) hx hb hr hlocks hS (by rw [stepC, if_neg h_6]; exact hP) (by rw [stepCr, if_neg h_6]) (⟨hup, hsd, by unfold fuR; rw [decide_eq_false hfl, Bool.and_false]⟩) dX3_step_57
    · skip
      have h_34 : ¬ ((bI (decide (12 ≤ rL (cR C) (ix u1))) : Int32) = (0 : Int32)) := h_34
      exact xt_throw hx hb hl9 hml hown ht hT9 kT_UOE_139 hl.1 dX3_step_37 dX3_step_40 dX3_step_41 dX3_step_43 dX3_step_46 htab hlocks (by decide) (Nat.le_of_ble_eq_true rfl) ⟨by decide, by decide⟩ (Or.inr (Or.inr ⟨rfl, hup, hsd, by unfold fuR; rw [decide_eq_false h_6, bI_t h_34]; rfl⟩))
  · skip
    have h_6 : (p1 : Int32) = ((-1 : Int32) : Int32) := h_6
    refine lv_aload_n hx hb dX3_step_9 rfl (lv_at hl 0 rfl) ?_
    refine va_get (D := D) (ci := 3) (v := .ref (a 10)) (C := RX3) (T := TX3) (N := 6) hx hb ht inX3 hown hK hP 0 rfl rfl 1 (by decide) (ht _ wd108) (fun _ h9 => h9) rfl dX3_step_10 ?_
    refine lv_iload_n hx hb dX3_step_13 rfl (lv_at hl 1 rfl) ?_
    refine xtop (y := nI (ix u1)) eu ?_
    refine xwV (As := [.int (nI (ix u1))]) (rest := []) (wr := [(a 17, .inr (3, [.ref (a 0), .ref (a 10), .ref (a 13), .ref (a 15), .ref (a 16), .int (nI (cT C))])), (a 0, .inr (0, [.ref (a 1), .ref (a 2), .ref (a 3), .ref (a 4), .ref (a 5), .ref (a 6), .ref (a 7), .ref (a 8), .ref (a 9), .int (nI (kN (cK C)))])), (a 1, .inl (cI, 100, .inl (kKd (cK C)))), (a 2, .inl (cI, 100, .inl (kPc (cK C)))), (a 3, .inl (cI, 100, .inl (kSd (cK C)))), (a 4, .inl (cI, 100, .inl (kSt (cK C)))), (a 5, .inl (cI, 100, .inl (kEn (cK C)))), (a 6, .inl (cI, 100, .inl (kXs (cK C)))), (a 7, .inl (cI, 100, .inl (kAn (cK C)))), (a 8, .inl (cI, 100, .inl (kWd (cK C)))), (a 9, .inl (cZ, 20, .inl (kIc (cK C)))), (a 13, .inr (1, [.ref (a 14), .int (nI (nT (cN C)))])), (a 14, .inl (cI, 500, .inl (nRw (cN C)))), (a 15, .inl (cZ, 120, .inl (bF (cW C)))), (a 16, .inl (cZ, 120, .inl (bF (cM C))))]) (ws2 := (wC a cI cZ (setCR C (emptyR (cR C) (ix u1))))) hx hb hml hown ht hN kV_X3_130 (r_X2_empty l D (fun i => a (10 + i)) cI cZ (cR C) (ix u1) (by omega)) ⟨by decide, by decide⟩ hP hD hS hK [11, 12, 13] [0, 1, 2, 3, 4, 5, 6, 7, 8, 9, 10, 14, 15, 16, 17] [0, 1, 2, 3, 4, 5, 6, 7, 8, 9, 10, 15, 16, 17, 11, 12, 13, 14] rfl rfl (by decide) (by decide) (by decide) rfl rfl (by decide) rfl rfl rfl rfl hl.1 rfl (Nat.le_of_ble_eq_true rfl) dX3_step_14 ⟨Nat.zero_le _, Nat.zero_le _⟩ (fun H locs hP hD hS => ?_)
    refine lv_iconst (v := nI 0) hx hb dX3_step_17 (by decide) ?_
    exact xp_iret (v := nI 0) hx hb hr hlocks hS (by rw [stepC, if_pos h_6]; exact hP) (by rw [stepCr, if_pos h_6]) (⟨by unfold bUp; have z1 := hp_1; unfold bUn at z1; rw [z1, decide_eq_true h_6]; rfl, by unfold bSd; rw [decide_eq_true h_6]; rfl, by unfold fuR; rw [decide_eq_true h_6]; rfl⟩) dX3_step_18
set_option maxHeartbeats 4000000 in
set_option maxRecDepth 100000 in
theorem r_X3_close (l : Launch) (D : va_G) (hl9 : l.stackTraces = false) (h0 : Nat) (a : Nat → Nat) (cI cZ : ClassId) (C : CS) (hC : cOk C) (k1 p1 s1 a1 b1 x1 : Int32) : xTP l yX3_close cX3_close 8 (some .int) (xrt 7 112) [.ref (a 17), .int (k1), .int (p1), .int (s1), .int (a1), .int (b1), .int (x1)] D h0 (wC a cI cZ C) (tyL cI cZ) (some (.int (nI (kN (cK C))))) (wC a cI cZ (closC C k1 p1 s1 a1 b1 x1)) (ok3 (bBad k1 p1 x1) (bRng k1 s1 a1 b1 x1) (decide (100 ≤ kN (cK C)))) (fl3 eIA eIO eUO (bBad k1 p1 x1) (bRng k1 s1 a1 b1 x1) (decide (100 ≤ kN (cK C)))) := by
  refine xTP.of (by decide +kernel) (Nat.le_of_ble_eq_true rfl) ?_
  intro p e s m args below meth cd hx hb hr hml hown hlocks htab ht hN hT9 hP hK hD hS ls hl
  have hl : lv_has ls 8 [(0, .ref (a 17)), (1, .int (k1)), (2, .int (p1)), (3, .int (s1)), (4, .int (a1)), (5, .int (b1)), (6, .int (x1))] := hl
  have hown : s.vm.findClass RX3 = some m.cls := hown
  have hO := hC.1
  have hR := hC.2.1
  have hT0 := hC.2.2
  have hn := hO.1
  refine lv_iload_n hx hb dX3_close_0 rfl (lv_at hl 1 rfl) ?_
  refine lv_iload hx hb dX3_close_1 (lv_at hl 6 rfl) ?_
  refine xtS (As := [.int (k1), .int (x1)]) (rest := []) hx hb hml hown ht hN hT9 kS_X3_41 (r_X3_needKind l D hl9 h0 k1 x1) ⟨by decide, by decide⟩ (fun k q h => by simp at h) (hK.sub (tys' := []) [] rfl) rfl hl.1 rfl (Nat.le_of_ble_eq_true rfl) dX3_close_3 ⟨by decide, by decide⟩ (fun E ce q9 H1 hF hz hk hce hcv hcl => xt_out htab hlocks (Or.inl ⟨hF.1, bad_1 hF.2⟩) hz hk hce hcv hcl) (fun hp_3 => ?_)
  refine lv_iload_n hx hb dX3_close_6 rfl (lv_at hl 2 rfl) ?_
  refine xtS (As := [.int (p1)]) (rest := []) hx hb hml hown ht hN hT9 kS_X3_45 (r_X3_needPiece l D hl9 h0 p1) ⟨by decide, by decide⟩ (fun k q h => by simp at h) (hK.sub (tys' := []) [] rfl) rfl hl.1 rfl (Nat.le_of_ble_eq_true rfl) dX3_close_7 ⟨by decide, by decide⟩ (fun E ce q9 H1 hF hz hk hce hcv hcl => xt_out htab hlocks (Or.inl ⟨hF.1, bad_p hF.2⟩) hz hk hce hcv hcl) (fun hp_7 => ?_)
  refine lv_iload_n hx hb dX3_close_10 rfl (lv_at hl 3 rfl) ?_
  refine lv_iconst (v := nI 1) hx hb dX3_close_11 (by decide) ?_
  refine lv_icmp_lt (tgt := 20) hx hb dX3_close_12 (by decide) (fun h_12 => ?_) (fun h_12 => ?_)
  · skip
    have h_12 : (s1 : Int32) < (nI 1 : Int32) := h_12
    exact xt_throw hx hb hl9 hml hown ht hT9 kT_IOE_51 hl.1 dX3_close_20 dX3_close_23 dX3_close_24 dX3_close_26 dX3_close_29 htab hlocks (by decide) (Nat.le_of_ble_eq_true rfl) ⟨by decide, by decide⟩ (Or.inr (Or.inl ⟨rfl, bad_no hp_3 hp_7, rng_s (by first | exact inI_lo h_12 | exact inI_hi (Int32.not_le.mp h_17))⟩))
  · skip
    have h_12 : ¬ ((s1 : Int32) < (nI 1 : Int32)) := h_12
    refine lv_iload_n hx hb dX3_close_15 rfl (lv_at hl 3 rfl) ?_
    refine lv_iconst (v := nI 3) hx hb dX3_close_16 (by decide) ?_
    refine lv_icmp_le (tgt := 30) hx hb dX3_close_17 (by decide) (fun h_17 => ?_) (fun h_17 => ?_)
    · skip
      have h_17 : (s1 : Int32) ≤ (nI 3 : Int32) := h_17
      have hsd : inI s1 (nI 1) (nI 3) = true := inI_t h_12 (Int32.not_lt.mpr h_17)
      refine lv_iload hx hb dX3_close_30 (lv_at hl 4 rfl) ?_
      refine xtS (As := [.int (a1)]) (rest := []) hx hb hml hown ht hN hT9 kS_X3_56 (r_X3_needMinute l D hl9 h0 a1) ⟨by decide, by decide⟩ (fun k q h => by simp at h) (hK.sub (tys' := []) [] rfl) rfl hl.1 rfl (Nat.le_of_ble_eq_true rfl) dX3_close_32 ⟨by decide, by decide⟩ (fun E ce q9 H1 hF hz hk hce hcv hcl => xt_out htab hlocks (Or.inr (Or.inl ⟨hF.1, bad_no hp_3 hp_7, rng_a hF.2⟩)) hz hk hce hcv hcl) (fun hp_32 => ?_)
      refine lv_iload_n hx hb dX3_close_35 rfl (lv_at hl 1 rfl) ?_
      refine lv_iload hx hb dX3_close_36 (lv_at hl 4 rfl) ?_
      refine lv_iload hx hb dX3_close_38 (lv_at hl 5 rfl) ?_
      refine xtS (As := [.int (k1), .int (a1), .int (b1)]) (rest := []) hx hb hml hown ht hN hT9 kS_X3_59 (r_X3_needEnd l D hl9 h0 k1 a1 b1) ⟨by decide, by decide⟩ (fun k q h => by simp at h) (hK.sub (tys' := []) [] rfl) rfl hl.1 rfl (Nat.le_of_ble_eq_true rfl) dX3_close_40 ⟨by decide, by decide⟩ (fun E ce q9 H1 hF hz hk hce hcv hcl => xt_out htab hlocks (Or.inr (Or.inl ⟨hF.1, bad_no hp_3 hp_7, rng_e hp_32 hF.2⟩)) hz hk hce hcv hcl) (fun hp_40 => ?_)
      refine lv_iload_n hx hb dX3_close_43 rfl (lv_at hl 1 rfl) ?_
      refine lv_iload hx hb dX3_close_44 (lv_at hl 6 rfl) ?_
      refine xtS (As := [.int (k1), .int (x1)]) (rest := []) hx hb hml hown ht hN hT9 kS_X3_63 (r_X3_needX l D hl9 h0 k1 x1) ⟨by decide, by decide⟩ (fun k q h => by simp at h) (hK.sub (tys' := []) [] rfl) rfl hl.1 rfl (Nat.le_of_ble_eq_true rfl) dX3_close_46 ⟨by decide, by decide⟩ (fun E ce q9 H1 hF hz hk hce hcv hcl => xt_out htab hlocks (Or.inr (Or.inl ⟨hF.1, bad_no hp_3 hp_7, rng_x hF.2⟩)) hz hk hce hcv hcl) (fun hp_46 => ?_)
      refine lv_aload_n hx hb dX3_close_49 rfl (lv_at hl 0 rfl) ?_
      refine va_get (D := D) (ci := 3) (v := .ref (a 0)) (C := RX3) (T := TX3) (N := 6) hx hb ht inX3 hown hK hP 0 rfl rfl 0 (by decide) (ht _ wd107) (fun _ h9 => h9) rfl dX3_close_50 ?_
      refine xrV (As := []) (rest := []) hx hb hml hown ht hN kV_X3_66 (r_X0_isFull l D a cI cZ (cK C) hO) ⟨by decide, by decide⟩ (hP.sub (ws' := (wK a cI cZ (cK C))) [1, 2, 3, 4, 5, 6, 7, 8, 9, 10] rfl) hK rfl rfl rfl rfl hl.1 rfl (Nat.le_of_ble_eq_true rfl) dX3_close_53 ⟨Nat.zero_le _, Nat.zero_le _⟩ ?_
      refine lv_if_eq (tgt := 69) hx hb dX3_close_56 (by decide) (fun h_56 => ?_) (fun h_56 => ?_)
      · skip
        have h_56 : (bI (decide (100 ≤ kN (cK C))) : Int32) = (0 : Int32) := h_56
        have hfl := of_decide_eq_false (bI_f h_56)
        have hbd : bBad k1 p1 x1 = false := bad_no hp_3 hp_7
        have hrg : bRng k1 s1 a1 b1 x1 = false := rng_no hsd hp_32 hp_40 hp_46
        refine lv_aload_n hx hb dX3_close_69 rfl (lv_at hl 0 rfl) ?_
        refine va_get (D := D) (ci := 3) (v := .ref (a 0)) (C := RX3) (T := TX3) (N := 6) hx hb ht inX3 hown hK hP 0 rfl rfl 0 (by decide) (ht _ wd107) (fun _ h9 => h9) rfl dX3_close_70 ?_
        refine lv_iload_n hx hb dX3_close_73 rfl (lv_at hl 1 rfl) ?_
        refine lv_iload_n hx hb dX3_close_74 rfl (lv_at hl 2 rfl) ?_
        refine lv_iload_n hx hb dX3_close_75 rfl (lv_at hl 3 rfl) ?_
        refine lv_iload hx hb dX3_close_76 (lv_at hl 4 rfl) ?_
        refine lv_iload_n hx hb dX3_close_78 rfl (lv_at hl 1 rfl) ?_
        refine xrS (As := [.int (k1)]) (rest := [.int (a1), .int (s1), .int (p1), .int (k1), .ref (a 0)]) hx hb hml hown ht hN kS_X3_75 (r_X3_hasEnd l D k1) ⟨by decide, by decide⟩ (fun k q h => by simp at h) (hK.sub (tys' := []) [] rfl) rfl hl.1 rfl (Nat.le_of_ble_eq_true rfl) dX3_close_79 ⟨Nat.zero_le _, Nat.zero_le _⟩ ?_
        refine lv_if_eq (tgt := 90) hx hb dX3_close_82 (by decide) (fun h_82 => ?_) (fun h_82 => ?_)
        · skip
          have h_82 : (bI (bEnd k1) : Int32) = (0 : Int32) := h_82
          refine lv_ldc (v := nI 100000) hx hb hown (ht _ wd282) dX3_close_90 ?_
          refine xtop (y := (if bEnd k1 then b1 else nI 100000)) (by first | (rw [if_pos (bI_t h_82)]; done) | (rw [if_neg (by rw [bI_f h_82]; decide)]; done)) ?_
          refine lv_iload hx hb dX3_close_92 (lv_at hl 6 rfl) ?_
          refine xwV (As := [.int (k1), .int (p1), .int (s1), .int (a1), .int ((if bEnd k1 then b1 else nI 100000)), .int (x1)]) (rest := []) (wr := [(a 17, .inr (3, [.ref (a 0), .ref (a 10), .ref (a 13), .ref (a 15), .ref (a 16), .int (nI (cT C))])), (a 10, .inr (2, [.ref (a 11), .ref (a 12)])), (a 11, .inl (cI, 120, .inl (nF (rP (cR C))))), (a 12, .inl (cI, 10, .inl (nF (rL (cR C))))), (a 13, .inr (1, [.ref (a 14), .int (nI (nT (cN C)))])), (a 14, .inl (cI, 500, .inl (nRw (cN C)))), (a 15, .inl (cZ, 120, .inl (bF (cW C)))), (a 16, .inl (cZ, 120, .inl (bF (cM C))))]) (ws2 := (wC a cI cZ (setCK C (addK (cK C) k1 p1 s1 a1 (if bEnd k1 then b1 else nI 100000) x1)))) hx hb hml hown ht hN kV_X3_80 (r_X0_add l D a cI cZ (cK C) hO (by omega) k1 p1 s1 a1 (if bEnd k1 then b1 else nI 100000) x1) ⟨by decide, by decide⟩ hP hD hS hK [1, 2, 3, 4, 5, 6, 7, 8, 9, 10] [0, 11, 12, 13, 14, 15, 16, 17] [0, 8, 9, 10, 11, 12, 13, 14, 15, 16, 17, 1, 2, 3, 4, 5, 6, 7] rfl rfl (by decide) (by decide) (by decide) rfl rfl (by decide) rfl rfl rfl rfl hl.1 rfl (Nat.le_of_ble_eq_true rfl) dX3_close_94 ⟨Nat.zero_le _, Nat.zero_le _⟩ (fun H locs hP hD hS => ?_)
          refine lv_istore (lv' := [(7, .int (nI (kN (cK C)))), (0, .ref (a 17)), (1, .int (k1)), (2, .int (p1)), (3, .int (s1)), (4, .int (a1)), (5, .int (b1)), (6, .int (x1))]) hx hb dX3_close_97 hl (by decide) rfl (fun ls hl => ?_)
          refine lv_aload_n hx hb dX3_close_99 rfl (lv_at hl 1 rfl) ?_
          refine xwV (As := []) (rest := []) (wr := []) (ws2 := (wC a cI cZ (tellC (setCK C (addK (cK C) k1 p1 s1 a1 (if bEnd k1 then b1 else nI 100000) x1))))) hx hb hml hown ht hN kV_X3_84 (r_X3_tellChanges l D a cI cZ (setCK C (addK (cK C) k1 p1 s1 a1 (if bEnd k1 then b1 else nI 100000) x1)) (addK_ok hO (by omega) (bad_2 hbd) (rng_4 hrg) hp_7) hR (show nT (cN C) + 1200 < 2 ^ 31 by omega)) ⟨by decide, by decide⟩ hP hD hS hK [0, 1, 2, 3, 4, 5, 6, 7, 8, 9, 10, 11, 12, 13, 14, 15, 16, 17] [] [0, 1, 2, 3, 4, 5, 6, 7, 8, 9, 10, 11, 12, 13, 14, 15, 16, 17] rfl rfl (by decide) (by decide) (by decide) rfl rfl (by decide) rfl rfl rfl rfl hl.1 rfl (Nat.le_of_ble_eq_true rfl) dX3_close_100 ⟨Nat.zero_le _, Nat.zero_le _⟩ (fun H locs hP hD hS => ?_)
          refine lv_iload hx hb dX3_close_103 (lv_at hl 0 rfl) ?_
          exact xp_iret (v := nI (kN (cK C))) hx hb hr hlocks hS hP (rfl) (⟨hbd, hrg, bI_f h_56⟩) dX3_close_105
        · skip
          have h_82 : ¬ ((bI (bEnd k1) : Int32) = (0 : Int32)) := h_82
          refine lv_iload hx hb dX3_close_85 (lv_at hl 5 rfl) ?_
          refine lv_goto (tgt := 92) hx hb dX3_close_87 (by decide) ?_
          refine xtop (y := (if bEnd k1 then b1 else nI 100000)) (by first | (rw [if_pos (bI_t h_82)]; done) | (rw [if_neg (by rw [bI_f h_82]; decide)]; done)) ?_
          refine lv_iload hx hb dX3_close_92 (lv_at hl 6 rfl) ?_
          refine xwV (As := [.int (k1), .int (p1), .int (s1), .int (a1), .int ((if bEnd k1 then b1 else nI 100000)), .int (x1)]) (rest := []) (wr := [(a 17, .inr (3, [.ref (a 0), .ref (a 10), .ref (a 13), .ref (a 15), .ref (a 16), .int (nI (cT C))])), (a 10, .inr (2, [.ref (a 11), .ref (a 12)])), (a 11, .inl (cI, 120, .inl (nF (rP (cR C))))), (a 12, .inl (cI, 10, .inl (nF (rL (cR C))))), (a 13, .inr (1, [.ref (a 14), .int (nI (nT (cN C)))])), (a 14, .inl (cI, 500, .inl (nRw (cN C)))), (a 15, .inl (cZ, 120, .inl (bF (cW C)))), (a 16, .inl (cZ, 120, .inl (bF (cM C))))]) (ws2 := (wC a cI cZ (setCK C (addK (cK C) k1 p1 s1 a1 (if bEnd k1 then b1 else nI 100000) x1)))) hx hb hml hown ht hN kV_X3_80 (r_X0_add l D a cI cZ (cK C) hO (by omega) k1 p1 s1 a1 (if bEnd k1 then b1 else nI 100000) x1) ⟨by decide, by decide⟩ hP hD hS hK [1, 2, 3, 4, 5, 6, 7, 8, 9, 10] [0, 11, 12, 13, 14, 15, 16, 17] [0, 8, 9, 10, 11, 12, 13, 14, 15, 16, 17, 1, 2, 3, 4, 5, 6, 7] rfl rfl (by decide) (by decide) (by decide) rfl rfl (by decide) rfl rfl rfl rfl hl.1 rfl (Nat.le_of_ble_eq_true rfl) dX3_close_94 ⟨Nat.zero_le _, Nat.zero_le _⟩ (fun H locs hP hD hS => ?_)
          refine lv_istore (lv' := [(7, .int (nI (kN (cK C)))), (0, .ref (a 17)), (1, .int (k1)), (2, .int (p1)), (3, .int (s1)), (4, .int (a1)), (5, .int (b1)), (6, .int (x1))]) hx hb dX3_close_97 hl (by decide) rfl (fun ls hl => ?_)
          refine lv_aload_n hx hb dX3_close_99 rfl (lv_at hl 1 rfl) ?_
          refine xwV (As := []) (rest := []) (wr := []) (ws2 := (wC a cI cZ (tellC (setCK C (addK (cK C) k1 p1 s1 a1 (if bEnd k1 then b1 else nI 100000) x1))))) hx hb hml hown ht hN kV_X3_84 (r_X3_tellChanges l D a cI cZ (setCK C (addK (cK C) k1 p1 s1 a1 (if bEnd k1 then b1 else nI 100000) x1)) (addK_ok hO (by omega) (bad_2 hbd) (rng_4 hrg) hp_7) hR (show nT (cN C) + 1200 < 2 ^ 31 by omega)) ⟨by decide, by decide⟩ hP hD hS hK [0, 1, 2, 3, 4, 5, 6, 7, 8, 9, 10, 11, 12, 13, 14, 15, 16, 17] [] [0, 1, 2, 3, 4, 5, 6, 7, 8, 9, 10, 11, 12, 13, 14, 15, 16, 17] rfl rfl (by decide) (by decide) (by decide) rfl rfl (by decide) rfl rfl rfl rfl hl.1 rfl (Nat.le_of_ble_eq_true rfl) dX3_close_100 ⟨Nat.zero_le _, Nat.zero_le _⟩ (fun H locs hP hD hS => ?_)
          refine lv_iload hx hb dX3_close_103 (lv_at hl 0 rfl) ?_
          exact xp_iret (v := nI (kN (cK C))) hx hb hr hlocks hS hP (rfl) (⟨hbd, hrg, bI_f h_56⟩) dX3_close_105
      · skip
        have h_56 : ¬ ((bI (decide (100 ≤ kN (cK C))) : Int32) = (0 : Int32)) := h_56
        exact xt_throw hx hb hl9 hml hown ht hT9 kT_UOE_72 hl.1 dX3_close_59 dX3_close_62 dX3_close_63 dX3_close_65 dX3_close_68 htab hlocks (by decide) (Nat.le_of_ble_eq_true rfl) ⟨by decide, by decide⟩ (Or.inr (Or.inr ⟨rfl, bad_no hp_3 hp_7, rng_no hsd hp_32 hp_40 hp_46, bI_t h_56⟩))
    · skip
      have h_17 : ¬ ((s1 : Int32) ≤ (nI 3 : Int32)) := h_17
      exact xt_throw hx hb hl9 hml hown ht hT9 kT_IOE_51 hl.1 dX3_close_20 dX3_close_23 dX3_close_24 dX3_close_26 dX3_close_29 htab hlocks (by decide) (Nat.le_of_ble_eq_true rfl) ⟨by decide, by decide⟩ (Or.inr (Or.inl ⟨rfl, bad_no hp_3 hp_7, rng_s (by first | exact inI_lo h_12 | exact inI_hi (Int32.not_le.mp h_17))⟩))
