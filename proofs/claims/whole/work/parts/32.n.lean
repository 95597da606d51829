theorem kS_X1_29 : xcS RX1 29 yJ9_floorMod cJ9_floorMod 3 (some .int) 2 := ⟨wd333, wd331, wd332, wd32, ⟨by decide +kernel, by decide +kernel, by decide +kernel⟩⟩
theorem kS_X1_19 : xcS RX1 19 yX1_firstOf cX1_firstOf 1 (some .int) 1 := ⟨wd330, wd328, wd329, wd24, ⟨by decide +kernel, by decide +kernel, by decide +kernel⟩⟩
theorem kN_X1_23 : xcN RX1 23 yX3_pieceOf cX3_pieceOf 1 (some .int) 1 RX3 := ⟨wd336, by decide +kernel, wd335, wd21, ⟨by decide +kernel, by decide +kernel, by decide +kernel⟩⟩
theorem kN_X1_26 : xcN RX1 26 yX3_sideOf cX3_sideOf 1 (some .int) 1 RX3 := ⟨wd339, by decide +kernel, wd338, wd21, ⟨by decide +kernel, by decide +kernel, by decide +kernel⟩⟩
theorem kV_X2_18 : xcV RX2 RX2 18 yX2_stepOf cX2_stepOf 3 (some .int) 2 := ⟨wd323, wd320, wd321, wd322, wd23, rfl, ⟨by decide +kernel, by decide +kernel, by decide +kernel⟩⟩
set_option maxHeartbeats 4000000 in
set_option maxRecDepth 100000 in
theorem r_J9_floorMod (l : Launch) (D : va_G) (n : Nat) (h : n < 2 ^ 31) : xRO l yJ9_floorMod cJ9_floorMod 3 (some .int) (xrm 0 0) [.int (nI n), .int (nI 100)] D [] [] (nI (n % 100)) := by
  refine xRO.ofF (by decide +kernel) (Nat.le_of_ble_eq_true rfl) ?_
  intro p e s m args below meth cd hx hb hr hml hown hlocks ht hN hP hK ls hl
  have hl : lv_has ls 3 [(0, .int (nI n)), (1, .int (nI 100))] := hl
  have hown : s.vm.findClass RJ9 = some m.cls := hown
  refine lv_iload_n hx hb dJ9_floorMod_0 rfl (lv_at hl 0 rfl) ?_
  refine lv_iload_n hx hb dJ9_floorMod_1 rfl (lv_at hl 1 rfl) ?_
  refine lv_irem hx hb dJ9_floorMod_2 (by decide) ?_
  refine lv_istore_n (lv' := [(2, .int (rI (nI n) (nI 100))), (0, .int (nI n)), (1, .int (nI 100))]) hx hb dJ9_floorMod_3 rfl hl (by decide) rfl (fun ls hl => ?_)
  refine lv_iload_n hx hb dJ9_floorMod_4 rfl (lv_at hl 1 rfl) ?_
  refine lv_iload_n hx hb dJ9_floorMod_5 rfl (lv_at hl 2 rfl) ?_
  refine lv_ixor hx hb dJ9_floorMod_6 ?_
  refine lv_if_ge (tgt := 18) hx hb dJ9_floorMod_7 (by decide) (fun h_7 => ?_) (fun h_7 => ?_)
  · skip
    refine lv_iload_n hx hb dJ9_floorMod_18 rfl (lv_at hl 0 rfl) ?_
    exact xr_iret (v := rI (nI n) (nI 100)) hx hb hr hlocks (pk_rem h (by decide) (by decide)) dJ9_floorMod_19
  · skip
    exact absurd (by rw [xx_xor]; exact nI_pos' (Nat.xor_lt_two_pow h (by decide))) h_7
set_option maxHeartbeats 4000000 in
set_option maxRecDepth 100000 in
theorem r_X1_firstOf (l : Launch) (D : va_G) (n : Nat) (h : n < 2 ^ 31) : xRO l yX1_firstOf cX1_firstOf 1 (some .int) (xrm 1 22) [.int (nI n)] D [] [] (nI (fstT n)) := by
  refine xRO.of (by decide +kernel) (Nat.le_of_ble_eq_true rfl) ?_
  intro p e s m args below meth cd hx hb hr hml hown hlocks ht hN hP hK ls hl
  have hl : lv_has ls 1 [(0, .int (nI n))] := hl
  have hown : s.vm.findClass RX1 = some m.cls := hown
  refine lv_iload_n hx hb dX1_firstOf_0 rfl (lv_at hl 0 rfl) ?_
  refine lv_bipush (v := nI 100) hx hb dX1_firstOf_1 (by decide) ?_
  refine xrS (As := [.int (nI n), .int (nI 100)]) (rest := []) hx hb hml hown ht hN kS_X1_29 (r_J9_floorMod l D n h) ⟨by decide, by decide⟩ hP hK rfl hl.1 rfl (Nat.le_of_ble_eq_true rfl) dX1_firstOf_3 ⟨Nat.zero_le _, Nat.zero_le _⟩ ?_
  refine lv_iconst (v := nI 5) hx hb dX1_firstOf_6 (by decide) ?_
  refine lv_imul hx hb dX1_firstOf_7 ?_
  exact xr_iret (v := (nI (n % 100)) * (nI 5)) hx hb hr hlocks (pk_mul _ _) dX1_firstOf_8
set_option maxHeartbeats 4000000 in
set_option maxRecDepth 100000 in
theorem r_X1_total (l : Launch) (D : va_G) (b : Nat → Nat) (cI cZ : ClassId) (N : NS) : xRO l yX1_total cX1_total 1 (some .int) (xrm 0 0) [.ref (b 0)] D (wNt b cI N) (tyL cI cZ) (nI (nT N)) := by
  refine xRO.of (by decide +kernel) (Nat.le_of_ble_eq_true rfl) ?_
  intro p e s m args below meth cd hx hb hr hml hown hlocks ht hN hP hK ls hl
  have hl : lv_has ls 1 [(0, .ref (b 0))] := hl
  have hown : s.vm.findClass RX1 = some m.cls := hown
  refine lv_aload_n hx hb dX1_total_0 rfl (lv_at hl 0 rfl) ?_
  refine va_get (D := D) (ci := 1) (v := .int (nI (nT N))) (C := RX1) (T := TX1) (N := 2) hx hb ht inX1 hown hK hP 0 rfl rfl 1 (by decide) (ht _ wd101) (fun _ h9 => h9) rfl dX1_total_1 ?_
  exact xr_iret (v := nI (nT N)) hx hb hr hlocks (rfl) dX1_total_4
set_option maxHeartbeats 4000000 in
set_option maxRecDepth 100000 in
theorem r_X1_isKept (l : Launch) (D : va_G) (b : Nat → Nat) (cI cZ : ClassId) (N : NS) (i : Int32) : xRO l yX1_isKept cX1_isKept 2 (some .boolean) (xrm 0 0) [.ref (b 0), .int (i)] D (wNt b cI N) (tyL cI cZ) (bI (!decide (i < 0) && (!decide (nI (nT N) ≤ i) && !decide (i < nI (nT N) - nI 100)))) := by
  refine xRO.of (by decide +kernel) (Nat.le_of_ble_eq_true rfl) ?_
  intro p e s m args below meth cd hx hb hr hml hown hlocks ht hN hP hK ls hl
  have hl : lv_has ls 2 [(0, .ref (b 0)), (1, .int (i))] := hl
  have hown : s.vm.findClass RX1 = some m.cls := hown
  refine lv_iload_n hx hb dX1_isKept_0 rfl (lv_at hl 1 rfl) ?_
  refine lv_if_lt (tgt := 27) hx hb dX1_isKept_1 (by decide) (fun h_1 => ?_) (fun h_1 => ?_)
  · skip
    refine lv_iconst (v := nI 0) hx hb dX1_isKept_27 (by decide) ?_
    exact xr_zret (v := nI 0) hx hb hr hlocks (by first | rfl | exact bI_nar _) (bI_0 (by first | (rw [decide_eq_true h_1]; rfl) | (rw [decide_eq_true h_9, Bool.not_true, Bool.false_and, Bool.and_false]; done) | (rw [decide_eq_true h_20, Bool.not_true, Bool.and_false, Bool.and_false]; done))) dX1_isKept_28
  · skip
    refine lv_iload_n hx hb dX1_isKept_4 rfl (lv_at hl 1 rfl) ?_
    refine lv_aload_n hx hb dX1_isKept_5 rfl (lv_at hl 0 rfl) ?_
    refine va_get (D := D) (ci := 1) (v := .int (nI (nT N))) (C := RX1) (T := TX1) (N := 2) hx hb ht inX1 hown hK hP 0 rfl rfl 1 (by decide) (ht _ wd101) (fun _ h9 => h9) rfl dX1_isKept_6 ?_
    refine lv_icmp_ge (tgt := 27) hx hb dX1_isKept_9 (by decide) (fun h_9 => ?_) (fun h_9 => ?_)
    · skip
      refine lv_iconst (v := nI 0) hx hb dX1_isKept_27 (by decide) ?_
      exact xr_zret (v := nI 0) hx hb hr hlocks (by first | rfl | exact bI_nar _) (bI_0 (by first | (rw [decide_eq_true h_1]; rfl) | (rw [decide_eq_true h_9, Bool.not_true, Bool.false_and, Bool.and_false]; done) | (rw [decide_eq_true h_20, Bool.not_true, Bool.and_false, Bool.and_false]; done))) dX1_isKept_28
    · skip
      refine lv_iload_n hx hb dX1_isKept_12 rfl (lv_at hl 1 rfl) ?_
      refine lv_aload_n hx hb dX1_isKept_13 rfl (lv_at hl 0 rfl) ?_
      refine va_get (D := D) (ci := 1) (v := .int (nI (nT N))) (C := RX1) (T := TX1) (N := 2) hx hb ht inX1 hown hK hP 0 rfl rfl 1 (by decide) (ht _ wd101) (fun _ h9 => h9) rfl dX1_isKept_14 ?_
      refine lv_bipush (v := nI 100) hx hb dX1_isKept_17 (by decide) ?_
      refine lv_isub hx hb dX1_isKept_19 ?_
      refine lv_icmp_lt (tgt := 27) hx hb dX1_isKept_20 (by decide) (fun h_20 => ?_) (fun h_20 => ?_)
      · skip
        refine lv_iconst (v := nI 0) hx hb dX1_isKept_27 (by decide) ?_
        exact xr_zret (v := nI 0) hx hb hr hlocks (by first | rfl | exact bI_nar _) (bI_0 (by first | (rw [decide_eq_true h_1]; rfl) | (rw [decide_eq_true h_9, Bool.not_true, Bool.false_and, Bool.and_false]; done) | (rw [decide_eq_true h_20, Bool.not_true, Bool.and_false, Bool.and_false]; done))) dX1_isKept_28
      · skip
        refine lv_iconst (v := nI 1) hx hb dX1_isKept_23 (by decide) ?_
        refine lv_goto (tgt := 28) hx hb dX1_isKept_24 (by decide) ?_
        exact xr_zret (v := nI 1) hx hb hr hlocks (by first | rfl | exact bI_nar _) (bI_1 (by rw [decide_eq_false h_1, decide_eq_false h_9, decide_eq_false h_20]; rfl)) dX1_isKept_28
set_option maxHeartbeats 4000000 in
set_option maxRecDepth 100000 in
theorem r_X1_get (l : Launch) (D : va_G) (b : Nat → Nat) (cI cZ : ClassId) (N : NS) (i w : Nat) (hi : i < 2 ^ 31) (hw : w < 5) : xRO l yX1_get cX1_get 3 (some .int) (xrm 2 42) [.ref (b 0), .int (nI i), .int (nI w)] D (wNt b cI N) (tyL cI cZ) (nRw N (fstT i + w)) := by
  refine xRO.of (by decide +kernel) (Nat.le_of_ble_eq_true rfl) ?_
  intro p e s m args below meth cd hx hb hr hml hown hlocks ht hN hP hK ls hl
  have hl : lv_has ls 3 [(0, .ref (b 0)), (1, .int (nI i)), (2, .int (nI w))] := hl
  have hown : s.vm.findClass RX1 = some m.cls := hown
  refine lv_aload_n hx hb dX1_get_0 rfl (lv_at hl 0 rfl) ?_
  refine va_get (D := D) (ci := 1) (v := .ref (b 1)) (C := RX1) (T := TX1) (N := 2) hx hb ht inX1 hown hK hP 0 rfl rfl 0 (by decide) (ht _ wd100) (fun _ h9 => h9) rfl dX1_get_1 ?_
  refine lv_iload_n hx hb dX1_get_4 rfl (lv_at hl 1 rfl) ?_
  refine xrS (As := [.int (nI i)]) (rest := [.ref (b 1)]) hx hb hml hown ht hN kS_X1_19 (r_X1_firstOf l D i hi) ⟨by decide, by decide⟩ (fun k q h => by simp at h) (hK.sub (tys' := []) [] rfl) rfl hl.1 rfl (Nat.le_of_ble_eq_true rfl) dX1_get_5 ⟨Nat.zero_le _, Nat.zero_le _⟩ ?_
  refine lv_iload_n hx hb dX1_get_8 rfl (lv_at hl 2 rfl) ?_
  refine lv_iadd hx hb dX1_get_9 ?_
  refine xtop (y := nI (fstT i + w)) (nI_add _ _) ?_
  refine xa_iald hx hb hK hP 1 0 (i := (fstT i + w)) rfl rfl (by show i % 100 * 5 + w < 500; omega) (by decide) dX1_get_10 ?_
  exact xr_iret (v := nRw N (fstT i + w)) hx hb hr hlocks (rfl) dX1_get_11
set_option maxHeartbeats 4000000 in
set_option maxRecDepth 100000 in
theorem r_X1_add (l : Launch) (D : va_G) (b : Nat → Nat) (cI cZ : ClassId) (N : NS) (h : nT N < 2 ^ 31) (u pl : Nat) (hp : pl < 120) (bb : Bool) (mm : Int32) : xWR l yX1_add cX1_add 6 none (xrm 2 42) [.ref (b 0), .int (nI u), .int (nI pl), .int (bI bb), .int (mm)] D (wNt b cI N) (tyL cI cZ) none (wNt b cI (noteN N u pl bb mm)) := by
  refine xWR.of (by decide +kernel) (Nat.le_of_ble_eq_true rfl) ?_
  intro p e s m args below meth cd hx hb hr hml hown hlocks ht hN hP hK hD hS ls hl
  have hl : lv_has ls 6 [(0, .ref (b 0)), (1, .int (nI u)), (2, .int (nI pl)), (3, .int (bI bb)), (4, .int (mm))] := hl
  have hown : s.vm.findClass RX1 = some m.cls := hown
  refine lv_aload_n hx hb dX1_add_0 rfl (lv_at hl 0 rfl) ?_
  refine va_get (D := D) (ci := 1) (v := .int (nI (nT N))) (C := RX1) (T := TX1) (N := 2) hx hb ht inX1 hown hK hP 0 rfl rfl 1 (by decide) (ht _ wd101) (fun _ h9 => h9) rfl dX1_add_1 ?_
  refine xrS (As := [.int (nI (nT N))]) (rest := []) hx hb hml hown ht hN kS_X1_19 (r_X1_firstOf l D (nT N) h) ⟨by decide, by decide⟩ (fun k q h => by simp at h) (hK.sub (tys' := []) [] rfl) rfl hl.1 rfl (Nat.le_of_ble_eq_true rfl) dX1_add_4 ⟨Nat.zero_le _, Nat.zero_le _⟩ ?_
  refine lv_istore (lv' := [(5, .int (nI (fstT (nT N)))), (0, .ref (b 0)), (1, .int (nI u)), (2, .int (nI pl)), (3, .int (bI bb)), (4, .int (mm))]) hx hb dX1_add_7 hl (by decide) rfl (fun ls hl => ?_)
  refine lv_aload_n hx hb dX1_add_9 rfl (lv_at hl 1 rfl) ?_
  refine va_get (D := D) (ci := 1) (v := .ref (b 1)) (C := RX1) (T := TX1) (N := 2) hx hb ht inX1 hown hK hP 0 rfl rfl 0 (by decide) (ht _ wd100) (fun _ h9 => h9) rfl dX1_add_10 ?_
  refine lv_iload hx hb dX1_add_13 (lv_at hl 0 rfl) ?_
  refine lv_iload_n hx hb dX1_add_15 rfl (lv_at hl 2 rfl) ?_
  refine xa_iast hx hb hK hP hD hS 1 0 (i := (fstT (nT N))) (x := nI u) rfl rfl (by show nT N % 100 * 5 + 0 < 500; omega) (by decide) dX1_add_16 (fun H locs hP hD hS => ?_)
  have hP : va_P D vwCl [(b 0, .inr (1, [.ref (b 1), .int (nI (nT N))])), (b 1, .inl (cI, 500, .inl (upd (nRw N) (fstT (nT N)) (nI u))))] H := hP
  have hD : va_D (xA (wNt b cI N)) [(b 0, .inr (1, [.ref (b 1), .int (nI (nT N))])), (b 1, .inl (cI, 500, .inl (upd (nRw N) (fstT (nT N)) (nI u))))] := hD
  refine lv_aload_n hx hb dX1_add_17 rfl (lv_at hl 1 rfl) ?_
  refine va_get (D := D) (ci := 1) (v := .ref (b 1)) (C := RX1) (T := TX1) (N := 2) hx hb ht inX1 hown hK hP 0 rfl rfl 0 (by decide) (ht _ wd100) (fun _ h9 => h9) rfl dX1_add_18 ?_
  refine lv_iload hx hb dX1_add_21 (lv_at hl 0 rfl) ?_
  refine lv_iconst (v := nI 1) hx hb dX1_add_23 (by decide) ?_
  refine lv_iadd hx hb dX1_add_24 ?_
  refine xtop (y := nI (fstT (nT N) + 1)) (nI_add _ _) ?_
  refine lv_iload_n hx hb dX1_add_25 rfl (lv_at hl 3 rfl) ?_
  refine xrN (As := [.int (nI pl)]) (rest := [.int (nI (fstT (nT N) + 1)), .ref (b 1)]) hx hb hml hown ht hN kN_X1_23 (r_X3_pieceOf l D pl hp) ⟨by decide, by decide⟩ (fun k q h => by simp at h) (hK.sub (tys' := []) [] rfl) rfl hl.1 rfl (Nat.le_of_ble_eq_true rfl) dX1_add_26 ⟨Nat.zero_le _, Nat.zero_le _⟩ ?_
  refine xa_iast hx hb hK hP hD hS 1 0 (i := (fstT (nT N) + 1)) (x := nI (pl / 2)) rfl rfl (by show nT N % 100 * 5 + 1 < 500; omega) (by decide) dX1_add_29 (fun H locs hP hD hS => ?_)
  have hP : va_P D vwCl [(b 0, .inr (1, [.ref (b 1), .int (nI (nT N))])), (b 1, .inl (cI, 500, .inl (upd (upd (nRw N) (fstT (nT N)) (nI u)) (fstT (nT N) + 1) (nI (pl / 2)))))] H := hP
  have hD : va_D (xA (wNt b cI N)) [(b 0, .inr (1, [.ref (b 1), .int (nI (nT N))])), (b 1, .inl (cI, 500, .inl (upd (upd (nRw N) (fstT (nT N)) (nI u)) (fstT (nT N) + 1) (nI (pl / 2)))))] := hD
  refine lv_aload_n hx hb dX1_add_30 rfl (lv_at hl 1 rfl) ?_
  refine va_get (D := D) (ci := 1) (v := .ref (b 1)) (C := RX1) (T := TX1) (N := 2) hx hb ht inX1 hown hK hP 0 rfl rfl 0 (by decide) (ht _ wd100) (fun _ h9 => h9) rfl dX1_add_31 ?_
  refine lv_iload hx hb dX1_add_34 (lv_at hl 0 rfl) ?_
  refine lv_iconst (v := nI 2) hx hb dX1_add_36 (by decide) ?_
  refine lv_iadd hx hb dX1_add_37 ?_
  refine xtop (y := nI (fstT (nT N) + 2)) (nI_add _ _) ?_
  refine lv_iload_n hx hb dX1_add_38 rfl (lv_at hl 3 rfl) ?_
  refine xrN (As := [.int (nI pl)]) (rest := [.int (nI (fstT (nT N) + 2)), .ref (b 1)]) hx hb hml hown ht hN kN_X1_26 (r_X3_sideOf l D pl hp) ⟨by decide, by decide⟩ (fun k q h => by simp at h) (hK.sub (tys' := []) [] rfl) rfl hl.1 rfl (Nat.le_of_ble_eq_true rfl) dX1_add_39 ⟨Nat.zero_le _, Nat.zero_le _⟩ ?_
  refine xa_iast hx hb hK hP hD hS 1 0 (i := (fstT (nT N) + 2)) (x := nI (pl % 2 + 1)) rfl rfl (by show nT N % 100 * 5 + 2 < 500; omega) (by decide) dX1_add_42 (fun H locs hP hD hS => ?_)
  have hP : va_P D vwCl [(b 0, .inr (1, [.ref (b 1), .int (nI (nT N))])), (b 1, .inl (cI, 500, .inl (upd (upd (upd (nRw N) (fstT (nT N)) (nI u)) (fstT (nT N) + 1) (nI (pl / 2))) (fstT (nT N) + 2) (nI (pl % 2 + 1)))))] H := hP
  have hD : va_D (xA (wNt b cI N)) [(b 0, .inr (1, [.ref (b 1), .int (nI (nT N))])), (b 1, .inl (cI, 500, .inl (upd (upd (upd (nRw N) (fstT (nT N)) (nI u)) (fstT (nT N) + 1) (nI (pl / 2))) (fstT (nT N) + 2) (nI (pl % 2 + 1)))))] := hD
  refine lv_aload_n hx hb dX1_add_43 rfl (lv_at hl 1 rfl) ?_
  refine va_get (D := D) (ci := 1) (v := .ref (b 1)) (C := RX1) (T := TX1) (N := 2) hx hb ht inX1 hown hK hP 0 rfl rfl 0 (by decide) (ht _ wd100) (fun _ h9 => h9) rfl dX1_add_44 ?_
  refine lv_iload hx hb dX1_add_47 (lv_at hl 0 rfl) ?_
  refine lv_iconst (v := nI 3) hx hb dX1_add_49 (by decide) ?_
  refine lv_iadd hx hb dX1_add_50 ?_
  refine xtop (y := nI (fstT (nT N) + 3)) (nI_add _ _) ?_
  refine lv_iload_n hx hb dX1_add_51 rfl (lv_at hl 4 rfl) ?_
  refine lv_if_eq (tgt := 59) hx hb dX1_add_52 (by decide) (fun h_52 => ?_) (fun h_52 => ?_)
  · skip
    refine lv_iconst (v := nI 0) hx hb dX1_add_59 (by decide) ?_
    refine xa_iast hx hb hK hP hD hS 1 0 (i := (fstT (nT N) + 3)) (x := nI 0) rfl rfl (by show nT N % 100 * 5 + 3 < 500; omega) (by decide) dX1_add_60 (fun H locs hP hD hS => ?_)
    have hP : va_P D vwCl [(b 0, .inr (1, [.ref (b 1), .int (nI (nT N))])), (b 1, .inl (cI, 500, .inl (upd (upd (upd (upd (nRw N) (fstT (nT N)) (nI u)) (fstT (nT N) + 1) (nI (pl / 2))) (fstT (nT N) + 2) (nI (pl % 2 + 1))) (fstT (nT N) + 3) (nI 0))))] H := hP
    have hD : va_D (xA (wNt b cI N)) [(b 0, .inr (1, [.ref (b 1), .int (nI (nT N))])), (b 1, .inl (cI, 500, .inl (upd (upd (upd (upd (nRw N) (fstT (nT N)) (nI u)) (fstT (nT N) + 1) (nI (pl / 2))) (fstT (nT N) + 2) (nI (pl % 2 + 1))) (fstT (nT N) + 3) (nI 0))))] := hD
    refine lv_aload_n hx hb dX1_add_61 rfl (lv_at hl 1 rfl) ?_
    refine va_get (D := D) (ci := 1) (v := .ref (b 1)) (C := RX1) (T := TX1) (N := 2) hx hb ht inX1 hown hK hP 0 rfl rfl 0 (by decide) (ht _ wd100) (fun _ h9 => h9) rfl dX1_add_62 ?_
    refine lv_iload hx hb dX1_add_65 (lv_at hl 0 rfl) ?_
    refine lv_iconst (v := nI 4) hx hb dX1_add_67 (by decide) ?_
    refine lv_iadd hx hb dX1_add_68 ?_
    refine xtop (y := nI (fstT (nT N) + 4)) (nI_add _ _) ?_
    refine lv_iload hx hb dX1_add_69 (lv_at hl 5 rfl) ?_
    refine xa_iast hx hb hK hP hD hS 1 0 (i := (fstT (nT N) + 4)) (x := mm) rfl rfl (by show nT N % 100 * 5 + 4 < 500; omega) (by decide) dX1_add_71 (fun H locs hP hD hS => ?_)
    have hP : va_P D vwCl [(b 0, .inr (1, [.ref (b 1), .int (nI (nT N))])), (b 1, .inl (cI, 500, .inl (upd (upd (upd (upd (upd (nRw N) (fstT (nT N)) (nI u)) (fstT (nT N) + 1) (nI (pl / 2))) (fstT (nT N) + 2) (nI (pl % 2 + 1))) (fstT (nT N) + 3) (nI 0)) (fstT (nT N) + 4) mm)))] H := hP
    have hD : va_D (xA (wNt b cI N)) [(b 0, .inr (1, [.ref (b 1), .int (nI (nT N))])), (b 1, .inl (cI, 500, .inl (upd (upd (upd (upd (upd (nRw N) (fstT (nT N)) (nI u)) (fstT (nT N) + 1) (nI (pl / 2))) (fstT (nT N) + 2) (nI (pl % 2 + 1))) (fstT (nT N) + 3) (nI 0)) (fstT (nT N) + 4) mm)))] := hD
    refine lv_aload_n hx hb dX1_add_72 rfl (lv_at hl 1 rfl) ?_
    refine lv_dup hx hb dX1_add_73 rfl ?_
    refine va_get (D := D) (ci := 1) (v := .int (nI (nT N))) (C := RX1) (T := TX1) (N := 2) hx hb ht inX1 hown hK hP 0 rfl rfl 1 (by decide) (ht _ wd101) (fun _ h9 => h9) rfl dX1_add_74 ?_
    refine lv_iconst (v := nI 1) hx hb dX1_add_77 (by decide) ?_
    refine lv_iadd hx hb dX1_add_78 ?_
    refine xtop (y := nI (nT N + 1)) (nI_add _ _) ?_
    refine va_put (D := D) (ci := 1) (v := .int (nI (nT N + 1))) (ty := .int) (C := RX1) (T := TX1) (N := 2) hx hb ht inX1 tyX1 tyX1_ok nmX1 hown hK hP hD hS 0 rfl rfl 1 (by decide) (ht _ wd101) (fun _ h9 => h9) rfl (by decide +kernel) rfl rfl (Nat.le_of_ble_eq_true rfl) dX1_add_79 (fun H locs hP hD hS => ?_)
    have hP : va_P D vwCl [(b 0, .inr (1, [.ref (b 1), .int (nI (nT N + 1))])), (b 1, .inl (cI, 500, .inl (upd (upd (upd (upd (upd (nRw N) (fstT (nT N)) (nI u)) (fstT (nT N) + 1) (nI (pl / 2))) (fstT (nT N) + 2) (nI (pl % 2 + 1))) (fstT (nT N) + 3) (nI 0)) (fstT (nT N) + 4) mm)))] H := hP
    have hD : va_D (xA (wNt b cI N)) [(b 0, .inr (1, [.ref (b 1), .int (nI (nT N + 1))])), (b 1, .inl (cI, 500, .inl (upd (upd (upd (upd (upd (nRw N) (fstT (nT N)) (nI u)) (fstT (nT N) + 1) (nI (pl / 2))) (fstT (nT N) + 2) (nI (pl % 2 + 1))) (fstT (nT N) + 3) (nI 0)) (fstT (nT N) + 4) mm)))] := hD
    exact xw_vret hx hb hr hlocks hS (by first | (rw [bI_t h_52]; exact hP) | (rw [bI_f h_52]; exact hP)) dX1_add_82
  · skip
    refine lv_iconst (v := nI 1) hx hb dX1_add_55 (by decide) ?_
    refine lv_goto (tgt := 60) hx hb dX1_add_56 (by decide) ?_
    refine xa_iast hx hb hK hP hD hS 1 0 (i := (fstT (nT N) + 3)) (x := nI 1) rfl rfl (by show nT N % 100 * 5 + 3 < 500; omega) (by decide) dX1_add_60 (fun H locs hP hD hS => ?_)
    have hP : va_P D vwCl [(b 0, .inr (1, [.ref (b 1), .int (nI (nT N))])), (b 1, .inl (cI, 500, .inl (upd (upd (upd (upd (nRw N) (fstT (nT N)) (nI u)) (fstT (nT N) + 1) (nI (pl / 2))) (fstT (nT N) + 2) (nI (pl % 2 + 1))) (fstT (nT N) + 3) (nI 1))))] H := hP
    have hD : va_D (xA (wNt b cI N)) [(b 0, .inr (1, [.ref (b 1), .int (nI (nT N))])), (b 1, .inl (cI, 500, .inl (upd (upd (upd (upd (nRw N) (fstT (nT N)) (nI u)) (fstT (nT N) + 1) (nI (pl / 2))) (fstT (nT N) + 2) (nI (pl % 2 + 1))) (fstT (nT N) + 3) (nI 1))))] := hD
    refine lv_aload_n hx hb dX1_add_61 rfl (lv_at hl 1 rfl) ?_
    refine va_get (D := D) (ci := 1) (v := .ref (b 1)) (C := RX1) (T := TX1) (N := 2) hx hb ht inX1 hown hK hP 0 rfl rfl 0 (by decide) (ht _ wd100) (fun _ h9 => h9) rfl dX1_add_62 ?_
    refine lv_iload hx hb dX1_add_65 (lv_at hl 0 rfl) ?_
    refine lv_iconst (v := nI 4) hx hb dX1_add_67 (by decide) ?_
    refine lv_iadd hx hb dX1_add_68 ?_
    refine xtop (y := nI (fstT (nT N) + 4)) (nI_add _ _) ?_
    refine lv_iload hx hb dX1_add_69 (lv_at hl 5 rfl) ?_
    refine xa_iast hx hb hK hP hD hS 1 0 (i := (fstT (nT N) + 4)) (x := mm) rfl rfl (by show nT N % 100 * 5 + 4 < 500; omega) (by decide) dX1_add_71 (fun H locs hP hD hS => ?_)
    have hP : va_P D vwCl [(b 0, .inr (1, [.ref (b 1), .int (nI (nT N))])), (b 1, .inl (cI, 500, .inl (upd (upd (upd (upd (upd (nRw N) (fstT (nT N)) (nI u)) (fstT (nT N) + 1) (nI (pl / 2))) (fstT (nT N) + 2) (nI (pl % 2 + 1))) (fstT (nT N) + 3) (nI 1)) (fstT (nT N) + 4) mm)))] H := hP
    have hD : va_D (xA (wNt b cI N)) [(b 0, .inr (1, [.ref (b 1), .int (nI (nT N))])), (b 1, .inl (cI, 500, .inl (upd (upd (upd (upd (upd (nRw N) (fstT (nT N)) (nI u)) (fstT (nT N) + 1) (nI (pl / 2))) (fstT (nT N) + 2) (nI (pl % 2 + 1))) (fstT (nT N) + 3) (nI 1)) (fstT (nT N) + 4) mm)))] := hD
    refine lv_aload_n hx hb dX1_add_72 rfl (lv_at hl 1 rfl) ?_
    refine lv_dup hx hb dX1_add_73 rfl ?_
    refine va_get (D := D) (ci := 1) (v := .int (nI (nT N))) (C := RX1) (T := TX1) (N := 2) hx hb ht inX1 hown hK hP 0 rfl rfl 1 (by decide) (ht _ wd101) (fun _ h9 => h9) rfl dX1_add_74 ?_
    refine lv_iconst (v := nI 1) hx hb dX1_add_77 (by decide) ?_
    refine lv_iadd hx hb dX1_add_78 ?_
    refine xtop (y := nI (nT N + 1)) (nI_add _ _) ?_
    refine va_put (D := D) (ci := 1) (v := .int (nI (nT N + 1))) (ty := .int) (C := RX1) (T := TX1) (N := 2) hx hb ht inX1 tyX1 tyX1_ok nmX1 hown hK hP hD hS 0 rfl rfl 1 (by decide) (ht _ wd101) (fun _ h9 => h9) rfl (by decide +kernel) rfl rfl (Nat.le_of_ble_eq_true rfl) dX1_add_79 (fun H locs hP hD hS => ?_)
    have hP : va_P D vwCl [(b 0, .inr (1, [.ref (b 1), .int (nI (nT N + 1))])), (b 1, .inl (cI, 500, .inl (upd (upd (upd (upd (upd (nRw N) (fstT (nT N)) (nI u)) (fstT (nT N) + 1) (nI (pl / 2))) (fstT (nT N) + 2) (nI (pl % 2 + 1))) (fstT (nT N) + 3) (nI 1)) (fstT (nT N) + 4) mm)))] H := hP
    have hD : va_D (xA (wNt b cI N)) [(b 0, .inr (1, [.ref (b 1), .int (nI (nT N + 1))])), (b 1, .inl (cI, 500, .inl (upd (upd (upd (upd (upd (nRw N) (fstT (nT N)) (nI u)) (fstT (nT N) + 1) (nI (pl / 2))) (fstT (nT N) + 2) (nI (pl % 2 + 1))) (fstT (nT N) + 3) (nI 1)) (fstT (nT N) + 4) mm)))] := hD
    exact xw_vret hx hb hr hlocks hS (by first | (rw [bI_t h_52]; exact hP) | (rw [bI_f h_52]; exact hP)) dX1_add_82
set_option maxHeartbeats 4000000 in
set_option maxRecDepth 100000 in
theorem r_X2_empty (l : Launch) (D : va_G) (b : Nat → Nat) (cI cZ : ClassId) (R : RS) (u : Nat) (hu : u < 10) : xWR l yX2_empty cX2_empty 2 none (xrm 0 0) [.ref (b 0), .int (nI u)] D (wR b cI R) (tyL cI cZ) none (wR b cI (emptyR R u)) := by
  refine xWR.of (by decide +kernel) (Nat.le_of_ble_eq_true rfl) ?_
  intro p e s m args below meth cd hx hb hr hml hown hlocks ht hN hP hK hD hS ls hl
  have hl : lv_has ls 2 [(0, .ref (b 0)), (1, .int (nI u))] := hl
  have hown : s.vm.findClass RX2 = some m.cls := hown
  refine lv_aload_n hx hb dX2_empty_0 rfl (lv_at hl 0 rfl) ?_
  refine va_get (D := D) (ci := 2) (v := .ref (b 2)) (C := RX2) (T := TX2) (N := 2) hx hb ht inX2 hown hK hP 0 rfl rfl 1 (by decide) (ht _ wd88) (fun _ h9 => h9) rfl dX2_empty_1 ?_
  refine lv_iload_n hx hb dX2_empty_4 rfl (lv_at hl 1 rfl) ?_
  refine lv_iconst (v := nI 0) hx hb dX2_empty_5 (by decide) ?_
  refine xa_iast hx hb hK hP hD hS 2 0 (i := u) (x := nI 0) rfl rfl (by omega) (by decide) dX2_empty_6 (fun H locs hP hD hS => ?_)
  have hP : va_P D vwCl [(b 0, .inr (2, [.ref (b 1), .ref (b 2)])), (b 1, .inl (cI, 120, .inl (nF (rP R)))), (b 2, .inl (cI, 10, .inl (upd (nF (rL R)) u (nI 0))))] H := hP
  have hD : va_D (xA (wR b cI R)) [(b 0, .inr (2, [.ref (b 1), .ref (b 2)])), (b 1, .inl (cI, 120, .inl (nF (rP R)))), (b 2, .inl (cI, 10, .inl (upd (nF (rL R)) u (nI 0))))] := hD
  exact xw_vret hx hb hr hlocks hS (by rw [nF_upd] at hP; exact hP) dX2_empty_7
set_option maxHeartbeats 4000000 in
set_option maxRecDepth 100000 in
theorem r_X2_isFull (l : Launch) (D : va_G) (b : Nat → Nat) (cI cZ : ClassId) (R : RS) (hR : rOk R) (u : Nat) (hu : u < 10) : xRO l yX2_isFull cX2_isFull 2 (some .boolean) (xrm 0 0) [.ref (b 0), .int (nI u)] D (wR b cI R) (tyL cI cZ) (bI (decide (12 ≤ rL R u))) := by
  refine xRO.of (by decide +kernel) (Nat.le_of_ble_eq_true rfl) ?_
  intro p e s m args below meth cd hx hb hr hml hown hlocks ht hN hP hK ls hl
  have hl : lv_has ls 2 [(0, .ref (b 0)), (1, .int (nI u))] := hl
  have hown : s.vm.findClass RX2 = some m.cls := hown
  have hk := (hR u hu).1
  refine lv_aload_n hx hb dX2_isFull_0 rfl (lv_at hl 0 rfl) ?_
  refine va_get (D := D) (ci := 2) (v := .ref (b 2)) (C := RX2) (T := TX2) (N := 2) hx hb ht inX2 hown hK hP 0 rfl rfl 1 (by decide) (ht _ wd88) (fun _ h9 => h9) rfl dX2_isFull_1 ?_
  refine lv_iload_n hx hb dX2_isFull_4 rfl (lv_at hl 1 rfl) ?_
  refine xa_iald hx hb hK hP 2 0 (i := u) rfl rfl (by omega) (by decide) dX2_isFull_5 ?_
  refine lv_bipush (v := nI 12) hx hb dX2_isFull_6 (by decide) ?_
  refine lv_icmp_lt (tgt := 15) hx hb dX2_isFull_8 (by decide) (fun h_8 => ?_) (fun h_8 => ?_)
  · skip
    have h_8 : (rL R u) < 12 := (nI_ltI (by omega) (by omega)).mp h_8
    refine lv_iconst (v := nI 0) hx hb dX2_isFull_15 (by decide) ?_
    exact xr_zret (v := nI 0) hx hb hr hlocks (by first | rfl | exact bI_nar _) (bI_0 (decide_eq_false (by omega))) dX2_isFull_16
  · skip
    have h_8 : ¬ ((rL R u) < 12) := fun z => h_8 ((nI_ltI (by omega) (by omega)).mpr z)
    refine lv_iconst (v := nI 1) hx hb dX2_isFull_11 (by decide) ?_
    refine lv_goto (tgt := 16) hx hb dX2_isFull_12 (by decide) ?_
    exact xr_zret (v := nI 1) hx hb hr hlocks (by first | rfl | exact bI_nar _) (bI_1 (decide_eq_true (by omega))) dX2_isFull_16
set_option maxHeartbeats 4000000 in
set_option maxRecDepth 100000 in
theorem r_X2_length (l : Launch) (D : va_G) (b : Nat → Nat) (cI cZ : ClassId) (R : RS) (u : Nat) (hu : u < 10) : xRO l yX2_length cX2_length 2 (some .int) (xrm 0 0) [.ref (b 0), .int (nI u)] D (wR b cI R) (tyL cI cZ) (nI (rL R u)) := by
  refine xRO.of (by decide +kernel) (Nat.le_of_ble_eq_true rfl) ?_
  intro p e s m args below meth cd hx hb hr hml hown hlocks ht hN hP hK ls hl
  have hl : lv_has ls 2 [(0, .ref (b 0)), (1, .int (nI u))] := hl
  have hown : s.vm.findClass RX2 = some m.cls := hown
  refine lv_aload_n hx hb dX2_length_0 rfl (lv_at hl 0 rfl) ?_
  refine va_get (D := D) (ci := 2) (v := .ref (b 2)) (C := RX2) (T := TX2) (N := 2) hx hb ht inX2 hown hK hP 0 rfl rfl 1 (by decide) (ht _ wd88) (fun _ h9 => h9) rfl dX2_length_1 ?_
  refine lv_iload_n hx hb dX2_length_4 rfl (lv_at hl 1 rfl) ?_
  refine xa_iald hx hb hK hP 2 0 (i := u) rfl rfl (by omega) (by decide) dX2_length_5 ?_
  exact xr_iret (v := nI (rL R u)) hx hb hr hlocks (rfl) dX2_length_6
set_option maxHeartbeats 4000000 in
set_option maxRecDepth 100000 in
theorem r_X2_stepOf (l : Launch) (D : va_G) (b : Nat → Nat) (cI cZ : ClassId) (R : RS) (u n : Nat) (hu : u * 12 + n < 120) : xRO l yX2_stepOf cX2_stepOf 3 (some .int) (xrm 0 0) [.ref (b 0), .int (nI u), .int (nI n)] D (wR b cI R) (tyL cI cZ) (nI (rP R (u * 12 + n))) := by
  refine xRO.of (by decide +kernel) (Nat.le_of_ble_eq_true rfl) ?_
  intro p e s m args below meth cd hx hb hr hml hown hlocks ht hN hP hK ls hl
  have hl : lv_has ls 3 [(0, .ref (b 0)), (1, .int (nI u)), (2, .int (nI n))] := hl
  have hown : s.vm.findClass RX2 = some m.cls := hown
  refine lv_aload_n hx hb dX2_stepOf_0 rfl (lv_at hl 0 rfl) ?_
  refine va_get (D := D) (ci := 2) (v := .ref (b 1)) (C := RX2) (T := TX2) (N := 2) hx hb ht inX2 hown hK hP 0 rfl rfl 0 (by decide) (ht _ wd87) (fun _ h9 => h9) rfl dX2_stepOf_1 ?_
  refine lv_iload_n hx hb dX2_stepOf_4 rfl (lv_at hl 1 rfl) ?_
  refine lv_bipush (v := nI 12) hx hb dX2_stepOf_5 (by decide) ?_
  refine lv_imul hx hb dX2_stepOf_7 ?_
  refine xtop (y := nI (u * 12)) (pk_mul _ _) ?_
  refine lv_iload_n hx hb dX2_stepOf_8 rfl (lv_at hl 2 rfl) ?_
  refine lv_iadd hx hb dX2_stepOf_9 ?_
  refine xtop (y := nI (u * 12 + n)) (nI_add _ _) ?_
  refine xa_iald hx hb hK hP 1 0 (i := (u * 12 + n)) rfl rfl (by omega) (by decide) dX2_stepOf_10 ?_
  exact xr_iret (v := nI (rP R (u * 12 + n))) hx hb hr hlocks (rfl) dX2_stepOf_11
set_option maxHeartbeats 4000000 in
set_option maxRecDepth 100000 in
theorem r_X2_add (l : Launch) (D : va_G) (b : Nat → Nat) (cI cZ : ClassId) (R : RS) (u pl : Nat) (hu : u < 10) (hl12 : rL R u < 12) : xWR l yX2_add cX2_add 3 (some .int) (xrm 0 0) [.ref (b 0), .int (nI u), .int (nI pl)] D (wR b cI R) (tyL cI cZ) (some (.int (nI (rL R u + 1)))) (wR b cI (stepR R u pl)) := by
  refine xWR.of (by decide +kernel) (Nat.le_of_ble_eq_true rfl) ?_
  intro p e s m args below meth cd hx hb hr hml hown hlocks ht hN hP hK hD hS ls hl
  have hl : lv_has ls 3 [(0, .ref (b 0)), (1, .int (nI u)), (2, .int (nI pl))] := hl
  have hown : s.vm.findClass RX2 = some m.cls := hown
  refine lv_aload_n hx hb dX2_add_0 rfl (lv_at hl 0 rfl) ?_
  refine va_get (D := D) (ci := 2) (v := .ref (b 1)) (C := RX2) (T := TX2) (N := 2) hx hb ht inX2 hown hK hP 0 rfl rfl 0 (by decide) (ht _ wd87) (fun _ h9 => h9) rfl dX2_add_1 ?_
  refine lv_iload_n hx hb dX2_add_4 rfl (lv_at hl 1 rfl) ?_
  refine lv_bipush (v := nI 12) hx hb dX2_add_5 (by decide) ?_
  refine lv_imul hx hb dX2_add_7 ?_
  refine xtop (y := nI (u * 12)) (pk_mul _ _) ?_
  refine lv_aload_n hx hb dX2_add_8 rfl (lv_at hl 0 rfl) ?_
  refine va_get (D := D) (ci := 2) (v := .ref (b 2)) (C := RX2) (T := TX2) (N := 2) hx hb ht inX2 hown hK hP 0 rfl rfl 1 (by decide) (ht _ wd88) (fun _ h9 => h9) rfl dX2_add_9 ?_
  refine lv_iload_n hx hb dX2_add_12 rfl (lv_at hl 1 rfl) ?_
  refine xa_iald hx hb hK hP 2 0 (i := u) rfl rfl (by omega) (by decide) dX2_add_13 ?_
  refine lv_iadd hx hb dX2_add_14 ?_
  refine xtop (y := nI (u * 12 + rL R u)) (nI_add _ _) ?_
  refine lv_iload_n hx hb dX2_add_15 rfl (lv_at hl 2 rfl) ?_
  refine xa_iast hx hb hK hP hD hS 1 0 (i := (u * 12 + rL R u)) (x := nI pl) rfl rfl (by omega) (by decide) dX2_add_16 (fun H locs hP hD hS => ?_)
  have hP : va_P D vwCl [(b 0, .inr (2, [.ref (b 1), .ref (b 2)])), (b 1, .inl (cI, 120, .inl (upd (nF (rP R)) (u * 12 + rL R u) (nI pl)))), (b 2, .inl (cI, 10, .inl (nF (rL R))))] H := hP
  have hD : va_D (xA (wR b cI R)) [(b 0, .inr (2, [.ref (b 1), .ref (b 2)])), (b 1, .inl (cI, 120, .inl (upd (nF (rP R)) (u * 12 + rL R u) (nI pl)))), (b 2, .inl (cI, 10, .inl (nF (rL R))))] := hD
  refine lv_aload_n hx hb dX2_add_17 rfl (lv_at hl 0 rfl) ?_
  refine va_get (D := D) (ci := 2) (v := .ref (b 2)) (C := RX2) (T := TX2) (N := 2) hx hb ht inX2 hown hK hP 0 rfl rfl 1 (by decide) (ht _ wd88) (fun _ h9 => h9) rfl dX2_add_18 ?_
  refine lv_iload_n hx hb dX2_add_21 rfl (lv_at hl 1 rfl) ?_
  refine lv_dup2_11 hx hb dX2_add_22 rfl rfl ?_
  refine xa_iald hx hb hK hP 2 0 (i := u) rfl rfl (by omega) (by decide) dX2_add_23 ?_
  refine lv_iconst (v := nI 1) hx hb dX2_add_24 (by decide) ?_
  refine lv_iadd hx hb dX2_add_25 ?_
  refine xtop (y := nI (rL R u + 1)) (nI_add _ _) ?_
  refine xa_iast hx hb hK hP hD hS 2 0 (i := u) (x := nI (rL R u + 1)) rfl rfl (by omega) (by decide) dX2_add_26 (fun H locs hP hD hS => ?_)
  have hP : va_P D vwCl [(b 0, .inr (2, [.ref (b 1), .ref (b 2)])), (b 1, .inl (cI, 120, .inl (upd (nF (rP R)) (u * 12 + rL R u) (nI pl)))), (b 2, .inl (cI, 10, .inl (upd (nF (rL R)) u (nI (rL R u + 1)))))] H := hP
  have hD : va_D (xA (wR b cI R)) [(b 0, .inr (2, [.ref (b 1), .ref (b 2)])), (b 1, .inl (cI, 120, .inl (upd (nF (rP R)) (u * 12 + rL R u) (nI pl)))), (b 2, .inl (cI, 10, .inl (upd (nF (rL R)) u (nI (rL R u + 1)))))] := hD
  refine lv_aload_n hx hb dX2_add_27 rfl (lv_at hl 0 rfl) ?_
  refine va_get (D := D) (ci := 2) (v := .ref (b 2)) (C := RX2) (T := TX2) (N := 2) hx hb ht inX2 hown hK hP 0 rfl rfl 1 (by decide) (ht _ wd88) (fun _ h9 => h9) rfl dX2_add_28 ?_
  refine lv_iload_n hx hb dX2_add_31 rfl (lv_at hl 1 rfl) ?_
  refine xa_iald hx hb hK hP 2 0 (i := u) rfl rfl (by omega) (by decide) dX2_add_32 ?_
  refine xtop (y := nI (rL R u + 1)) (pk_us) ?_
  exact xw_iret (v := nI (rL R u + 1)) hx hb hr hlocks hS (by rw [nF_upd, nF_upd] at hP; exact hP) (rfl) dX2_add_33
set_option maxHeartbeats 4000000 in
set_option maxRecDepth 100000 in
theorem r_X2_leadsOver (l : Launch) (D : va_G) (b : Nat → Nat) (cI cZ : ClassId) (R : RS) (hR : rOk R) (u : Nat) (hu : u < 10) (pl : Nat) (hp : pl < 120) : xRO l yX2_leadsOver cX2_leadsOver 4 (some .boolean) (xrm 1 22) [.ref (b 0), .int (nI u), .int (nI pl)] D (wR b cI R) (tyL cI cZ) (bI (hasR R u pl)) := by
  refine xRO.of (by decide +kernel) (Nat.le_of_ble_eq_true rfl) ?_
  intro p e s m args below meth cd hx hb hr hml hown hlocks ht hN hP hK ls hl
  have hl : lv_has ls 4 [(0, .ref (b 0)), (1, .int (nI u)), (2, .int (nI pl))] := hl
  have hown : s.vm.findClass RX2 = some m.cls := hown
  have hk := (hR u hu).1
  have hq := (hR u hu).2
  have L2 : ∀ (n : Nat) (k : Nat), rL R u < k + n → k ≤ rL R u → anyN (fun k => decide (rP R (u * 12 + k) = pl)) k = false → ∀ ls : Array Slot, lv_has ls 4 [(0, .ref (b 0)), (1, .int (nI u)), (2, .int (nI pl)), (3, .int (nI k))] → W p l e (xrm 1 22) s m args below meth cd s.heap [] 0 0 (MQ below (QcRead (bI (hasR R u pl))) args s 0 0 (fun _ => False)) (F0 m 2 ls []) := by
    intro n
    induction n with
    | zero =>
      intro k hfuel hi hv
      exact absurd hfuel (by omega)
    | succ n ih2 =>
      intro k hfuel hi hv ls hl
      refine lv_iload_n hx hb dX2_leadsOver_2 rfl (lv_at hl 3 rfl) ?_
      refine lv_aload_n hx hb dX2_leadsOver_3 rfl (lv_at hl 0 rfl) ?_
      refine va_get (D := D) (ci := 2) (v := .ref (b 2)) (C := RX2) (T := TX2) (N := 2) hx hb ht inX2 hown hK hP 0 rfl rfl 1 (by decide) (ht _ wd88) (fun _ h9 => h9) rfl dX2_leadsOver_4 ?_
      refine lv_iload_n hx hb dX2_leadsOver_7 rfl (lv_at hl 1 rfl) ?_
      refine xa_iald hx hb hK hP 2 0 (i := u) rfl rfl (by omega) (by decide) dX2_leadsOver_8 ?_
      refine lv_icmp_ge (tgt := 30) hx hb dX2_leadsOver_9 (by decide) (fun h_9 => ?_) (fun h_9 => ?_)
      · skip
        have h_9 : (rL R u) ≤ k := (nI_leI (by omega) (by omega)).mp h_9
        refine lv_iconst (v := nI 0) hx hb dX2_leadsOver_30 (by decide) ?_
        exact xr_zret (v := nI 0) hx hb hr hlocks (by first | rfl | exact bI_nar _) (bI_0 (by rw [hasR, show rL R u = k by omega]; exact hv)) dX2_leadsOver_31
      · skip
        have h_9 : ¬ ((rL R u) ≤ k) := fun z => h_9 ((nI_leI (by omega) (by omega)).mpr z)
        have hk9 := hq k (by omega)
        refine lv_aload_n hx hb dX2_leadsOver_12 rfl (lv_at hl 0 rfl) ?_
        refine lv_iload_n hx hb dX2_leadsOver_13 rfl (lv_at hl 1 rfl) ?_
        refine lv_iload_n hx hb dX2_leadsOver_14 rfl (lv_at hl 3 rfl) ?_
        refine xrV (As := [.int (nI u), .int (nI k)]) (rest := []) hx hb hml hown ht hN kV_X2_18 (r_X2_stepOf l D b cI cZ R u k (by omega)) ⟨by decide, by decide⟩ hP hK rfl rfl rfl rfl hl.1 rfl (Nat.le_of_ble_eq_true rfl) dX2_leadsOver_15 ⟨Nat.zero_le _, Nat.zero_le _⟩ ?_
        refine lv_iload_n hx hb dX2_leadsOver_18 rfl (lv_at hl 2 rfl) ?_
        refine lv_icmp_ne (tgt := 24) hx hb dX2_leadsOver_19 (by decide) (fun h_19 => ?_) (fun h_19 => ?_)
        · skip
          have h_19 : ¬ ((rP R (u * 12 + k)) = pl) := fun z => h_19 ((nI_eq (by omega) (by omega)).mpr z)
          refine lv_iinc (v := nI (k + 1)) (lv' := [(3, .int (nI (k + 1))), (0, .ref (b 0)), (1, .int (nI u)), (2, .int (nI pl))]) hx hb dX2_leadsOver_24 hl (k := 3) rfl (nI_1 _) (by decide) rfl (fun ls hl => ?_)
          refine lv_goto (tgt := 2) hx hb dX2_leadsOver_27 (by decide) ?_
          exact ih2 (k + 1) (by omega) (by omega) (by rw [anyN, hv, decide_eq_false h_19]; rfl) ls (lv_sub hl [1, 2, 3, 0] rfl)
        · skip
          have h_19 : (rP R (u * 12 + k)) = pl := (nI_eq (by omega) (by omega)).mp h_19
          refine lv_iconst (v := nI 1) hx hb dX2_leadsOver_22 (by decide) ?_
          exact xr_zret (v := nI 1) hx hb hr hlocks (by first | rfl | exact bI_nar _) (bI_1 (anyN_of (c := k) (by omega) (decide_eq_true h_19))) dX2_leadsOver_23
  refine lv_iconst (v := nI 0) hx hb dX2_leadsOver_0 (by decide) ?_
  refine lv_istore_n (lv' := [(3, .int (nI 0)), (0, .ref (b 0)), (1, .int (nI u)), (2, .int (nI pl))]) hx hb dX2_leadsOver_1 rfl hl (by decide) rfl (fun ls hl => ?_)
  exact L2 (rL R u + 1) 0 (by omega) (by omega) rfl ls (lv_sub hl [1, 2, 3, 0] rfl)
