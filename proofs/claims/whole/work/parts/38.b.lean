theorem kV_X4_98 : xcV RX4 RX4 98 yX4_look cX4_look 5 none 0 := ⟨wd655, wd652, wd654, wd13, wd25, rfl, ⟨by decide +kernel, by decide +kernel, by decide +kernel⟩⟩
theorem kV_X4_101 : xcV RX4 RX4 101 yX4_isClosure cX4_isClosure 2 (some .boolean) 1 := ⟨wd679, wd676, wd678, wd18, wd25, rfl, ⟨by decide +kernel, by decide +kernel, by decide +kernel⟩⟩
theorem kS_X4_91 : xcS RX4 91 yX4_isNumber cX4_isNumber 2 (some .boolean) 2 := ⟨wd647, wd645, wd646, wd25, ⟨by decide +kernel, by decide +kernel, by decide +kernel⟩⟩
set_option maxHeartbeats 4000000 in
set_option maxRecDepth 100000 in
theorem r_X4_incident (l : Launch) (D : va_G) (a : Nat → Nat) (cI cZ : ClassId) (M : MS) (hO : mOk (sK M)) (hR : rOk (sR M)) (hT0 : nT (sN M) + 1200 < 2 ^ 30) (i1 : Int32) (b1 : Bool) : xWR l yX4_incident cX4_incident 3 none (xrm 3 72) [.ref (a 0), .int (i1), .int (bI b1)] D (wM a cI cZ M) (tyL cI cZ) none (wM a cI cZ (incMs M i1 b1)) := by
  refine xWR.of (by decide +kernel) (Nat.le_of_ble_eq_true rfl) ?_
  intro p e s m args below meth cd hx hb hr hml hown hlocks ht hN hP hK hD hS ls hl
  have hl : lv_has ls 3 [(0, .ref (a 0)), (1, .int (i1)), (2, .int (bI b1))] := hl
  have hown : s.vm.findClass RX4 = some m.cls := hown
  have J16 : ∀ (H : Heap) (locs : List Loc), va_P D vwCl (wM a cI cZ M) H → va_D (xA (wM a cI cZ M)) (wM a cI cZ M) → va_S (xA (wM a cI cZ M)) s.heap H locs → ∀ ls : Array Slot, lv_has ls 3 [(0, .ref (a 0)), (1, .int (i1)), (2, .int (bI b1))] → W p l e (xrm 3 72) s m args below meth cd H locs 0 0 (MQ below (xQw none D (wM a cI cZ M) (wM a cI cZ (incMs M i1 b1))) args s 0 0 (xA (wM a cI cZ M))) (F0 m 16 ls [.int (bI (bIn i1)), .ref (a 0)]) := by
    intro H locs hP hD hS ls hl
    refine lv_iconst (v := nI 0) hx hb dX4_incident_16 (by decide) ?_
    refine lv_iconst (v := nI 0) hx hb dX4_incident_17 (by decide) ?_
    refine xwV (As := [.int (bI (bIn i1)), .int (nI 0), .int (nI 0)]) (rest := []) (wr := []) (ws2 := (wM a cI cZ (setE M (thrM (bIn i1) false false)))) hx hb hml hown ht hN kV_X4_94 (r_X4_throwing l D a cI cZ M (bIn i1) (false) (false)) ⟨by decide, by decide⟩ hP hD hS hK [0, 1, 2, 3, 4, 5, 6, 7, 8, 9, 10, 11, 12, 13, 14] [] [0, 1, 2, 3, 4, 5, 6, 7, 8, 9, 10, 11, 12, 13, 14] rfl rfl (by decide) (by decide) (by decide) rfl rfl (by decide) rfl rfl rfl rfl hl.1 rfl (Nat.le_of_ble_eq_true rfl) dX4_incident_18 ⟨Nat.zero_le _, Nat.zero_le _⟩ (fun H locs hP hD hS => ?_)
    refine lv_if_eq (tgt := 25) hx hb dX4_incident_21 (by decide) (fun h_21 => ?_) (fun h_21 => ?_)
    · skip
      have h_21 : (bI (bIn i1 || false || false) : Int32) = (0 : Int32) := h_21
      obtain ⟨ei, -, hi9⟩ := ix_in (by decide) (by decide) (notF (orF (b := false) (bI_f h_21)).1)
      refine lv_aload_n hx hb dX4_incident_25 rfl (lv_at hl 0 rfl) ?_
      refine va_get (D := D) (ci := 4) (v := .ref (a 10)) (C := RX4) (T := TX4) (N := 18) hx hb ht inX4 hown hK hP 0 rfl rfl 12 (by decide) (ht _ wd584) (fun _ h9 => h9) rfl dX4_incident_26 ?_
      refine lv_iload_n hx hb dX4_incident_29 rfl (lv_at hl 1 rfl) ?_
      refine lv_iload_n hx hb dX4_incident_30 rfl (lv_at hl 2 rfl) ?_
      refine xtop2 (y := nI (ix i1)) ei ?_
      refine xa_zast hx hb hK hP hD hS 10 1 (i := (ix i1)) (x := bI b1) rfl rfl (by omega) (by decide) (by first | rfl | exact bI_vp _) dX4_incident_31 (fun H locs hP hD hS => ?_)
      have hP : va_P D vwCl [(a 0, .inr (4, [.int (sE (setE M (thrM (bIn i1) false false))), .int (nI (sC M)), .int (nI (mN (sK M))), .ref (a 1), .ref (a 2), .ref (a 3), .ref (a 4), .ref (a 5), .ref (a 6), .ref (a 7), .ref (a 8), .ref (a 9), .ref (a 10), .ref (a 11), .ref (a 12), .ref (a 13), .int (nI (nT (sN M))), .ref (a 14)])), (a 1, .inl (cI, 100, .inl (mKd (sK M)))), (a 2, .inl (cI, 100, .inl (mPc (sK M)))), (a 3, .inl (cI, 100, .inl (mSd (sK M)))), (a 4, .inl (cI, 100, .inl (mFr (sK M)))), (a 5, .inl (cI, 100, .inl (mTo (sK M)))), (a 6, .inl (cI, 100, .inl (mNu (sK M)))), (a 7, .inl (cI, 100, .inl (mAn (sK M)))), (a 8, .inl (cI, 100, .inl (mLi (sK M)))), (a 9, .inl (cI, 100, .inl (mWd (sK M)))), (a 10, .inl (cZ, 20, .inl (upd (mOp (sK M)) (ix i1) (bI b1)))), (a 11, .inl (cI, 10, .inl (nF (rL (sR M))))), (a 12, .inl (cI, 120, .inl (nF (rP (sR M))))), (a 13, .inl (cZ, 120, .inl (bF (sW M)))), (a 14, .inl (cI, 500, .inl (nRw (sN M))))] H := hP
      have hD : va_D (xA (wM a cI cZ M)) [(a 0, .inr (4, [.int (sE (setE M (thrM (bIn i1) false false))), .int (nI (sC M)), .int (nI (mN (sK M))), .ref (a 1), .ref (a 2), .ref (a 3), .ref (a 4), .ref (a 5), .ref (a 6), .ref (a 7), .ref (a 8), .ref (a 9), .ref (a 10), .ref (a 11), .ref (a 12), .ref (a 13), .int (nI (nT (sN M))), .ref (a 14)])), (a 1, .inl (cI, 100, .inl (mKd (sK M)))), (a 2, .inl (cI, 100, .inl (mPc (sK M)))), (a 3, .inl (cI, 100, .inl (mSd (sK M)))), (a 4, .inl (cI, 100, .inl (mFr (sK M)))), (a 5, .inl (cI, 100, .inl (mTo (sK M)))), (a 6, .inl (cI, 100, .inl (mNu (sK M)))), (a 7, .inl (cI, 100, .inl (mAn (sK M)))), (a 8, .inl (cI, 100, .inl (mLi (sK M)))), (a 9, .inl (cI, 100, .inl (mWd (sK M)))), (a 10, .inl (cZ, 20, .inl (upd (mOp (sK M)) (ix i1) (bI b1)))), (a 11, .inl (cI, 10, .inl (nF (rL (sR M))))), (a 12, .inl (cI, 120, .inl (nF (rP (sR M))))), (a 13, .inl (cZ, 120, .inl (bF (sW M)))), (a 14, .inl (cI, 500, .inl (nRw (sN M))))] := hD
      refine lv_aload_n hx hb dX4_incident_32 rfl (lv_at hl 0 rfl) ?_
      refine xwV (As := []) (rest := []) (wr := []) (ws2 := (wM a cI cZ (lookM (setK M (opM (sK M) (ix i1) (bI b1)) (thrM (bIn i1) false false))))) hx hb hml hown ht hN kV_X4_98 (r_X4_look l D a cI cZ (setK M (opM (sK M) (ix i1) (bI b1)) (thrM (bIn i1) false false)) (opM_ok hO) hR (show nT (sN M) + 1200 < 2 ^ 31 by omega)) ⟨by decide, by decide⟩ hP hD hS hK [0, 1, 2, 3, 4, 5, 6, 7, 8, 9, 10, 11, 12, 13, 14] [] [0, 1, 2, 3, 4, 5, 6, 7, 8, 9, 10, 11, 12, 13, 14] rfl rfl (by decide) (by decide) (by decide) rfl rfl (by decide) rfl rfl rfl rfl hl.1 rfl (Nat.le_of_ble_eq_true rfl) dX4_incident_33 ⟨Nat.zero_le _, Nat.zero_le _⟩ (fun H locs hP hD hS => ?_)
      exact xw_vret hx hb hr hlocks hS (by rw [incMs, if_neg (by rw [bI_f h_21]; decide)]; exact hP) dX4_incident_36
    · skip
      have h_21 : ¬ ((bI (bIn i1 || false || false) : Int32) = (0 : Int32)) := h_21
      exact xw_vret hx hb hr hlocks hS (by rw [incMs, if_pos (bI_t h_21)]; exact hP) dX4_incident_24
  refine lv_aload_n hx hb dX4_incident_0 rfl (lv_at hl 0 rfl) ?_
  refine lv_iload_n hx hb dX4_incident_1 rfl (lv_at hl 1 rfl) ?_
  refine lv_iconst (v := nI 0) hx hb dX4_incident_2 (by decide) ?_
  refine lv_bipush (v := nI 19) hx hb dX4_incident_3 (by decide) ?_
  refine xrS (As := [.int (i1), .int (nI 0), .int (nI 19)]) (rest := [.ref (a 0)]) hx hb hml hown ht hN kS_X4_57 (r_X4_in l D i1 (nI 0) (nI 19)) ⟨by decide, by decide⟩ (fun k q h => by simp at h) (hK.sub (tys' := []) [] rfl) rfl hl.1 rfl (Nat.le_of_ble_eq_true rfl) dX4_incident_5 ⟨Nat.zero_le _, Nat.zero_le _⟩ ?_
  refine lv_if_ne (tgt := 15) hx hb dX4_incident_8 (by decide) (fun h_8 => ?_) (fun h_8 => ?_)
  · skip
    have h_8 : ¬ ((bI (inI i1 (nI 0) (nI 19)) : Int32) = (0 : Int32)) := h_8
    refine lv_iconst (v := nI 0) hx hb dX4_incident_15 (by decide) ?_
    refine xtop (y := bI (bIn i1)) (bI_0 (by unfold bIn; rw [bI_t h_8]; rfl)) ?_
    exact J16 _ _ hP hD hS ls (lv_sub hl [0, 1, 2] rfl)
  · skip
    have h_8 : (bI (inI i1 (nI 0) (nI 19)) : Int32) = (0 : Int32) := h_8
    refine lv_iconst (v := nI 1) hx hb dX4_incident_11 (by decide) ?_
    refine lv_goto (tgt := 16) hx hb dX4_incident_12 (by decide) ?_
    refine xtop (y := bI (bIn i1)) (bI_1 (by unfold bIn; rw [bI_f h_8]; rfl)) ?_
    exact J16 _ _ hP hD hS ls (lv_sub hl [0, 1, 2] rfl)
set_option maxHeartbeats 4000000 in
set_option maxRecDepth 100000 in
theorem r_X4_answer (l : Launch) (D : va_G) (a : Nat → Nat) (cI cZ : ClassId) (M : MS) (hO : mOk (sK M)) (hR : rOk (sR M)) (hT0 : nT (sN M) + 1200 < 2 ^ 30) (i1 : Int32) (b1 : Bool) : xWR l yX4_answer cX4_answer 4 none (xrm 3 72) [.ref (a 0), .int (i1), .int (bI b1)] D (wM a cI cZ M) (tyL cI cZ) none (wM a cI cZ (ansMs M i1 b1)) := by
  refine xWR.of (by decide +kernel) (Nat.le_of_ble_eq_true rfl) ?_
  intro p e s m args below meth cd hx hb hr hml hown hlocks ht hN hP hK hD hS ls hl
  have hl : lv_has ls 4 [(0, .ref (a 0)), (1, .int (i1)), (2, .int (bI b1))] := hl
  have hown : s.vm.findClass RX4 = some m.cls := hown
  have hn := hO.1
  have J45 : ∀ (H : Heap) (locs : List Loc), va_P D vwCl (wM a cI cZ M) H → va_D (xA (wM a cI cZ M)) (wM a cI cZ M) → va_S (xA (wM a cI cZ M)) s.heap H locs → ∀ ls : Array Slot, lv_has ls 4 [(0, .ref (a 0)), (1, .int (i1)), (2, .int (bI b1)), (3, .int (bI (bCl (mN (sK M)) i1)))] → W p l e (xrm 3 72) s m args below meth cd H locs 0 0 (MQ below (xQw none D (wM a cI cZ M) (wM a cI cZ (ansMs M i1 b1))) args s 0 0 (xA (wM a cI cZ M))) (F0 m 45 ls [.int (bI (stA (sK M) i1)), .int (bI (bCl (mN (sK M)) i1)), .ref (a 0)]) := by
    intro H locs hP hD hS ls hl
    refine lv_iconst (v := nI 0) hx hb dX4_answer_45 (by decide) ?_
    refine xwV (As := [.int (bI (bCl (mN (sK M)) i1)), .int (bI (stA (sK M) i1)), .int (nI 0)]) (rest := []) (wr := []) (ws2 := (wM a cI cZ (setE M (thrM (bCl (mN (sK M)) i1) (stA (sK M) i1) false)))) hx hb hml hown ht hN kV_X4_94 (r_X4_throwing l D a cI cZ M (bCl (mN (sK M)) i1) (stA (sK M) i1) (false)) ⟨by decide, by decide⟩ hP hD hS hK [0, 1, 2, 3, 4, 5, 6, 7, 8, 9, 10, 11, 12, 13, 14] [] [0, 1, 2, 3, 4, 5, 6, 7, 8, 9, 10, 11, 12, 13, 14] rfl rfl (by decide) (by decide) (by decide) rfl rfl (by decide) rfl rfl rfl rfl hl.1 rfl (Nat.le_of_ble_eq_true rfl) dX4_answer_46 ⟨Nat.zero_le _, Nat.zero_le _⟩ (fun H locs hP hD hS => ?_)
    refine lv_if_eq (tgt := 53) hx hb dX4_answer_49 (by decide) (fun h_49 => ?_) (fun h_49 => ?_)
    · skip
      have h_49 : (bI (bCl (mN (sK M)) i1 || stA (sK M) i1 || false) : Int32) = (0 : Int32) := h_49
      obtain ⟨ei, hi9⟩ := ix_cl hO.1 (notF (orF (bI_f h_49)).1)
      refine lv_aload_n hx hb dX4_answer_53 rfl (lv_at hl 0 rfl) ?_
      refine va_get (D := D) (ci := 4) (v := .ref (a 7)) (C := RX4) (T := TX4) (N := 18) hx hb ht inX4 hown hK hP 0 rfl rfl 9 (by decide) (ht _ wd581) (fun _ h9 => h9) rfl dX4_answer_54 ?_
      refine lv_iload_n hx hb dX4_answer_57 rfl (lv_at hl 1 rfl) ?_
      refine lv_iload_n hx hb dX4_answer_58 rfl (lv_at hl 2 rfl) ?_
      refine lv_if_eq (tgt := 66) hx hb dX4_answer_59 (by decide) (fun h_59 => ?_) (fun h_59 => ?_)
      · skip
        have h_59 : (bI b1 : Int32) = (0 : Int32) := h_59
        refine lv_iconst (v := nI 0) hx hb dX4_answer_66 (by decide) ?_
        refine xtop (y := bI b1) (by first | exact bI_0 (bI_f h_59) | exact bI_1 (bI_t h_59)) ?_
        refine xtop2 (y := nI (ix i1)) ei ?_
        refine xa_iast hx hb hK hP hD hS 7 0 (i := (ix i1)) (x := bI b1) rfl rfl (by omega) (by decide) dX4_answer_67 (fun H locs hP hD hS => ?_)
        have hP : va_P D vwCl [(a 0, .inr (4, [.int (sE (setE M (thrM (bCl (mN (sK M)) i1) (stA (sK M) i1) false))), .int (nI (sC M)), .int (nI (mN (sK M))), .ref (a 1), .ref (a 2), .ref (a 3), .ref (a 4), .ref (a 5), .ref (a 6), .ref (a 7), .ref (a 8), .ref (a 9), .ref (a 10), .ref (a 11), .ref (a 12), .ref (a 13), .int (nI (nT (sN M))), .ref (a 14)])), (a 1, .inl (cI, 100, .inl (mKd (sK M)))), (a 2, .inl (cI, 100, .inl (mPc (sK M)))), (a 3, .inl (cI, 100, .inl (mSd (sK M)))), (a 4, .inl (cI, 100, .inl (mFr (sK M)))), (a 5, .inl (cI, 100, .inl (mTo (sK M)))), (a 6, .inl (cI, 100, .inl (mNu (sK M)))), (a 7, .inl (cI, 100, .inl (upd (mAn (sK M)) (ix i1) (bI b1)))), (a 8, .inl (cI, 100, .inl (mLi (sK M)))), (a 9, .inl (cI, 100, .inl (mWd (sK M)))), (a 10, .inl (cZ, 20, .inl (mOp (sK M)))), (a 11, .inl (cI, 10, .inl (nF (rL (sR M))))), (a 12, .inl (cI, 120, .inl (nF (rP (sR M))))), (a 13, .inl (cZ, 120, .inl (bF (sW M)))), (a 14, .inl (cI, 500, .inl (nRw (sN M))))] H := hP
        have hD : va_D (xA (wM a cI cZ M)) [(a 0, .inr (4, [.int (sE (setE M (thrM (bCl (mN (sK M)) i1) (stA (sK M) i1) false))), .int (nI (sC M)), .int (nI (mN (sK M))), .ref (a 1), .ref (a 2), .ref (a 3), .ref (a 4), .ref (a 5), .ref (a 6), .ref (a 7), .ref (a 8), .ref (a 9), .ref (a 10), .ref (a 11), .ref (a 12), .ref (a 13), .int (nI (nT (sN M))), .ref (a 14)])), (a 1, .inl (cI, 100, .inl (mKd (sK M)))), (a 2, .inl (cI, 100, .inl (mPc (sK M)))), (a 3, .inl (cI, 100, .inl (mSd (sK M)))), (a 4, .inl (cI, 100, .inl (mFr (sK M)))), (a 5, .inl (cI, 100, .inl (mTo (sK M)))), (a 6, .inl (cI, 100, .inl (mNu (sK M)))), (a 7, .inl (cI, 100, .inl (upd (mAn (sK M)) (ix i1) (bI b1)))), (a 8, .inl (cI, 100, .inl (mLi (sK M)))), (a 9, .inl (cI, 100, .inl (mWd (sK M)))), (a 10, .inl (cZ, 20, .inl (mOp (sK M)))), (a 11, .inl (cI, 10, .inl (nF (rL (sR M))))), (a 12, .inl (cI, 120, .inl (nF (rP (sR M))))), (a 13, .inl (cZ, 120, .inl (bF (sW M)))), (a 14, .inl (cI, 500, .inl (nRw (sN M))))] := hD
        refine lv_aload_n hx hb dX4_answer_68 rfl (lv_at hl 0 rfl) ?_
        refine xwV (As := []) (rest := []) (wr := []) (ws2 := (wM a cI cZ (lookM (setK M (anM (sK M) (ix i1) (bI b1)) (thrM (bCl (mN (sK M)) i1) (stA (sK M) i1) false))))) hx hb hml hown ht hN kV_X4_98 (r_X4_look l D a cI cZ (setK M (anM (sK M) (ix i1) (bI b1)) (thrM (bCl (mN (sK M)) i1) (stA (sK M) i1) false)) (hO) hR (show nT (sN M) + 1200 < 2 ^ 31 by omega)) ⟨by decide, by decide⟩ hP hD hS hK [0, 1, 2, 3, 4, 5, 6, 7, 8, 9, 10, 11, 12, 13, 14] [] [0, 1, 2, 3, 4, 5, 6, 7, 8, 9, 10, 11, 12, 13, 14] rfl rfl (by decide) (by decide) (by decide) rfl rfl (by decide) rfl rfl rfl rfl hl.1 rfl (Nat.le_of_ble_eq_true rfl) dX4_answer_69 ⟨Nat.zero_le _, Nat.zero_le _⟩ (fun H locs hP hD hS => ?_)
        exact xw_vret hx hb hr hlocks hS (by rw [ansMs, if_neg (by rw [bI_f h_49]; decide)]; exact hP) dX4_answer_72
      · skip
        have h_59 : ¬ ((bI b1 : Int32) = (0 : Int32)) := h_59
        refine lv_iconst (v := nI 1) hx hb dX4_answer_62 (by decide) ?_
        refine lv_goto (tgt := 67) hx hb dX4_answer_63 (by decide) ?_
        refine xtop (y := bI b1) (by first | exact bI_0 (bI_f h_59) | exact bI_1 (bI_t h_59)) ?_
        refine xtop2 (y := nI (ix i1)) ei ?_
        refine xa_iast hx hb hK hP hD hS 7 0 (i := (ix i1)) (x := bI b1) rfl rfl (by omega) (by decide) dX4_answer_67 (fun H locs hP hD hS => ?_)
        have hP : va_P D vwCl [(a 0, .inr (4, [.int (sE (setE M (thrM (bCl (mN (sK M)) i1) (stA (sK M) i1) false))), .int (nI (sC M)), .int (nI (mN (sK M))), .ref (a 1), .ref (a 2), .ref (a 3), .ref (a 4), .ref (a 5), .ref (a 6), .ref (a 7), .ref (a 8), .ref (a 9), .ref (a 10), .ref (a 11), .ref (a 12), .ref (a 13), .int (nI (nT (sN M))), .ref (a 14)])), (a 1, .inl (cI, 100, .inl (mKd (sK M)))), (a 2, .inl (cI, 100, .inl (mPc (sK M)))), (a 3, .inl (cI, 100, .inl (mSd (sK M)))), (a 4, .inl (cI, 100, .inl (mFr (sK M)))), (a 5, .inl (cI, 100, .inl (mTo (sK M)))), (a 6, .inl (cI, 100, .inl (mNu (sK M)))), (a 7, .inl (cI, 100, .inl (upd (mAn (sK M)) (ix i1) (bI b1)))), (a 8, .inl (cI, 100, .inl (mLi (sK M)))), (a 9, .inl (cI, 100, .inl (mWd (sK M)))), (a 10, .inl (cZ, 20, .inl (mOp (sK M)))), (a 11, .inl (cI, 10, .inl (nF (rL (sR M))))), (a 12, .inl (cI, 120, .inl (nF (rP (sR M))))), (a 13, .inl (cZ, 120, .inl (bF (sW M)))), (a 14, .inl (cI, 500, .inl (nRw (sN M))))] H := hP
        have hD : va_D (xA (wM a cI cZ M)) [(a 0, .inr (4, [.int (sE (setE M (thrM (bCl (mN (sK M)) i1) (stA (sK M) i1) false))), .int (nI (sC M)), .int (nI (mN (sK M))), .ref (a 1), .ref (a 2), .ref (a 3), .ref (a 4), .ref (a 5), .ref (a 6), .ref (a 7), .ref (a 8), .ref (a 9), .ref (a 10), .ref (a 11), .ref (a 12), .ref (a 13), .int (nI (nT (sN M))), .ref (a 14)])), (a 1, .inl (cI, 100, .inl (mKd (sK M)))), (a 2, .inl (cI, 100, .inl (mPc (sK M)))), (a 3, .inl (cI, 100, .inl (mSd (sK M)))), (a 4, .inl (cI, 100, .inl (mFr (sK M)))), (a 5, .inl (cI, 100, .inl (mTo (sK M)))), (a 6, .inl (cI, 100, .inl (mNu (sK M)))), (a 7, .inl (cI, 100, .inl (upd (mAn (sK M)) (ix i1) (bI b1)))), (a 8, .inl (cI, 100, .inl (mLi (sK M)))), (a 9, .inl (cI, 100, .inl (mWd (sK M)))), (a 10, .inl (cZ, 20, .inl (mOp (sK M)))), (a 11, .inl (cI, 10, .inl (nF (rL (sR M))))), (a 12, .inl (cI, 120, .inl (nF (rP (sR M))))), (a 13, .inl (cZ, 120, .inl (bF (sW M)))), (a 14, .inl (cI, 500, .inl (nRw (sN M))))] := hD
        refine lv_aload_n hx hb dX4_answer_68 rfl (lv_at hl 0 rfl) ?_
        refine xwV (As := []) (rest := []) (wr := []) (ws2 := (wM a cI cZ (lookM (setK M (anM (sK M) (ix i1) (bI b1)) (thrM (bCl (mN (sK M)) i1) (stA (sK M) i1) false))))) hx hb hml hown ht hN kV_X4_98 (r_X4_look l D a cI cZ (setK M (anM (sK M) (ix i1) (bI b1)) (thrM (bCl (mN (sK M)) i1) (stA (sK M) i1) false)) (hO) hR (show nT (sN M) + 1200 < 2 ^ 31 by omega)) ⟨by decide, by decide⟩ hP hD hS hK [0, 1, 2, 3, 4, 5, 6, 7, 8, 9, 10, 11, 12, 13, 14] [] [0, 1, 2, 3, 4, 5, 6, 7, 8, 9, 10, 11, 12, 13, 14] rfl rfl (by decide) (by decide) (by decide) rfl rfl (by decide) rfl rfl rfl rfl hl.1 rfl (Nat.le_of_ble_eq_true rfl) dX4_answer_69 ⟨Nat.zero_le _, Nat.zero_le _⟩ (fun H locs hP hD hS => ?_)
        exact xw_vret hx hb hr hlocks hS (by rw [ansMs, if_neg (by rw [bI_f h_49]; decide)]; exact hP) dX4_answer_72
    · skip
      have h_49 : ¬ ((bI (bCl (mN (sK M)) i1 || stA (sK M) i1 || false) : Int32) = (0 : Int32)) := h_49
      exact xw_vret hx hb hr hlocks hS (by rw [ansMs, if_pos (bI_t h_49)]; exact hP) dX4_answer_52
  have J13 : ∀ (H : Heap) (locs : List Loc), va_P D vwCl (wM a cI cZ M) H → va_D (xA (wM a cI cZ M)) (wM a cI cZ M) → va_S (xA (wM a cI cZ M)) s.heap H locs → ∀ ls : Array Slot, lv_has ls 4 [(0, .ref (a 0)), (1, .int (i1)), (2, .int (bI b1))] → W p l e (xrm 3 72) s m args below meth cd H locs 0 0 (MQ below (xQw none D (wM a cI cZ M) (wM a cI cZ (ansMs M i1 b1))) args s 0 0 (xA (wM a cI cZ M))) (F0 m 13 ls [.int (bI (bCl (mN (sK M)) i1))]) := by
    intro H locs hP hD hS ls hl
    refine lv_istore_n (lv' := [(3, .int (bI (bCl (mN (sK M)) i1))), (0, .ref (a 0)), (1, .int (i1)), (2, .int (bI b1))]) hx hb dX4_answer_13 rfl hl (by decide) rfl (fun ls hl => ?_)
    refine lv_aload_n hx hb dX4_answer_14 rfl (lv_at hl 1 rfl) ?_
    refine lv_iload_n hx hb dX4_answer_15 rfl (lv_at hl 0 rfl) ?_
    refine lv_iload_n hx hb dX4_answer_16 rfl (lv_at hl 0 rfl) ?_
    refine lv_if_ne (tgt := 44) hx hb dX4_answer_17 (by decide) (fun h_17 => ?_) (fun h_17 => ?_)
    · skip
      have h_17 : ¬ ((bI (bCl (mN (sK M)) i1) : Int32) = (0 : Int32)) := h_17
      refine lv_iconst (v := nI 0) hx hb dX4_answer_44 (by decide) ?_
      refine xtop (y := bI (stA (sK M) i1)) (bI_0 (by unfold stA; first | (rw [bI_t h_17]; rfl) | (rw [decide_eq_true h_27, decide_eq_true h_37, Bool.and_true, Bool.not_true, Bool.and_false]))) ?_
      exact J45 _ _ hP hD hS ls (lv_sub hl [1, 2, 3, 0] rfl)
    · skip
      have h_17 : (bI (bCl (mN (sK M)) i1) : Int32) = (0 : Int32) := h_17
      obtain ⟨ei, hi9⟩ := ix_cl hO.1 (notF (bI_f h_17))
      refine lv_aload_n hx hb dX4_answer_20 rfl (lv_at hl 1 rfl) ?_
      refine va_get (D := D) (ci := 4) (v := .ref (a 1)) (C := RX4) (T := TX4) (N := 18) hx hb ht inX4 hown hK hP 0 rfl rfl 3 (by decide) (ht _ wd575) (fun _ h9 => h9) rfl dX4_answer_21 ?_
      refine lv_iload_n hx hb dX4_answer_24 rfl (lv_at hl 2 rfl) ?_
      refine xtop (y := nI (ix i1)) ei ?_
      refine xa_iald hx hb hK hP 1 0 (i := (ix i1)) rfl rfl (by omega) (by decide) dX4_answer_25 ?_
      refine lv_iconst (v := nI 1) hx hb dX4_answer_26 (by decide) ?_
      refine lv_icmp_ne (tgt := 40) hx hb dX4_answer_27 (by decide) (fun h_27 => ?_) (fun h_27 => ?_)
      · skip
        have h_27 : ¬ (((mKd (sK M)) (ix i1) : Int32) = (nI 1 : Int32)) := h_27
        refine lv_iconst (v := nI 1) hx hb dX4_answer_40 (by decide) ?_
        refine lv_goto (tgt := 45) hx hb dX4_answer_41 (by decide) ?_
        refine xtop (y := bI (stA (sK M) i1)) (bI_1 (by unfold stA; rw [bI_f h_17]; first | (rw [decide_eq_false h_27]; rfl) | (rw [decide_eq_false h_37, Bool.and_false]; rfl))) ?_
        exact J45 _ _ hP hD hS ls (lv_sub hl [1, 2, 3, 0] rfl)
      · skip
        have h_27 : ((mKd (sK M)) (ix i1) : Int32) = (nI 1 : Int32) := h_27
        refine lv_aload_n hx hb dX4_answer_30 rfl (lv_at hl 1 rfl) ?_
        refine va_get (D := D) (ci := 4) (v := .ref (a 7)) (C := RX4) (T := TX4) (N := 18) hx hb ht inX4 hown hK hP 0 rfl rfl 9 (by decide) (ht _ wd581) (fun _ h9 => h9) rfl dX4_answer_31 ?_
        refine lv_iload_n hx hb dX4_answer_34 rfl (lv_at hl 2 rfl) ?_
        refine xtop (y := nI (ix i1)) ei ?_
        refine xa_iald hx hb hK hP 7 0 (i := (ix i1)) rfl rfl (by omega) (by decide) dX4_answer_35 ?_
        refine lv_iconst (v := (-1 : Int32)) hx hb dX4_answer_36 (by decide) ?_
        refine lv_icmp_eq (tgt := 44) hx hb dX4_answer_37 (by decide) (fun h_37 => ?_) (fun h_37 => ?_)
        · skip
          have h_37 : ((mAn (sK M)) (ix i1) : Int32) = ((-1 : Int32) : Int32) := h_37
          refine lv_iconst (v := nI 0) hx hb dX4_answer_44 (by decide) ?_
          refine xtop (y := bI (stA (sK M) i1)) (bI_0 (by unfold stA; first | (rw [bI_t h_17]; rfl) | (rw [decide_eq_true h_27, decide_eq_true h_37, Bool.and_true, Bool.not_true, Bool.and_false]))) ?_
          exact J45 _ _ hP hD hS ls (lv_sub hl [1, 2, 3, 0] rfl)
        · skip
          have h_37 : ¬ (((mAn (sK M)) (ix i1) : Int32) = ((-1 : Int32) : Int32)) := h_37
          refine lv_iconst (v := nI 1) hx hb dX4_answer_40 (by decide) ?_
          refine lv_goto (tgt := 45) hx hb dX4_answer_41 (by decide) ?_
          refine xtop (y := bI (stA (sK M) i1)) (bI_1 (by unfold stA; rw [bI_f h_17]; first | (rw [decide_eq_false h_27]; rfl) | (rw [decide_eq_false h_37, Bool.and_false]; rfl))) ?_
          exact J45 _ _ hP hD hS ls (lv_sub hl [1, 2, 3, 0] rfl)
  refine lv_aload_n hx hb dX4_answer_0 rfl (lv_at hl 0 rfl) ?_
  refine lv_iload_n hx hb dX4_answer_1 rfl (lv_at hl 1 rfl) ?_
  refine xrV (As := [.int (i1)]) (rest := []) hx hb hml hown ht hN kV_X4_101 (r_X4_isClosure l D a cI cZ M i1) ⟨by decide, by decide⟩ hP hK rfl rfl rfl rfl hl.1 rfl (Nat.le_of_ble_eq_true rfl) dX4_answer_2 ⟨Nat.zero_le _, Nat.zero_le _⟩ ?_
  refine lv_if_ne (tgt := 12) hx hb dX4_answer_5 (by decide) (fun h_5 => ?_) (fun h_5 => ?_)
  · skip
    have h_5 : ¬ ((bI (inI i1 (nI 0) (nI (mN (sK M)) - nI 1)) : Int32) = (0 : Int32)) := h_5
    refine lv_iconst (v := nI 0) hx hb dX4_answer_12 (by decide) ?_
    refine xtop (y := bI (bCl (mN (sK M)) i1)) (bI_0 (by unfold bCl; rw [bI_t h_5]; rfl)) ?_
    exact J13 _ _ hP hD hS ls (lv_sub hl [0, 1, 2] rfl)
  · skip
    have h_5 : (bI (inI i1 (nI 0) (nI (mN (sK M)) - nI 1)) : Int32) = (0 : Int32) := h_5
    refine lv_iconst (v := nI 1) hx hb dX4_answer_8 (by decide) ?_
    refine lv_goto (tgt := 13) hx hb dX4_answer_9 (by decide) ?_
    refine xtop (y := bI (bCl (mN (sK M)) i1)) (bI_1 (by unfold bCl; rw [bI_f h_5]; rfl)) ?_
    exact J13 _ _ hP hD hS ls (lv_sub hl [0, 1, 2] rfl)
set_option maxHeartbeats 4000000 in
set_option maxRecDepth 100000 in
theorem r_X4_lift (l : Launch) (D : va_G) (a : Nat → Nat) (cI cZ : ClassId) (M : MS) (hO : mOk (sK M)) (hR : rOk (sR M)) (hT0 : nT (sN M) + 1200 < 2 ^ 30) (i1 v1 : Int32) : xWR l yX4_lift cX4_lift 5 (some .boolean) (xrm 3 72) [.ref (a 0), .int (i1), .int (v1)] D (wM a cI cZ M) (tyL cI cZ) (some (.int (liftMr M i1 v1))) (wM a cI cZ (liftMs M i1 v1)) := by
  refine xWR.of (by decide +kernel) (Nat.le_of_ble_eq_true rfl) ?_
  intro p e s m args below meth cd hx hb hr hml hown hlocks ht hN hP hK hD hS ls hl
  have hl : lv_has ls 5 [(0, .ref (a 0)), (1, .int (i1)), (2, .int (v1))] := hl
  have hown : s.vm.findClass RX4 = some m.cls := hown
  have hn := hO.1
  have J96 : ∀ (H : Heap) (locs : List Loc), va_P D vwCl (wM a cI cZ M) H → va_D (xA (wM a cI cZ M)) (wM a cI cZ M) → va_S (xA (wM a cI cZ M)) s.heap H locs → ∀ ls : Array Slot, lv_has ls 5 [(0, .ref (a 0)), (1, .int (i1)), (2, .int (v1)), (3, .int (bI (bCl (mN (sK M)) i1))), (4, .int (bI (ovL (sK M) (sC M) i1)))] → W p l e (xrm 3 72) s m args below meth cd H locs 0 0 (MQ below (xQw (some (.int (liftMr M i1 v1))) D (wM a cI cZ M) (wM a cI cZ (liftMs M i1 v1))) args s 0 0 (xA (wM a cI cZ M))) (F0 m 96 ls [.int (bI (bBy v1)), .int (bI (bCl (mN (sK M)) i1)), .ref (a 0)]) := by
    intro H locs hP hD hS ls hl
    refine lv_iload hx hb dX4_lift_96 (lv_at hl 4 rfl) ?_
    refine xwV (As := [.int (bI (bCl (mN (sK M)) i1)), .int (bI (bBy v1)), .int (bI (ovL (sK M) (sC M) i1))]) (rest := []) (wr := []) (ws2 := (wM a cI cZ (setE M (thL M i1 v1)))) hx hb hml hown ht hN kV_X4_94 (r_X4_throwing l D a cI cZ M (bCl (mN (sK M)) i1) (bBy v1) (ovL (sK M) (sC M) i1)) ⟨by decide, by decide⟩ hP hD hS hK [0, 1, 2, 3, 4, 5, 6, 7, 8, 9, 10, 11, 12, 13, 14] [] [0, 1, 2, 3, 4, 5, 6, 7, 8, 9, 10, 11, 12, 13, 14] rfl rfl (by decide) (by decide) (by decide) rfl rfl (by decide) rfl rfl rfl rfl hl.1 rfl (Nat.le_of_ble_eq_true rfl) dX4_lift_98 ⟨Nat.zero_le _, Nat.zero_le _⟩ (fun H locs hP hD hS => ?_)
    refine lv_if_eq (tgt := 106) hx hb dX4_lift_101 (by decide) (fun h_101 => ?_) (fun h_101 => ?_)
    · skip
      have h_101 : (bI (bCl (mN (sK M)) i1 || bBy v1 || ovL (sK M) (sC M) i1) : Int32) = (0 : Int32) := h_101
      obtain ⟨ei, hi9⟩ := ix_cl hO.1 (notF (orF3 (bI_f h_101)).1)
      have hno : ¬ noL M i1 v1 = true := by rw [show noL M i1 v1 = false from bI_f h_101]; decide
      refine lv_aload_n hx hb dX4_lift_106 rfl (lv_at hl 0 rfl) ?_
      refine va_get (D := D) (ci := 4) (v := .ref (a 1)) (C := RX4) (T := TX4) (N := 18) hx hb ht inX4 hown hK hP 0 rfl rfl 3 (by decide) (ht _ wd575) (fun _ h9 => h9) rfl dX4_lift_107 ?_
      refine lv_iload_n hx hb dX4_lift_110 rfl (lv_at hl 1 rfl) ?_
      refine xtop (y := nI (ix i1)) ei ?_
      refine xa_iald hx hb hK hP 1 0 (i := (ix i1)) rfl rfl (by omega) (by decide) dX4_lift_111 ?_
      refine lv_iconst (v := nI 3) hx hb dX4_lift_112 (by decide) ?_
      refine lv_icmp_ne (tgt := 145) hx hb dX4_lift_113 (by decide) (fun h_113 => ?_) (fun h_113 => ?_)
      · skip
        have h_113 : ¬ (((mKd (sK M)) (ix i1) : Int32) = (nI 3 : Int32)) := h_113
        refine lv_aload_n hx hb dX4_lift_145 rfl (lv_at hl 0 rfl) ?_
        refine va_get (D := D) (ci := 4) (v := .ref (a 8)) (C := RX4) (T := TX4) (N := 18) hx hb ht inX4 hown hK hP 0 rfl rfl 10 (by decide) (ht _ wd582) (fun _ h9 => h9) rfl dX4_lift_146 ?_
        refine lv_iload_n hx hb dX4_lift_149 rfl (lv_at hl 1 rfl) ?_
        refine lv_aload_n hx hb dX4_lift_150 rfl (lv_at hl 0 rfl) ?_
        refine va_get (D := D) (ci := 4) (v := .int (nI (sC M))) (C := RX4) (T := TX4) (N := 18) hx hb ht inX4 hown hK hP 0 rfl rfl 1 (by decide) (ht _ wd573) (fun _ h9 => h9) rfl dX4_lift_151 ?_
        refine xtop2 (y := nI (ix i1)) ei ?_
        refine xa_iast hx hb hK hP hD hS 8 0 (i := (ix i1)) (x := nI (sC M)) rfl rfl (by omega) (by decide) dX4_lift_154 (fun H locs hP hD hS => ?_)
        have hP : va_P D vwCl [(a 0, .inr (4, [.int (sE (setE M (thL M i1 v1))), .int (nI (sC M)), .int (nI (mN (sK M))), .ref (a 1), .ref (a 2), .ref (a 3), .ref (a 4), .ref (a 5), .ref (a 6), .ref (a 7), .ref (a 8), .ref (a 9), .ref (a 10), .ref (a 11), .ref (a 12), .ref (a 13), .int (nI (nT (sN M))), .ref (a 14)])), (a 1, .inl (cI, 100, .inl (mKd (sK M)))), (a 2, .inl (cI, 100, .inl (mPc (sK M)))), (a 3, .inl (cI, 100, .inl (mSd (sK M)))), (a 4, .inl (cI, 100, .inl (mFr (sK M)))), (a 5, .inl (cI, 100, .inl (mTo (sK M)))), (a 6, .inl (cI, 100, .inl (mNu (sK M)))), (a 7, .inl (cI, 100, .inl (mAn (sK M)))), (a 8, .inl (cI, 100, .inl (upd (mLi (sK M)) (ix i1) (nI (sC M))))), (a 9, .inl (cI, 100, .inl (mWd (sK M)))), (a 10, .inl (cZ, 20, .inl (mOp (sK M)))), (a 11, .inl (cI, 10, .inl (nF (rL (sR M))))), (a 12, .inl (cI, 120, .inl (nF (rP (sR M))))), (a 13, .inl (cZ, 120, .inl (bF (sW M)))), (a 14, .inl (cI, 500, .inl (nRw (sN M))))] H := hP
        have hD : va_D (xA (wM a cI cZ M)) [(a 0, .inr (4, [.int (sE (setE M (thL M i1 v1))), .int (nI (sC M)), .int (nI (mN (sK M))), .ref (a 1), .ref (a 2), .ref (a 3), .ref (a 4), .ref (a 5), .ref (a 6), .ref (a 7), .ref (a 8), .ref (a 9), .ref (a 10), .ref (a 11), .ref (a 12), .ref (a 13), .int (nI (nT (sN M))), .ref (a 14)])), (a 1, .inl (cI, 100, .inl (mKd (sK M)))), (a 2, .inl (cI, 100, .inl (mPc (sK M)))), (a 3, .inl (cI, 100, .inl (mSd (sK M)))), (a 4, .inl (cI, 100, .inl (mFr (sK M)))), (a 5, .inl (cI, 100, .inl (mTo (sK M)))), (a 6, .inl (cI, 100, .inl (mNu (sK M)))), (a 7, .inl (cI, 100, .inl (mAn (sK M)))), (a 8, .inl (cI, 100, .inl (upd (mLi (sK M)) (ix i1) (nI (sC M))))), (a 9, .inl (cI, 100, .inl (mWd (sK M)))), (a 10, .inl (cZ, 20, .inl (mOp (sK M)))), (a 11, .inl (cI, 10, .inl (nF (rL (sR M))))), (a 12, .inl (cI, 120, .inl (nF (rP (sR M))))), (a 13, .inl (cZ, 120, .inl (bF (sW M)))), (a 14, .inl (cI, 500, .inl (nRw (sN M))))] := hD
        refine lv_aload_n hx hb dX4_lift_155 rfl (lv_at hl 0 rfl) ?_
        refine xwV (As := []) (rest := []) (wr := []) (ws2 := (wM a cI cZ (lookM (setK M (liM (sK M) (ix i1) (nI (sC M))) (thL M i1 v1))))) hx hb hml hown ht hN kV_X4_98 (r_X4_look l D a cI cZ (setK M (liM (sK M) (ix i1) (nI (sC M))) (thL M i1 v1)) (hO) hR (show nT (sN M) + 1200 < 2 ^ 31 by omega)) ⟨by decide, by decide⟩ hP hD hS hK [0, 1, 2, 3, 4, 5, 6, 7, 8, 9, 10, 11, 12, 13, 14] [] [0, 1, 2, 3, 4, 5, 6, 7, 8, 9, 10, 11, 12, 13, 14] rfl rfl (by decide) (by decide) (by decide) rfl rfl (by decide) rfl rfl rfl rfl hl.1 rfl (Nat.le_of_ble_eq_true rfl) dX4_lift_156 ⟨Nat.zero_le _, Nat.zero_le _⟩ (fun H locs hP hD hS => ?_)
        refine lv_iconst (v := nI 1) hx hb dX4_lift_159 (by decide) ?_
        exact xw_zret (v := nI 1) hx hb hr hlocks rfl hS (by rw [liftMs, if_neg hno, if_neg (show ¬ keepW (sK M) i1 v1 = true by unfold keepW; first | (rw [decide_eq_false h_113, Bool.false_and]; decide) | (rw [decide_eq_false h_123, decide_eq_false h_133, Bool.or_self, Bool.and_false]; decide))]; exact hP) (by rw [liftMr, if_neg hno, if_neg (show ¬ keepW (sK M) i1 v1 = true by unfold keepW; first | (rw [decide_eq_false h_113, Bool.false_and]; decide) | (rw [decide_eq_false h_123, decide_eq_false h_133, Bool.or_self, Bool.and_false]; decide))]) dX4_lift_160
      · skip
        have h_113 : ((mKd (sK M)) (ix i1) : Int32) = (nI 3 : Int32) := h_113
        refine lv_aload_n hx hb dX4_lift_116 rfl (lv_at hl 0 rfl) ?_
        refine va_get (D := D) (ci := 4) (v := .ref (a 9)) (C := RX4) (T := TX4) (N := 18) hx hb ht inX4 hown hK hP 0 rfl rfl 11 (by decide) (ht _ wd583) (fun _ h9 => h9) rfl dX4_lift_117 ?_
        refine lv_iload_n hx hb dX4_lift_120 rfl (lv_at hl 1 rfl) ?_
        refine xtop (y := nI (ix i1)) ei ?_
        refine xa_iald hx hb hK hP 9 0 (i := (ix i1)) rfl rfl (by omega) (by decide) dX4_lift_121 ?_
        refine lv_iconst (v := (-1 : Int32)) hx hb dX4_lift_122 (by decide) ?_
        refine lv_icmp_eq (tgt := 136) hx hb dX4_lift_123 (by decide) (fun h_123 => ?_) (fun h_123 => ?_)
        · skip
          have h_123 : ((mWd (sK M)) (ix i1) : Int32) = ((-1 : Int32) : Int32) := h_123
          refine lv_aload_n hx hb dX4_lift_136 rfl (lv_at hl 0 rfl) ?_
          refine va_get (D := D) (ci := 4) (v := .ref (a 9)) (C := RX4) (T := TX4) (N := 18) hx hb ht inX4 hown hK hP 0 rfl rfl 11 (by decide) (ht _ wd583) (fun _ h9 => h9) rfl dX4_lift_137 ?_
          refine lv_iload_n hx hb dX4_lift_140 rfl (lv_at hl 1 rfl) ?_
          refine lv_iload_n hx hb dX4_lift_141 rfl (lv_at hl 2 rfl) ?_
          refine xtop2 (y := nI (ix i1)) ei ?_
          refine xa_iast hx hb hK hP hD hS 9 0 (i := (ix i1)) (x := v1) rfl rfl (by omega) (by decide) dX4_lift_142 (fun H locs hP hD hS => ?_)
          have hP : va_P D vwCl [(a 0, .inr (4, [.int (sE (setE M (thL M i1 v1))), .int (nI (sC M)), .int (nI (mN (sK M))), .ref (a 1), .ref (a 2), .ref (a 3), .ref (a 4), .ref (a 5), .ref (a 6), .ref (a 7), .ref (a 8), .ref (a 9), .ref (a 10), .ref (a 11), .ref (a 12), .ref (a 13), .int (nI (nT (sN M))), .ref (a 14)])), (a 1, .inl (cI, 100, .inl (mKd (sK M)))), (a 2, .inl (cI, 100, .inl (mPc (sK M)))), (a 3, .inl (cI, 100, .inl (mSd (sK M)))), (a 4, .inl (cI, 100, .inl (mFr (sK M)))), (a 5, .inl (cI, 100, .inl (mTo (sK M)))), (a 6, .inl (cI, 100, .inl (mNu (sK M)))), (a 7, .inl (cI, 100, .inl (mAn (sK M)))), (a 8, .inl (cI, 100, .inl (mLi (sK M)))), (a 9, .inl (cI, 100, .inl (upd (mWd (sK M)) (ix i1) v1))), (a 10, .inl (cZ, 20, .inl (mOp (sK M)))), (a 11, .inl (cI, 10, .inl (nF (rL (sR M))))), (a 12, .inl (cI, 120, .inl (nF (rP (sR M))))), (a 13, .inl (cZ, 120, .inl (bF (sW M)))), (a 14, .inl (cI, 500, .inl (nRw (sN M))))] H := hP
          have hD : va_D (xA (wM a cI cZ M)) [(a 0, .inr (4, [.int (sE (setE M (thL M i1 v1))), .int (nI (sC M)), .int (nI (mN (sK M))), .ref (a 1), .ref (a 2), .ref (a 3), .ref (a 4), .ref (a 5), .ref (a 6), .ref (a 7), .ref (a 8), .ref (a 9), .ref (a 10), .ref (a 11), .ref (a 12), .ref (a 13), .int (nI (nT (sN M))), .ref (a 14)])), (a 1, .inl (cI, 100, .inl (mKd (sK M)))), (a 2, .inl (cI, 100, .inl (mPc (sK M)))), (a 3, .inl (cI, 100, .inl (mSd (sK M)))), (a 4, .inl (cI, 100, .inl (mFr (sK M)))), (a 5, .inl (cI, 100, .inl (mTo (sK M)))), (a 6, .inl (cI, 100, .inl (mNu (sK M)))), (a 7, .inl (cI, 100, .inl (mAn (sK M)))), (a 8, .inl (cI, 100, .inl (mLi (sK M)))), (a 9, .inl (cI, 100, .inl (upd (mWd (sK M)) (ix i1) v1))), (a 10, .inl (cZ, 20, .inl (mOp (sK M)))), (a 11, .inl (cI, 10, .inl (nF (rL (sR M))))), (a 12, .inl (cI, 120, .inl (nF (rP (sR M))))), (a 13, .inl (cZ, 120, .inl (bF (sW M)))), (a 14, .inl (cI, 500, .inl (nRw (sN M))))] := hD
          refine lv_iconst (v := nI 0) hx hb dX4_lift_143 (by decide) ?_
          exact xw_zret (v := nI 0) hx hb hr hlocks rfl hS (by rw [liftMs, if_neg hno, if_pos (show keepW (sK M) i1 v1 = true by unfold keepW; rw [decide_eq_true h_113]; first | (rw [decide_eq_true h_123]; rfl) | (rw [decide_eq_true h_133, Bool.or_true]; rfl))]; exact hP) (by rw [liftMr, if_neg hno, if_pos (show keepW (sK M) i1 v1 = true by unfold keepW; rw [decide_eq_true h_113]; first | (rw [decide_eq_true h_123]; rfl) | (rw [decide_eq_true h_133, Bool.or_true]; rfl))]) dX4_lift_144
        · skip
          have h_123 : ¬ (((mWd (sK M)) (ix i1) : Int32) = ((-1 : Int32) : Int32)) := h_123
          refine lv_aload_n hx hb dX4_lift_126 rfl (lv_at hl 0 rfl) ?_
          refine va_get (D := D) (ci := 4) (v := .ref (a 9)) (C := RX4) (T := TX4) (N := 18) hx hb ht inX4 hown hK hP 0 rfl rfl 11 (by decide) (ht _ wd583) (fun _ h9 => h9) rfl dX4_lift_127 ?_
          refine lv_iload_n hx hb dX4_lift_130 rfl (lv_at hl 1 rfl) ?_
          refine xtop (y := nI (ix i1)) ei ?_
          refine xa_iald hx hb hK hP 9 0 (i := (ix i1)) rfl rfl (by omega) (by decide) dX4_lift_131 ?_
          refine lv_iload_n hx hb dX4_lift_132 rfl (lv_at hl 2 rfl) ?_
          refine lv_icmp_ne (tgt := 145) hx hb dX4_lift_133 (by decide) (fun h_133 => ?_) (fun h_133 => ?_)
          · skip
            have h_133 : ¬ (((mWd (sK M)) (ix i1) : Int32) = (v1 : Int32)) := h_133
            refine lv_aload_n hx hb dX4_lift_145 rfl (lv_at hl 0 rfl) ?_
            refine va_get (D := D) (ci := 4) (v := .ref (a 8)) (C := RX4) (T := TX4) (N := 18) hx hb ht inX4 hown hK hP 0 rfl rfl 10 (by decide) (ht _ wd582) (fun _ h9 => h9) rfl dX4_lift_146 ?_
            refine lv_iload_n hx hb dX4_lift_149 rfl (lv_at hl 1 rfl) ?_
            refine lv_aload_n hx hb dX4_lift_150 rfl (lv_at hl 0 rfl) ?_
            refine va_get (D := D) (ci := 4) (v := .int (nI (sC M))) (C := RX4) (T := TX4) (N := 18) hx hb ht inX4 hown hK hP 0 rfl rfl 1 (by decide) (ht _ wd573) (fun _ h9 => h9) rfl dX4_lift_151 ?_
            refine xtop2 (y := nI (ix i1)) ei ?_
            refine xa_iast hx hb hK hP hD hS 8 0 (i := (ix i1)) (x := nI (sC M)) rfl rfl (by omega) (by decide) dX4_lift_154 (fun H locs hP hD hS => ?_)
            have hP : va_P D vwCl [(a 0, .inr (4, [.int (sE (setE M (thL M i1 v1))), .int (nI (sC M)), .int (nI (mN (sK M))), .ref (a 1), .ref (a 2), .ref (a 3), .ref (a 4), .ref (a 5), .ref (a 6), .ref (a 7), .ref (a 8), .ref (a 9), .ref (a 10), .ref (a 11), .ref (a 12), .ref (a 13), .int (nI (nT (sN M))), .ref (a 14)])), (a 1, .inl (cI, 100, .inl (mKd (sK M)))), (a 2, .inl (cI, 100, .inl (mPc (sK M)))), (a 3, .inl (cI, 100, .inl (mSd (sK M)))), (a 4, .inl (cI, 100, .inl (mFr (sK M)))), (a 5, .inl (cI, 100, .inl (mTo (sK M)))), (a 6, .inl (cI, 100, .inl (mNu (sK M)))), (a 7, .inl (cI, 100, .inl (mAn (sK M)))), (a 8, .inl (cI, 100, .inl (upd (mLi (sK M)) (ix i1) (nI (sC M))))), (a 9, .inl (cI, 100, .inl (mWd (sK M)))), (a 10, .inl (cZ, 20, .inl (mOp (sK M)))), (a 11, .inl (cI, 10, .inl (nF (rL (sR M))))), (a 12, .inl (cI, 120, .inl (nF (rP (sR M))))), (a 13, .inl (cZ, 120, .inl (bF (sW M)))), (a 14, .inl (cI, 500, .inl (nRw (sN M))))] H := hP
            have hD : va_D (xA (wM a cI cZ M)) [(a 0, .inr (4, [.int (sE (setE M (thL M i1 v1))), .int (nI (sC M)), .int (nI (mN (sK M))), .ref (a 1), .ref (a 2), .ref (a 3), .ref (a 4), .ref (a 5), .ref (a 6), .ref (a 7), .ref (a 8), .ref (a 9), .ref (a 10), .ref (a 11), .ref (a 12), .ref (a 13), .int (nI (nT (sN M))), .ref (a 14)])), (a 1, .inl (cI, 100, .inl (mKd (sK M)))), (a 2, .inl (cI, 100, .inl (mPc (sK M)))), (a 3, .inl (cI, 100, .inl (mSd (sK M)))), (a 4, .inl (cI, 100, .inl (mFr (sK M)))), (a 5, .inl (cI, 100, .inl (mTo (sK M)))), (a 6, .inl (cI, 100, .inl (mNu (sK M)))), (a 7, .inl (cI, 100, .inl (mAn (sK M)))), (a 8, .inl (cI, 100, .inl (upd (mLi (sK M)) (ix i1) (nI (sC M))))), (a 9, .inl (cI, 100, .inl (mWd (sK M)))), (a 10, .inl (cZ, 20, .inl (mOp (sK M)))), (a 11, .inl (cI, 10, .inl (nF (rL (sR M))))), (a 12, .inl (cI, 120, .inl (nF (rP (sR M))))), (a 13, .inl (cZ, 120, .inl (bF (sW M)))), (a 14, .inl (cI, 500, .inl (nRw (sN M))))] := hD
            refine lv_aload_n hx hb dX4_lift_155 rfl (lv_at hl 0 rfl) ?_
            refine xwV (As := []) (rest := []) (wr := []) (ws2 := (wM a cI cZ (lookM (setK M (liM (sK M) (ix i1) (nI (sC M))) (thL M i1 v1))))) hx hb hml hown ht hN kV_X4_98 (r_X4_look l D a cI cZ (setK M (liM (sK M) (ix i1) (nI (sC M))) (thL M i1 v1)) (hO) hR (show nT (sN M) + 1200 < 2 ^ 31 by omega)) ⟨by decide, by decide⟩ hP hD hS hK [0, 1, 2, 3, 4, 5, 6, 7, 8, 9, 10, 11, 12, 13, 14] [] [0, 1, 2, 3, 4, 5, 6, 7, 8, 9, 10, 11, 12, 13, 14] rfl rfl (by decide) (by decide) (by decide) rfl rfl (by decide) rfl rfl rfl rfl hl.1 rfl (Nat.le_of_ble_eq_true rfl) dX4_lift_156 ⟨Nat.zero_le _, Nat.zero_le _⟩ (fun H locs hP hD hS => ?_)
            refine lv_iconst (v := nI 1) hx hb dX4_lift_159 (by decide) ?_
            exact xw_zret (v := nI 1) hx hb hr hlocks rfl hS (by rw [liftMs, if_neg hno, if_neg (show ¬ keepW (sK M) i1 v1 = true by unfold keepW; first | (rw [decide_eq_false h_113, Bool.false_and]; decide) | (rw [decide_eq_false h_123, decide_eq_false h_133, Bool.or_self, Bool.and_false]; decide))]; exact hP) (by rw [liftMr, if_neg hno, if_neg (show ¬ keepW (sK M) i1 v1 = true by unfold keepW; first | (rw [decide_eq_false h_113, Bool.false_and]; decide) | (rw [decide_eq_false h_123, decide_eq_false h_133, Bool.or_self, Bool.and_false]; decide))]) dX4_lift_160
          · skip
            have h_133 : ((mWd (sK M)) (ix i1) : Int32) = (v1 : Int32) := h_133
            refine lv_aload_n hx hb dX4_lift_136 rfl (lv_at hl 0 rfl) ?_
            refine va_get (D := D) (ci := 4) (v := .ref (a 9)) (C := RX4) (T := TX4) (N := 18) hx hb ht inX4 hown hK hP 0 rfl rfl 11 (by decide) (ht _ wd583) (fun _ h9 => h9) rfl dX4_lift_137 ?_
            refine lv_iload_n hx hb dX4_lift_140 rfl (lv_at hl 1 rfl) ?_
            refine lv_iload_n hx hb dX4_lift_141 rfl (lv_at hl 2 rfl) ?_
            refine xtop2 (y := nI (ix i1)) ei ?_
            refine xa_iast hx hb hK hP hD hS 9 0 (i := (ix i1)) (x := v1) rfl rfl (by omega) (by decide) dX4_lift_142 (fun H locs hP hD hS => ?_)
            have hP : va_P D vwCl [(a 0, .inr (4, [.int (sE (setE M (thL M i1 v1))), .int (nI (sC M)), .int (nI (mN (sK M))), .ref (a 1), .ref (a 2), .ref (a 3), .ref (a 4), .ref (a 5), .ref (a 6), .ref (a 7), .ref (a 8), .ref (a 9), .ref (a 10), .ref (a 11), .ref (a 12), .ref (a 13), .int (nI (nT (sN M))), .ref (a 14)])), (a 1, .inl (cI, 100, .inl (mKd (sK M)))), (a 2, .inl (cI, 100, .inl (mPc (sK M)))), (a 3, .inl (cI, 100, .inl (mSd (sK M)))), (a 4, .inl (cI, 100, .inl (mFr (sK M)))), (a 5, .inl (cI, 100, .inl (mTo (sK M)))), (a 6, .inl (cI, 100, .inl (mNu (sK M)))), (a 7, .inl (cI, 100, .inl (mAn (sK M)))), (a 8, .inl (cI, 100, .inl (mLi (sK M)))), (a 9, .inl (cI, 100, .inl (upd (mWd (sK M)) (ix i1) v1))), (a 10, .inl (cZ, 20, .inl (mOp (sK M)))), (a 11, .inl (cI, 10, .inl (nF (rL (sR M))))), (a 12, .inl (cI, 120, .inl (nF (rP (sR M))))), (a 13, .inl (cZ, 120, .inl (bF (sW M)))), (a 14, .inl (cI, 500, .inl (nRw (sN M))))] H := hP
            have hD : va_D (xA (wM a cI cZ M)) [(a 0, .inr (4, [.int (sE (setE M (thL M i1 v1))), .int (nI (sC M)), .int (nI (mN (sK M))), .ref (a 1), .ref (a 2), .ref (a 3), .ref (a 4), .ref (a 5), .ref (a 6), .ref (a 7), .ref (a 8), .ref (a 9), .ref (a 10), .ref (a 11), .ref (a 12), .ref (a 13), .int (nI (nT (sN M))), .ref (a 14)])), (a 1, .inl (cI, 100, .inl (mKd (sK M)))), (a 2, .inl (cI, 100, .inl (mPc (sK M)))), (a 3, .inl (cI, 100, .inl (mSd (sK M)))), (a 4, .inl (cI, 100, .inl (mFr (sK M)))), (a 5, .inl (cI, 100, .inl (mTo (sK M)))), (a 6, .inl (cI, 100, .inl (mNu (sK M)))), (a 7, .inl (cI, 100, .inl (mAn (sK M)))), (a 8, .inl (cI, 100, .inl (mLi (sK M)))), (a 9, .inl (cI, 100, .inl (upd (mWd (sK M)) (ix i1) v1))), (a 10, .inl (cZ, 20, .inl (mOp (sK M)))), (a 11, .inl (cI, 10, .inl (nF (rL (sR M))))), (a 12, .inl (cI, 120, .inl (nF (rP (sR M))))), (a 13, .inl (cZ, 120, .inl (bF (sW M)))), (a 14, .inl (cI, 500, .inl (nRw (sN M))))] := hD
            refine lv_iconst (v := nI 0) hx hb dX4_lift_143 (by decide) ?_
            exact xw_zret (v := nI 0) hx hb hr hlocks rfl hS (by rw [liftMs, if_neg hno, if_pos (show keepW (sK M) i1 v1 = true by unfold keepW; rw [decide_eq_true h_113]; first | (rw [decide_eq_true h_123]; rfl) | (rw [decide_eq_true h_133, Bool.or_true]; rfl))]; exact hP) (by rw [liftMr, if_neg hno, if_pos (show keepW (sK M) i1 v1 = true by unfold keepW; rw [decide_eq_true h_113]; first | (rw [decide_eq_true h_123]; rfl) | (rw [decide_eq_true h_133, Bool.or_true]; rfl))]) dX4_lift_144
    · skip
      have h_101 : ¬ ((bI (bCl (mN (sK M)) i1 || bBy v1 || ovL (sK M) (sC M) i1) : Int32) = (0 : Int32)) := h_101
      refine lv_iconst (v := nI 0) hx hb dX4_lift_104 (by decide) ?_
      exact xw_zret (v := nI 0) hx hb hr hlocks rfl hS (by rw [liftMs, if_pos (bI_t h_101)]; exact hP) (by rw [liftMr, if_pos (bI_t h_101)]) dX4_lift_105
  have J76 : ∀ (H : Heap) (locs : List Loc), va_P D vwCl (wM a cI cZ M) H → va_D (xA (wM a cI cZ M)) (wM a cI cZ M) → va_S (xA (wM a cI cZ M)) s.heap H locs → ∀ ls : Array Slot, lv_has ls 5 [(0, .ref (a 0)), (1, .int (i1)), (2, .int (v1)), (3, .int (bI (bCl (mN (sK M)) i1)))] → W p l e (xrm 3 72) s m args below meth cd H locs 0 0 (MQ below (xQw (some (.int (liftMr M i1 v1))) D (wM a cI cZ M) (wM a cI cZ (liftMs M i1 v1))) args s 0 0 (xA (wM a cI cZ M))) (F0 m 76 ls [.int (bI (ovL (sK M) (sC M) i1))]) := by
    intro H locs hP hD hS ls hl
    refine lv_istore (lv' := [(4, .int (bI (ovL (sK M) (sC M) i1))), (0, .ref (a 0)), (1, .int (i1)), (2, .int (v1)), (3, .int (bI (bCl (mN (sK M)) i1)))]) hx hb dX4_lift_76 hl (by decide) rfl (fun ls hl => ?_)
    refine lv_aload_n hx hb dX4_lift_78 rfl (lv_at hl 1 rfl) ?_
    refine lv_iload_n hx hb dX4_lift_79 rfl (lv_at hl 4 rfl) ?_
    refine lv_iload_n hx hb dX4_lift_80 rfl (lv_at hl 3 rfl) ?_
    refine lv_iconst (v := nI 0) hx hb dX4_lift_81 (by decide) ?_
    refine lv_sipush (v := nI 999) hx hb dX4_lift_82 (by decide) ?_
    refine xrS (As := [.int (v1), .int (nI 0), .int (nI 999)]) (rest := [.int (bI (bCl (mN (sK M)) i1)), .ref (a 0)]) hx hb hml hown ht hN kS_X4_57 (r_X4_in l D v1 (nI 0) (nI 999)) ⟨by decide, by decide⟩ (fun k q h => by simp at h) (hK.sub (tys' := []) [] rfl) rfl hl.1 rfl (Nat.le_of_ble_eq_true rfl) dX4_lift_85 ⟨Nat.zero_le _, Nat.zero_le _⟩ ?_
    refine lv_if_ne (tgt := 95) hx hb dX4_lift_88 (by decide) (fun h_88 => ?_) (fun h_88 => ?_)
    · skip
      have h_88 : ¬ ((bI (inI v1 (nI 0) (nI 999)) : Int32) = (0 : Int32)) := h_88
      refine lv_iconst (v := nI 0) hx hb dX4_lift_95 (by decide) ?_
      refine xtop (y := bI (bBy v1)) (bI_0 (by unfold bBy; rw [bI_t h_88]; rfl)) ?_
      exact J96 _ _ hP hD hS ls (lv_sub hl [1, 2, 3, 4, 0] rfl)
    · skip
      have h_88 : (bI (inI v1 (nI 0) (nI 999)) : Int32) = (0 : Int32) := h_88
      refine lv_iconst (v := nI 1) hx hb dX4_lift_91 (by decide) ?_
      refine lv_goto (tgt := 96) hx hb dX4_lift_92 (by decide) ?_
      refine xtop (y := bI (bBy v1)) (bI_1 (by unfold bBy; rw [bI_f h_88]; rfl)) ?_
      exact J96 _ _ hP hD hS ls (lv_sub hl [1, 2, 3, 4, 0] rfl)
  have J13 : ∀ (H : Heap) (locs : List Loc), va_P D vwCl (wM a cI cZ M) H → va_D (xA (wM a cI cZ M)) (wM a cI cZ M) → va_S (xA (wM a cI cZ M)) s.heap H locs → ∀ ls : Array Slot, lv_has ls 5 [(0, .ref (a 0)), (1, .int (i1)), (2, .int (v1))] → W p l e (xrm 3 72) s m args below meth cd H locs 0 0 (MQ below (xQw (some (.int (liftMr M i1 v1))) D (wM a cI cZ M) (wM a cI cZ (liftMs M i1 v1))) args s 0 0 (xA (wM a cI cZ M))) (F0 m 13 ls [.int (bI (bCl (mN (sK M)) i1))]) := by
    intro H locs hP hD hS ls hl
    refine lv_istore_n (lv' := [(3, .int (bI (bCl (mN (sK M)) i1))), (0, .ref (a 0)), (1, .int (i1)), (2, .int (v1))]) hx hb dX4_lift_13 rfl hl (by decide) rfl (fun ls hl => ?_)
    refine lv_iload_n hx hb dX4_lift_14 rfl (lv_at hl 0 rfl) ?_
    refine lv_if_ne (tgt := 75) hx hb dX4_lift_15 (by decide) (fun h_15 => ?_) (fun h_15 => ?_)
    · skip
      have h_15 : ¬ ((bI (bCl (mN (sK M)) i1) : Int32) = (0 : Int32)) := h_15
      refine lv_iconst (v := nI 0) hx hb dX4_lift_75 (by decide) ?_
      refine xtop (y := bI (ovL (sK M) (sC M) i1)) (bI_0 (by unfold ovL; first | (rw [bI_t h_15]; rfl) | (rw [bI_f h_15, decide_eq_true h_25, decide_eq_false h_35]; first | (rw [decide_eq_true h_45]; rfl) | (rw [decide_eq_true h_55, Bool.not_true, Bool.false_and, Bool.and_false]; rfl) | (rw [decide_eq_true h_68, Bool.not_true, Bool.and_false, Bool.and_false]; rfl)))) ?_
      exact J76 _ _ hP hD hS ls (lv_sub hl [1, 2, 3, 0] rfl)
    · skip
      have h_15 : (bI (bCl (mN (sK M)) i1) : Int32) = (0 : Int32) := h_15
      obtain ⟨ei, hi9⟩ := ix_cl hO.1 (notF (bI_f h_15))
      refine lv_aload_n hx hb dX4_lift_18 rfl (lv_at hl 1 rfl) ?_
      refine va_get (D := D) (ci := 4) (v := .ref (a 8)) (C := RX4) (T := TX4) (N := 18) hx hb ht inX4 hown hK hP 0 rfl rfl 10 (by decide) (ht _ wd582) (fun _ h9 => h9) rfl dX4_lift_19 ?_
      refine lv_iload_n hx hb dX4_lift_22 rfl (lv_at hl 2 rfl) ?_
      refine xtop (y := nI (ix i1)) ei ?_
      refine xa_iald hx hb hK hP 8 0 (i := (ix i1)) rfl rfl (by omega) (by decide) dX4_lift_23 ?_
      refine lv_iconst (v := (-1 : Int32)) hx hb dX4_lift_24 (by decide) ?_
      refine lv_icmp_ne (tgt := 71) hx hb dX4_lift_25 (by decide) (fun h_25 => ?_) (fun h_25 => ?_)
      · skip
        have h_25 : ¬ (((mLi (sK M)) (ix i1) : Int32) = ((-1 : Int32) : Int32)) := h_25
        refine lv_iconst (v := nI 1) hx hb dX4_lift_71 (by decide) ?_
        refine lv_goto (tgt := 76) hx hb dX4_lift_72 (by decide) ?_
        refine xtop (y := bI (ovL (sK M) (sC M) i1)) (bI_1 (by unfold ovL; rw [bI_f h_15]; first | (rw [decide_eq_false h_25]; rfl) | (rw [decide_eq_true h_35, Bool.true_or, Bool.or_true]; rfl) | (rw [decide_eq_false h_45, decide_eq_false h_55, decide_eq_false h_68, Bool.not_false, Bool.and_self, Bool.and_self, Bool.or_true, Bool.or_true]; rfl))) ?_
        exact J76 _ _ hP hD hS ls (lv_sub hl [1, 2, 3, 0] rfl)
      · skip
        have h_25 : ((mLi (sK M)) (ix i1) : Int32) = ((-1 : Int32) : Int32) := h_25
        refine lv_aload_n hx hb dX4_lift_28 rfl (lv_at hl 1 rfl) ?_
        refine va_get (D := D) (ci := 4) (v := .ref (a 1)) (C := RX4) (T := TX4) (N := 18) hx hb ht inX4 hown hK hP 0 rfl rfl 3 (by decide) (ht _ wd575) (fun _ h9 => h9) rfl dX4_lift_29 ?_
        refine lv_iload_n hx hb dX4_lift_32 rfl (lv_at hl 2 rfl) ?_
        refine xtop (y := nI (ix i1)) ei ?_
        refine xa_iald hx hb hK hP 1 0 (i := (ix i1)) rfl rfl (by omega) (by decide) dX4_lift_33 ?_
        refine lv_iconst (v := nI 4) hx hb dX4_lift_34 (by decide) ?_
        refine lv_icmp_eq (tgt := 71) hx hb dX4_lift_35 (by decide) (fun h_35 => ?_) (fun h_35 => ?_)
        · skip
          have h_35 : ((mKd (sK M)) (ix i1) : Int32) = (nI 4 : Int32) := h_35
          refine lv_iconst (v := nI 1) hx hb dX4_lift_71 (by decide) ?_
          refine lv_goto (tgt := 76) hx hb dX4_lift_72 (by decide) ?_
          refine xtop (y := bI (ovL (sK M) (sC M) i1)) (bI_1 (by unfold ovL; rw [bI_f h_15]; first | (rw [decide_eq_false h_25]; rfl) | (rw [decide_eq_true h_35, Bool.true_or, Bool.or_true]; rfl) | (rw [decide_eq_false h_45, decide_eq_false h_55, decide_eq_false h_68, Bool.not_false, Bool.and_self, Bool.and_self, Bool.or_true, Bool.or_true]; rfl))) ?_
          exact J76 _ _ hP hD hS ls (lv_sub hl [1, 2, 3, 0] rfl)
        · skip
          have h_35 : ¬ (((mKd (sK M)) (ix i1) : Int32) = (nI 4 : Int32)) := h_35
          refine lv_aload_n hx hb dX4_lift_38 rfl (lv_at hl 1 rfl) ?_
          refine va_get (D := D) (ci := 4) (v := .ref (a 1)) (C := RX4) (T := TX4) (N := 18) hx hb ht inX4 hown hK hP 0 rfl rfl 3 (by decide) (ht _ wd575) (fun _ h9 => h9) rfl dX4_lift_39 ?_
          refine lv_iload_n hx hb dX4_lift_42 rfl (lv_at hl 2 rfl) ?_
          refine xtop (y := nI (ix i1)) ei ?_
          refine xa_iald hx hb hK hP 1 0 (i := (ix i1)) rfl rfl (by omega) (by decide) dX4_lift_43 ?_
          refine lv_iconst (v := nI 2) hx hb dX4_lift_44 (by decide) ?_
          refine lv_icmp_eq (tgt := 75) hx hb dX4_lift_45 (by decide) (fun h_45 => ?_) (fun h_45 => ?_)
          · skip
            have h_45 : ((mKd (sK M)) (ix i1) : Int32) = (nI 2 : Int32) := h_45
            refine lv_iconst (v := nI 0) hx hb dX4_lift_75 (by decide) ?_
            refine xtop (y := bI (ovL (sK M) (sC M) i1)) (bI_0 (by unfold ovL; first | (rw [bI_t h_15]; rfl) | (rw [bI_f h_15, decide_eq_true h_25, decide_eq_false h_35]; first | (rw [decide_eq_true h_45]; rfl) | (rw [decide_eq_true h_55, Bool.not_true, Bool.false_and, Bool.and_false]; rfl) | (rw [decide_eq_true h_68, Bool.not_true, Bool.and_false, Bool.and_false]; rfl)))) ?_
            exact J76 _ _ hP hD hS ls (lv_sub hl [1, 2, 3, 0] rfl)
          · skip
            have h_45 : ¬ (((mKd (sK M)) (ix i1) : Int32) = (nI 2 : Int32)) := h_45
            refine lv_aload_n hx hb dX4_lift_48 rfl (lv_at hl 1 rfl) ?_
            refine va_get (D := D) (ci := 4) (v := .ref (a 1)) (C := RX4) (T := TX4) (N := 18) hx hb ht inX4 hown hK hP 0 rfl rfl 3 (by decide) (ht _ wd575) (fun _ h9 => h9) rfl dX4_lift_49 ?_
            refine lv_iload_n hx hb dX4_lift_52 rfl (lv_at hl 2 rfl) ?_
            refine xtop (y := nI (ix i1)) ei ?_
            refine xa_iald hx hb hK hP 1 0 (i := (ix i1)) rfl rfl (by omega) (by decide) dX4_lift_53 ?_
            refine lv_iconst (v := nI 3) hx hb dX4_lift_54 (by decide) ?_
            refine lv_icmp_eq (tgt := 75) hx hb dX4_lift_55 (by decide) (fun h_55 => ?_) (fun h_55 => ?_)
            · skip
              have h_55 : ((mKd (sK M)) (ix i1) : Int32) = (nI 3 : Int32) := h_55
              refine lv_iconst (v := nI 0) hx hb dX4_lift_75 (by decide) ?_
              refine xtop (y := bI (ovL (sK M) (sC M) i1)) (bI_0 (by unfold ovL; first | (rw [bI_t h_15]; rfl) | (rw [bI_f h_15, decide_eq_true h_25, decide_eq_false h_35]; first | (rw [decide_eq_true h_45]; rfl) | (rw [decide_eq_true h_55, Bool.not_true, Bool.false_and, Bool.and_false]; rfl) | (rw [decide_eq_true h_68, Bool.not_true, Bool.and_false, Bool.and_false]; rfl)))) ?_
              exact J76 _ _ hP hD hS ls (lv_sub hl [1, 2, 3, 0] rfl)
            · skip
              have h_55 : ¬ (((mKd (sK M)) (ix i1) : Int32) = (nI 3 : Int32)) := h_55
              refine lv_aload_n hx hb dX4_lift_58 rfl (lv_at hl 1 rfl) ?_
              refine va_get (D := D) (ci := 4) (v := .ref (a 5)) (C := RX4) (T := TX4) (N := 18) hx hb ht inX4 hown hK hP 0 rfl rfl 7 (by decide) (ht _ wd579) (fun _ h9 => h9) rfl dX4_lift_59 ?_
              refine lv_iload_n hx hb dX4_lift_62 rfl (lv_at hl 2 rfl) ?_
              refine xtop (y := nI (ix i1)) ei ?_
              refine xa_iald hx hb hK hP 5 0 (i := (ix i1)) rfl rfl (by omega) (by decide) dX4_lift_63 ?_
              refine lv_aload_n hx hb dX4_lift_64 rfl (lv_at hl 1 rfl) ?_
              refine va_get (D := D) (ci := 4) (v := .int (nI (sC M))) (C := RX4) (T := TX4) (N := 18) hx hb ht inX4 hown hK hP 0 rfl rfl 1 (by decide) (ht _ wd573) (fun _ h9 => h9) rfl dX4_lift_65 ?_
              refine lv_icmp_gt (tgt := 75) hx hb dX4_lift_68 (by decide) (fun h_68 => ?_) (fun h_68 => ?_)
              · skip
                have h_68 : (nI (sC M) : Int32) < ((mTo (sK M)) (ix i1) : Int32) := h_68
                refine lv_iconst (v := nI 0) hx hb dX4_lift_75 (by decide) ?_
                refine xtop (y := bI (ovL (sK M) (sC M) i1)) (bI_0 (by unfold ovL; first | (rw [bI_t h_15]; rfl) | (rw [bI_f h_15, decide_eq_true h_25, decide_eq_false h_35]; first | (rw [decide_eq_true h_45]; rfl) | (rw [decide_eq_true h_55, Bool.not_true, Bool.false_and, Bool.and_false]; rfl) | (rw [decide_eq_true h_68, Bool.not_true, Bool.and_false, Bool.and_false]; rfl)))) ?_
                exact J76 _ _ hP hD hS ls (lv_sub hl [1, 2, 3, 0] rfl)
              · skip
                have h_68 : ¬ ((nI (sC M) : Int32) < ((mTo (sK M)) (ix i1) : Int32)) := h_68
                refine lv_iconst (v := nI 1) hx hb dX4_lift_71 (by decide) ?_
                refine lv_goto (tgt := 76) hx hb dX4_lift_72 (by decide) ?_
                refine xtop (y := bI (ovL (sK M) (sC M) i1)) (bI_1 (by unfold ovL; rw [bI_f h_15]; first | (rw [decide_eq_false h_25]; rfl) | (rw [decide_eq_true h_35, Bool.true_or, Bool.or_true]; rfl) | (rw [decide_eq_false h_45, decide_eq_false h_55, decide_eq_false h_68, Bool.not_false, Bool.and_self, Bool.and_self, Bool.or_true, Bool.or_true]; rfl))) ?_
                exact J76 _ _ hP hD hS ls (lv_sub hl [1, 2, 3, 0] rfl)
  refine lv_aload_n hx hb dX4_lift_0 rfl (lv_at hl 0 rfl) ?_
  refine lv_iload_n hx hb dX4_lift_1 rfl (lv_at hl 1 rfl) ?_
  refine xrV (As := [.int (i1)]) (rest := []) hx hb hml hown ht hN kV_X4_101 (r_X4_isClosure l D a cI cZ M i1) ⟨by decide, by decide⟩ hP hK rfl rfl rfl rfl hl.1 rfl (Nat.le_of_ble_eq_true rfl) dX4_lift_2 ⟨Nat.zero_le _, Nat.zero_le _⟩ ?_
  refine lv_if_ne (tgt := 12) hx hb dX4_lift_5 (by decide) (fun h_5 => ?_) (fun h_5 => ?_)
  · skip
    have h_5 : ¬ ((bI (inI i1 (nI 0) (nI (mN (sK M)) - nI 1)) : Int32) = (0 : Int32)) := h_5
    refine lv_iconst (v := nI 0) hx hb dX4_lift_12 (by decide) ?_
    refine xtop (y := bI (bCl (mN (sK M)) i1)) (bI_0 (by unfold bCl; rw [bI_t h_5]; rfl)) ?_
    exact J13 _ _ hP hD hS ls (lv_sub hl [0, 1, 2] rfl)
  · skip
    have h_5 : (bI (inI i1 (nI 0) (nI (mN (sK M)) - nI 1)) : Int32) = (0 : Int32) := h_5
    refine lv_iconst (v := nI 1) hx hb dX4_lift_8 (by decide) ?_
    refine lv_goto (tgt := 13) hx hb dX4_lift_9 (by decide) ?_
    refine xtop (y := bI (bCl (mN (sK M)) i1)) (bI_1 (by unfold bCl; rw [bI_f h_5]; rfl)) ?_
    exact J13 _ _ hP hD hS ls (lv_sub hl [0, 1, 2] rfl)
set_option maxHeartbeats 4000000 in
set_option maxRecDepth 100000 in
theorem r_X4_step (l : Launch) (D : va_G) (a : Nat → Nat) (cI cZ : ClassId) (M : MS) (hO : mOk (sK M)) (hR : rOk (sR M)) (hT0 : nT (sN M) + 1200 < 2 ^ 30) (u1 p1 s1 : Int32) : xWR l yX4_step cX4_step 6 (some .int) (xrm 2 42) [.ref (a 0), .int (u1), .int (p1), .int (s1)] D (wM a cI cZ M) (tyL cI cZ) (some (.int (stepMr M u1 p1 s1))) (wM a cI cZ (stepMs M u1 p1 s1)) := by
  refine xWR.of (by decide +kernel) (Nat.le_of_ble_eq_true rfl) ?_
  intro p e s m args below meth cd hx hb hr hml hown hlocks ht hN hP hK hD hS ls hl
  have hl : lv_has ls 6 [(0, .ref (a 0)), (1, .int (u1)), (2, .int (p1)), (3, .int (s1))] := hl
  have hown : s.vm.findClass RX4 = some m.cls := hown
  have J79 : ∀ (H : Heap) (locs : List Loc), va_P D vwCl (wM a cI cZ M) H → va_D (xA (wM a cI cZ M)) (wM a cI cZ M) → va_S (xA (wM a cI cZ M)) s.heap H locs → ∀ ls : Array Slot, lv_has ls 6 [(0, .ref (a 0)), (1, .int (u1)), (2, .int (p1)), (3, .int (s1)), (4, .int (bI (bUp u1 p1))), (5, .int (bI (bSd p1 s1)))] → W p l e (xrm 2 42) s m args below meth cd H locs 0 0 (MQ below (xQw (some (.int (stepMr M u1 p1 s1))) D (wM a cI cZ M) (wM a cI cZ (stepMs M u1 p1 s1))) args s 0 0 (xA (wM a cI cZ M))) (F0 m 79 ls [.int (bI (bFl (sR M) u1 p1)), .int (bI (bSd p1 s1)), .int (bI (bUp u1 p1)), .ref (a 0)]) := by
    intro H locs hP hD hS ls hl
    refine xwV (As := [.int (bI (bUp u1 p1)), .int (bI (bSd p1 s1)), .int (bI (bFl (sR M) u1 p1))]) (rest := []) (wr := []) (ws2 := (wM a cI cZ (setE M (thS M u1 p1 s1)))) hx hb hml hown ht hN kV_X4_94 (r_X4_throwing l D a cI cZ M (bUp u1 p1) (bSd p1 s1) (bFl (sR M) u1 p1)) ⟨by decide, by decide⟩ hP hD hS hK [0, 1, 2, 3, 4, 5, 6, 7, 8, 9, 10, 11, 12, 13, 14] [] [0, 1, 2, 3, 4, 5, 6, 7, 8, 9, 10, 11, 12, 13, 14] rfl rfl (by decide) (by decide) (by decide) rfl rfl (by decide) rfl rfl rfl rfl hl.1 rfl (Nat.le_of_ble_eq_true rfl) dX4_step_79 ⟨Nat.zero_le _, Nat.zero_le _⟩ (fun H locs hP hD hS => ?_)
    refine lv_if_eq (tgt := 87) hx hb dX4_step_82 (by decide) (fun h_82 => ?_) (fun h_82 => ?_)
    · skip
      have h_82 : (bI (bUp u1 p1 || bSd p1 s1 || bFl (sR M) u1 p1) : Int32) = (0 : Int32) := h_82
      have hno : ¬ noS M u1 p1 s1 = true := by rw [show noS M u1 p1 s1 = false from bI_f h_82]; decide
      obtain ⟨g1, g2, g3⟩ := orF3 (bI_f h_82)
      obtain ⟨eu, -, hu9⟩ := ix_in (by decide) (by decide) (notF (Bool.or_eq_false_iff.mp g1).1)
      have hk := (hR (ix u1) (by omega)).1
      refine lv_iload_n hx hb dX4_step_87 rfl (lv_at hl 2 rfl) ?_
      refine lv_iconst (v := (-1 : Int32)) hx hb dX4_step_88 (by decide) ?_
      refine lv_icmp_ne (tgt := 101) hx hb dX4_step_89 (by decide) (fun h_89 => ?_) (fun h_89 => ?_)
      · skip
        have h_89 : ¬ ((p1 : Int32) = ((-1 : Int32) : Int32)) := h_89
        have gp := (Bool.or_eq_false_iff.mp g1).2
        rw [decide_eq_false h_89, Bool.not_false, Bool.true_and] at gp
        have gs := g2
        unfold bSd at gs
        rw [decide_eq_false h_89, Bool.not_false, Bool.true_and] at gs
        obtain ⟨ep, -, hp9⟩ := ix_in (by decide) (by decide) (notF gp)
        obtain ⟨es, hs1, hs9⟩ := ix_in (by decide) (by decide) (notF gs)
        have gf := g3
        unfold bFl at gf
        rw [g1, decide_eq_false h_89, Bool.not_false, Bool.true_and, Bool.true_and] at gf
        have hl12 := of_decide_eq_false gf
        refine lv_aload_n hx hb dX4_step_101 rfl (lv_at hl 0 rfl) ?_
        refine va_get (D := D) (ci := 4) (v := .ref (a 12)) (C := RX4) (T := TX4) (N := 18) hx hb ht inX4 hown hK hP 0 rfl rfl 14 (by decide) (ht _ wd586) (fun _ h9 => h9) rfl dX4_step_102 ?_
        refine lv_bipush (v := nI 12) hx hb dX4_step_105 (by decide) ?_
        refine lv_iload_n hx hb dX4_step_107 rfl (lv_at hl 1 rfl) ?_
        refine xtop (y := nI (ix u1)) eu ?_
        refine lv_imul hx hb dX4_step_108 ?_
        refine xtop (y := nI (ix u1 * 12)) (by rw [pk_mul, Nat.mul_comm]) ?_
        refine lv_aload_n hx hb dX4_step_109 rfl (lv_at hl 0 rfl) ?_
        refine va_get (D := D) (ci := 4) (v := .ref (a 11)) (C := RX4) (T := TX4) (N := 18) hx hb ht inX4 hown hK hP 0 rfl rfl 13 (by decide) (ht _ wd585) (fun _ h9 => h9) rfl dX4_step_110 ?_
        refine lv_iload_n hx hb dX4_step_113 rfl (lv_at hl 1 rfl) ?_
        refine xtop (y := nI (ix u1)) eu ?_
        refine xa_iald hx hb hK hP 11 0 (i := (ix u1)) rfl rfl (by omega) (by decide) dX4_step_114 ?_
        refine lv_iadd hx hb dX4_step_115 ?_
        refine xtop (y := nI ((ix u1 * 12) + (rL (sR M) (ix u1)))) (nI_add _ _) ?_
        refine lv_iconst (v := nI 2) hx hb dX4_step_116 (by decide) ?_
        refine lv_iload_n hx hb dX4_step_117 rfl (lv_at hl 2 rfl) ?_
        refine xtop (y := nI (ix p1)) ep ?_
        refine lv_imul hx hb dX4_step_118 ?_
        refine xtop (y := nI (2 * ix p1)) (pk_mul _ _) ?_
        refine lv_iload_n hx hb dX4_step_119 rfl (lv_at hl 3 rfl) ?_
        refine xtop (y := nI (ix s1)) es ?_
        refine lv_iadd hx hb dX4_step_120 ?_
        refine xtop (y := nI ((2 * ix p1) + (ix s1))) (nI_add _ _) ?_
        refine lv_iconst (v := nI 1) hx hb dX4_step_121 (by decide) ?_
        refine lv_isub hx hb dX4_step_122 ?_
        refine xtop (y := nI (2 * ix p1 + ix s1 - 1)) (pk_sub (by omega)) ?_
        refine xa_iast hx hb hK hP hD hS 12 0 (i := ((ix u1 * 12) + (rL (sR M) (ix u1)))) (x := nI (2 * ix p1 + ix s1 - 1)) rfl rfl (by omega) (by decide) dX4_step_123 (fun H locs hP hD hS => ?_)
        have hP : va_P D vwCl [(a 0, .inr (4, [.int (sE (setE M (thS M u1 p1 s1))), .int (nI (sC M)), .int (nI (mN (sK M))), .ref (a 1), .ref (a 2), .ref (a 3), .ref (a 4), .ref (a 5), .ref (a 6), .ref (a 7), .ref (a 8), .ref (a 9), .ref (a 10), .ref (a 11), .ref (a 12), .ref (a 13), .int (nI (nT (sN M))), .ref (a 14)])), (a 1, .inl (cI, 100, .inl (mKd (sK M)))), (a 2, .inl (cI, 100, .inl (mPc (sK M)))), (a 3, .inl (cI, 100, .inl (mSd (sK M)))), (a 4, .inl (cI, 100, .inl (mFr (sK M)))), (a 5, .inl (cI, 100, .inl (mTo (sK M)))), (a 6, .inl (cI, 100, .inl (mNu (sK M)))), (a 7, .inl (cI, 100, .inl (mAn (sK M)))), (a 8, .inl (cI, 100, .inl (mLi (sK M)))), (a 9, .inl (cI, 100, .inl (mWd (sK M)))), (a 10, .inl (cZ, 20, .inl (mOp (sK M)))), (a 11, .inl (cI, 10, .inl (nF (rL (sR M))))), (a 12, .inl (cI, 120, .inl (upd (nF (rP (sR M))) ((ix u1 * 12) + (rL (sR M) (ix u1))) (nI (2 * ix p1 + ix s1 - 1))))), (a 13, .inl (cZ, 120, .inl (bF (sW M)))), (a 14, .inl (cI, 500, .inl (nRw (sN M))))] H := hP
        have hD : va_D (xA (wM a cI cZ M)) [(a 0, .inr (4, [.int (sE (setE M (thS M u1 p1 s1))), .int (nI (sC M)), .int (nI (mN (sK M))), .ref (a 1), .ref (a 2), .ref (a 3), .ref (a 4), .ref (a 5), .ref (a 6), .ref (a 7), .ref (a 8), .ref (a 9), .ref (a 10), .ref (a 11), .ref (a 12), .ref (a 13), .int (nI (nT (sN M))), .ref (a 14)])), (a 1, .inl (cI, 100, .inl (mKd (sK M)))), (a 2, .inl (cI, 100, .inl (mPc (sK M)))), (a 3, .inl (cI, 100, .inl (mSd (sK M)))), (a 4, .inl (cI, 100, .inl (mFr (sK M)))), (a 5, .inl (cI, 100, .inl (mTo (sK M)))), (a 6, .inl (cI, 100, .inl (mNu (sK M)))), (a 7, .inl (cI, 100, .inl (mAn (sK M)))), (a 8, .inl (cI, 100, .inl (mLi (sK M)))), (a 9, .inl (cI, 100, .inl (mWd (sK M)))), (a 10, .inl (cZ, 20, .inl (mOp (sK M)))), (a 11, .inl (cI, 10, .inl (nF (rL (sR M))))), (a 12, .inl (cI, 120, .inl (upd (nF (rP (sR M))) ((ix u1 * 12) + (rL (sR M) (ix u1))) (nI (2 * ix p1 + ix s1 - 1))))), (a 13, .inl (cZ, 120, .inl (bF (sW M)))), (a 14, .inl (cI, 500, .inl (nRw (sN M))))] := hD
        refine lv_aload_n hx hb dX4_step_124 rfl (lv_at hl 0 rfl) ?_
        refine va_get (D := D) (ci := 4) (v := .ref (a 11)) (C := RX4) (T := TX4) (N := 18) hx hb ht inX4 hown hK hP 0 rfl rfl 13 (by decide) (ht _ wd585) (fun _ h9 => h9) rfl dX4_step_125 ?_
        refine lv_iload_n hx hb dX4_step_128 rfl (lv_at hl 1 rfl) ?_
        refine xtop (y := nI (ix u1)) eu ?_
        refine lv_dup2_11 hx hb dX4_step_129 rfl rfl ?_
        refine xa_iald hx hb hK hP 11 0 (i := (ix u1)) rfl rfl (by omega) (by decide) dX4_step_130 ?_
        refine lv_iconst (v := nI 1) hx hb dX4_step_131 (by decide) ?_
        refine lv_iadd hx hb dX4_step_132 ?_
        refine xtop (y := nI ((rL (sR M) (ix u1)) + 1)) (nI_add _ _) ?_
        refine xa_iast hx hb hK hP hD hS 11 0 (i := (ix u1)) (x := nI ((rL (sR M) (ix u1)) + 1)) rfl rfl (by omega) (by decide) dX4_step_133 (fun H locs hP hD hS => ?_)
        have hP : va_P D vwCl [(a 0, .inr (4, [.int (sE (setE M (thS M u1 p1 s1))), .int (nI (sC M)), .int (nI (mN (sK M))), .ref (a 1), .ref (a 2), .ref (a 3), .ref (a 4), .ref (a 5), .ref (a 6), .ref (a 7), .ref (a 8), .ref (a 9), .ref (a 10), .ref (a 11), .ref (a 12), .ref (a 13), .int (nI (nT (sN M))), .ref (a 14)])), (a 1, .inl (cI, 100, .inl (mKd (sK M)))), (a 2, .inl (cI, 100, .inl (mPc (sK M)))), (a 3, .inl (cI, 100, .inl (mSd (sK M)))), (a 4, .inl (cI, 100, .inl (mFr (sK M)))), (a 5, .inl (cI, 100, .inl (mTo (sK M)))), (a 6, .inl (cI, 100, .inl (mNu (sK M)))), (a 7, .inl (cI, 100, .inl (mAn (sK M)))), (a 8, .inl (cI, 100, .inl (mLi (sK M)))), (a 9, .inl (cI, 100, .inl (mWd (sK M)))), (a 10, .inl (cZ, 20, .inl (mOp (sK M)))), (a 11, .inl (cI, 10, .inl (upd (nF (rL (sR M))) (ix u1) (nI ((rL (sR M) (ix u1)) + 1))))), (a 12, .inl (cI, 120, .inl (upd (nF (rP (sR M))) ((ix u1 * 12) + (rL (sR M) (ix u1))) (nI (2 * ix p1 + ix s1 - 1))))), (a 13, .inl (cZ, 120, .inl (bF (sW M)))), (a 14, .inl (cI, 500, .inl (nRw (sN M))))] H := hP
        have hD : va_D (xA (wM a cI cZ M)) [(a 0, .inr (4, [.int (sE (setE M (thS M u1 p1 s1))), .int (nI (sC M)), .int (nI (mN (sK M))), .ref (a 1), .ref (a 2), .ref (a 3), .ref (a 4), .ref (a 5), .ref (a 6), .ref (a 7), .ref (a 8), .ref (a 9), .ref (a 10), .ref (a 11), .ref (a 12), .ref (a 13), .int (nI (nT (sN M))), .ref (a 14)])), (a 1, .inl (cI, 100, .inl (mKd (sK M)))), (a 2, .inl (cI, 100, .inl (mPc (sK M)))), (a 3, .inl (cI, 100, .inl (mSd (sK M)))), (a 4, .inl (cI, 100, .inl (mFr (sK M)))), (a 5, .inl (cI, 100, .inl (mTo (sK M)))), (a 6, .inl (cI, 100, .inl (mNu (sK M)))), (a 7, .inl (cI, 100, .inl (mAn (sK M)))), (a 8, .inl (cI, 100, .inl (mLi (sK M)))), (a 9, .inl (cI, 100, .inl (mWd (sK M)))), (a 10, .inl (cZ, 20, .inl (mOp (sK M)))), (a 11, .inl (cI, 10, .inl (upd (nF (rL (sR M))) (ix u1) (nI ((rL (sR M) (ix u1)) + 1))))), (a 12, .inl (cI, 120, .inl (upd (nF (rP (sR M))) ((ix u1 * 12) + (rL (sR M) (ix u1))) (nI (2 * ix p1 + ix s1 - 1))))), (a 13, .inl (cZ, 120, .inl (bF (sW M)))), (a 14, .inl (cI, 500, .inl (nRw (sN M))))] := hD
        refine lv_aload_n hx hb dX4_step_134 rfl (lv_at hl 0 rfl) ?_
        refine va_get (D := D) (ci := 4) (v := .ref (a 11)) (C := RX4) (T := TX4) (N := 18) hx hb ht inX4 hown hK hP 0 rfl rfl 13 (by decide) (ht _ wd585) (fun _ h9 => h9) rfl dX4_step_135 ?_
        refine lv_iload_n hx hb dX4_step_138 rfl (lv_at hl 1 rfl) ?_
        refine xtop (y := nI (ix u1)) eu ?_
        refine xa_iald hx hb hK hP 11 0 (i := (ix u1)) rfl rfl (by omega) (by decide) dX4_step_139 ?_
        refine xtop (y := nI (rL (sR M) (ix u1) + 1)) (pk_us) ?_
        exact xw_iret (v := nI (rL (sR M) (ix u1) + 1)) hx hb hr hlocks hS (by rw [stepMs, if_neg hno, if_neg h_89]; rw [nF_upd, nF_upd] at hP; exact hP) (by rw [stepMr, if_neg hno, if_neg h_89]) dX4_step_140
      · skip
        have h_89 : (p1 : Int32) = ((-1 : Int32) : Int32) := h_89
        refine lv_aload_n hx hb dX4_step_92 rfl (lv_at hl 0 rfl) ?_
        refine va_get (D := D) (ci := 4) (v := .ref (a 11)) (C := RX4) (T := TX4) (N := 18) hx hb ht inX4 hown hK hP 0 rfl rfl 13 (by decide) (ht _ wd585) (fun _ h9 => h9) rfl dX4_step_93 ?_
        refine lv_iload_n hx hb dX4_step_96 rfl (lv_at hl 1 rfl) ?_
        refine lv_iconst (v := nI 0) hx hb dX4_step_97 (by decide) ?_
        refine xtop2 (y := nI (ix u1)) eu ?_
        refine xa_iast hx hb hK hP hD hS 11 0 (i := (ix u1)) (x := nI 0) rfl rfl (by omega) (by decide) dX4_step_98 (fun H locs hP hD hS => ?_)
        have hP : va_P D vwCl [(a 0, .inr (4, [.int (sE (setE M (thS M u1 p1 s1))), .int (nI (sC M)), .int (nI (mN (sK M))), .ref (a 1), .ref (a 2), .ref (a 3), .ref (a 4), .ref (a 5), .ref (a 6), .ref (a 7), .ref (a 8), .ref (a 9), .ref (a 10), .ref (a 11), .ref (a 12), .ref (a 13), .int (nI (nT (sN M))), .ref (a 14)])), (a 1, .inl (cI, 100, .inl (mKd (sK M)))), (a 2, .inl (cI, 100, .inl (mPc (sK M)))), (a 3, .inl (cI, 100, .inl (mSd (sK M)))), (a 4, .inl (cI, 100, .inl (mFr (sK M)))), (a 5, .inl (cI, 100, .inl (mTo (sK M)))), (a 6, .inl (cI, 100, .inl (mNu (sK M)))), (a 7, .inl (cI, 100, .inl (mAn (sK M)))), (a 8, .inl (cI, 100, .inl (mLi (sK M)))), (a 9, .inl (cI, 100, .inl (mWd (sK M)))), (a 10, .inl (cZ, 20, .inl (mOp (sK M)))), (a 11, .inl (cI, 10, .inl (upd (nF (rL (sR M))) (ix u1) (nI 0)))), (a 12, .inl (cI, 120, .inl (nF (rP (sR M))))), (a 13, .inl (cZ, 120, .inl (bF (sW M)))), (a 14, .inl (cI, 500, .inl (nRw (sN M))))] H := hP
        have hD : va_D (xA (wM a cI cZ M)) [(a 0, .inr (4, [.int (sE (setE M (thS M u1 p1 s1))), .int (nI (sC M)), .int (nI (mN (sK M))), .ref (a 1), .ref (a 2), .ref (a 3), .ref (a 4), .ref (a 5), .ref (a 6), .ref (a 7), .ref (a 8), .ref (a 9), .ref (a 10), .ref (a 11), .ref (a 12), .ref (a 13), .int (nI (nT (sN M))), .ref (a 14)])), (a 1, .inl (cI, 100, .inl (mKd (sK M)))), (a 2, .inl (cI, 100, .inl (mPc (sK M)))), (a 3, .inl (cI, 100, .inl (mSd (sK M)))), (a 4, .inl (cI, 100, .inl (mFr (sK M)))), (a 5, .inl (cI, 100, .inl (mTo (sK M)))), (a 6, .inl (cI, 100, .inl (mNu (sK M)))), (a 7, .inl (cI, 100, .inl (mAn (sK M)))), (a 8, .inl (cI, 100, .inl (mLi (sK M)))), (a 9, .inl (cI, 100, .inl (mWd (sK M)))), (a 10, .inl (cZ, 20, .inl (mOp (sK M)))), (a 11, .inl (cI, 10, .inl (upd (nF (rL (sR M))) (ix u1) (nI 0)))), (a 12, .inl (cI, 120, .inl (nF (rP (sR M))))), (a 13, .inl (cZ, 120, .inl (bF (sW M)))), (a 14, .inl (cI, 500, .inl (nRw (sN M))))] := hD
        refine lv_iconst (v := nI 0) hx hb dX4_step_99 (by decide) ?_
        exact xw_iret (v := nI 0) hx hb hr hlocks hS (by rw [stepMs, if_neg hno, if_pos h_89]; rw [show nI 0 = nI 0 from rfl, nF_upd] at hP; exact hP) (by rw [stepMr, if_neg hno, if_pos h_89]) dX4_step_100
    · skip
      have h_82 : ¬ ((bI (bUp u1 p1 || bSd p1 s1 || bFl (sR M) u1 p1) : Int32) = (0 : Int32)) := h_82
      refine lv_iconst (v := nI 0) hx hb dX4_step_85 (by decide) ?_
      exact xw_iret (v := nI 0) hx hb hr hlocks hS (by rw [stepMs, if_pos (bI_t h_82)]; exact hP) (by rw [stepMr, if_pos (bI_t h_82)]) dX4_step_86
  have J46 : ∀ (H : Heap) (locs : List Loc), va_P D vwCl (wM a cI cZ M) H → va_D (xA (wM a cI cZ M)) (wM a cI cZ M) → va_S (xA (wM a cI cZ M)) s.heap H locs → ∀ ls : Array Slot, lv_has ls 6 [(0, .ref (a 0)), (1, .int (u1)), (2, .int (p1)), (3, .int (s1)), (4, .int (bI (bUp u1 p1)))] → W p l e (xrm 2 42) s m args below meth cd H locs 0 0 (MQ below (xQw (some (.int (stepMr M u1 p1 s1))) D (wM a cI cZ M) (wM a cI cZ (stepMs M u1 p1 s1))) args s 0 0 (xA (wM a cI cZ M))) (F0 m 46 ls [.int (bI (bSd p1 s1))]) := by
    intro H locs hP hD hS ls hl
    refine lv_istore (lv' := [(5, .int (bI (bSd p1 s1))), (0, .ref (a 0)), (1, .int (u1)), (2, .int (p1)), (3, .int (s1)), (4, .int (bI (bUp u1 p1)))]) hx hb dX4_step_46 hl (by decide) rfl (fun ls hl => ?_)
    refine lv_aload_n hx hb dX4_step_48 rfl (lv_at hl 1 rfl) ?_
    refine lv_iload hx hb dX4_step_49 (lv_at hl 5 rfl) ?_
    refine lv_iload hx hb dX4_step_51 (lv_at hl 0 rfl) ?_
    refine lv_iload hx hb dX4_step_53 (lv_at hl 5 rfl) ?_
    refine lv_if_ne (tgt := 78) hx hb dX4_step_55 (by decide) (fun h_55 => ?_) (fun h_55 => ?_)
    · skip
      have h_55 : ¬ ((bI (bUp u1 p1) : Int32) = (0 : Int32)) := h_55
      refine lv_iconst (v := nI 0) hx hb dX4_step_78 (by decide) ?_
      refine xtop (y := bI (bFl (sR M) u1 p1)) (bI_0 (by unfold bFl; first | (rw [bI_t h_55]; rfl) | (rw [decide_eq_true h_60, Bool.not_true, Bool.false_and, Bool.and_false]) | (rw [decide_eq_false (show ¬ rL (sR M) (ix u1) = 12 by omega), Bool.and_false, Bool.and_false]))) ?_
      exact J79 _ _ hP hD hS ls (lv_sub hl [1, 2, 3, 4, 5, 0] rfl)
    · skip
      have h_55 : (bI (bUp u1 p1) : Int32) = (0 : Int32) := h_55
      refine lv_iload_n hx hb dX4_step_58 rfl (lv_at hl 3 rfl) ?_
      refine lv_iconst (v := (-1 : Int32)) hx hb dX4_step_59 (by decide) ?_
      refine lv_icmp_eq (tgt := 78) hx hb dX4_step_60 (by decide) (fun h_60 => ?_) (fun h_60 => ?_)
      · skip
        have h_60 : (p1 : Int32) = ((-1 : Int32) : Int32) := h_60
        refine lv_iconst (v := nI 0) hx hb dX4_step_78 (by decide) ?_
        refine xtop (y := bI (bFl (sR M) u1 p1)) (bI_0 (by unfold bFl; first | (rw [bI_t h_55]; rfl) | (rw [decide_eq_true h_60, Bool.not_true, Bool.false_and, Bool.and_false]) | (rw [decide_eq_false (show ¬ rL (sR M) (ix u1) = 12 by omega), Bool.and_false, Bool.and_false]))) ?_
        exact J79 _ _ hP hD hS ls (lv_sub hl [1, 2, 3, 4, 5, 0] rfl)
      · skip
        have h_60 : ¬ ((p1 : Int32) = ((-1 : Int32) : Int32)) := h_60
        obtain ⟨eu, -, hu9⟩ := ix_in (by decide) (by decide) (notF (Bool.or_eq_false_iff.mp (bI_f h_55)).1)
        have hk := (hR (ix u1) (by omega)).1
        refine lv_aload_n hx hb dX4_step_63 rfl (lv_at hl 1 rfl) ?_
        refine va_get (D := D) (ci := 4) (v := .ref (a 11)) (C := RX4) (T := TX4) (N := 18) hx hb ht inX4 hown hK hP 0 rfl rfl 13 (by decide) (ht _ wd585) (fun _ h9 => h9) rfl dX4_step_64 ?_
        refine lv_iload_n hx hb dX4_step_67 rfl (lv_at hl 2 rfl) ?_
        refine xtop (y := nI (ix u1)) eu ?_
        refine xa_iald hx hb hK hP 11 0 (i := (ix u1)) rfl rfl (by omega) (by decide) dX4_step_68 ?_
        refine lv_bipush (v := nI 12) hx hb dX4_step_69 (by decide) ?_
        refine lv_icmp_ne (tgt := 78) hx hb dX4_step_71 (by decide) (fun h_71 => ?_) (fun h_71 => ?_)
        · skip
          have h_71 : ¬ ((nI (rL (sR M) (ix u1)) : Int32) = (nI 12 : Int32)) := h_71
          have h_71 : ¬ ((rL (sR M) (ix u1)) = 12) := fun z => h_71 ((nI_eq (by omega) (by omega)).mpr z)
          refine lv_iconst (v := nI 0) hx hb dX4_step_78 (by decide) ?_
          refine xtop (y := bI (bFl (sR M) u1 p1)) (bI_0 (by unfold bFl; first | (rw [bI_t h_55]; rfl) | (rw [decide_eq_true h_60, Bool.not_true, Bool.false_and, Bool.and_false]) | (rw [decide_eq_false (show ¬ rL (sR M) (ix u1) = 12 by omega), Bool.and_false, Bool.and_false]))) ?_
          exact J79 _ _ hP hD hS ls (lv_sub hl [1, 2, 3, 4, 5, 0] rfl)
        · skip
          have h_71 : (nI (rL (sR M) (ix u1)) : Int32) = (nI 12 : Int32) := h_71
          have h_71 : (rL (sR M) (ix u1)) = 12 := (nI_eq (by omega) (by omega)).mp h_71
          refine lv_iconst (v := nI 1) hx hb dX4_step_74 (by decide) ?_
          refine lv_goto (tgt := 79) hx hb dX4_step_75 (by decide) ?_
          refine xtop (y := bI (bFl (sR M) u1 p1)) (bI_1 (by unfold bFl; rw [bI_f h_55, decide_eq_false h_60, decide_eq_true (show rL (sR M) (ix u1) = 12 by omega)]; rfl)) ?_
          exact J79 _ _ hP hD hS ls (lv_sub hl [1, 2, 3, 4, 5, 0] rfl)
  have J27 : ∀ (H : Heap) (locs : List Loc), va_P D vwCl (wM a cI cZ M) H → va_D (xA (wM a cI cZ M)) (wM a cI cZ M) → va_S (xA (wM a cI cZ M)) s.heap H locs → ∀ ls : Array Slot, lv_has ls 6 [(0, .ref (a 0)), (1, .int (u1)), (2, .int (p1)), (3, .int (s1))] → W p l e (xrm 2 42) s m args below meth cd H locs 0 0 (MQ below (xQw (some (.int (stepMr M u1 p1 s1))) D (wM a cI cZ M) (wM a cI cZ (stepMs M u1 p1 s1))) args s 0 0 (xA (wM a cI cZ M))) (F0 m 27 ls [.int (bI (bUp u1 p1))]) := by
    intro H locs hP hD hS ls hl
    refine lv_istore (lv' := [(4, .int (bI (bUp u1 p1))), (0, .ref (a 0)), (1, .int (u1)), (2, .int (p1)), (3, .int (s1))]) hx hb dX4_step_27 hl (by decide) rfl (fun ls hl => ?_)
    refine lv_iload_n hx hb dX4_step_29 rfl (lv_at hl 3 rfl) ?_
    refine lv_iconst (v := (-1 : Int32)) hx hb dX4_step_30 (by decide) ?_
    refine lv_icmp_eq (tgt := 45) hx hb dX4_step_31 (by decide) (fun h_31 => ?_) (fun h_31 => ?_)
    · skip
      have h_31 : (p1 : Int32) = ((-1 : Int32) : Int32) := h_31
      refine lv_iconst (v := nI 0) hx hb dX4_step_45 (by decide) ?_
      refine xtop (y := bI (bSd p1 s1)) (bI_0 (by unfold bSd; first | (rw [decide_eq_true h_31]; rfl) | (rw [bI_t h_38, Bool.not_true, Bool.and_false]))) ?_
      exact J46 _ _ hP hD hS ls (lv_sub hl [1, 2, 3, 4, 0] rfl)
    · skip
      have h_31 : ¬ ((p1 : Int32) = ((-1 : Int32) : Int32)) := h_31
      refine lv_iload_n hx hb dX4_step_34 rfl (lv_at hl 4 rfl) ?_
      refine xrS (As := [.int (s1)]) (rest := []) hx hb hml hown ht hN kS_X4_104 (r_X4_isSide l D s1) ⟨by decide, by decide⟩ (fun k q h => by simp at h) (hK.sub (tys' := []) [] rfl) rfl hl.1 rfl (Nat.le_of_ble_eq_true rfl) dX4_step_35 ⟨Nat.zero_le _, Nat.zero_le _⟩ ?_
      refine lv_if_ne (tgt := 45) hx hb dX4_step_38 (by decide) (fun h_38 => ?_) (fun h_38 => ?_)
      · skip
        have h_38 : ¬ ((bI (inI s1 (nI 1) (nI 2)) : Int32) = (0 : Int32)) := h_38
        refine lv_iconst (v := nI 0) hx hb dX4_step_45 (by decide) ?_
        refine xtop (y := bI (bSd p1 s1)) (bI_0 (by unfold bSd; first | (rw [decide_eq_true h_31]; rfl) | (rw [bI_t h_38, Bool.not_true, Bool.and_false]))) ?_
        exact J46 _ _ hP hD hS ls (lv_sub hl [1, 2, 3, 4, 0] rfl)
      · skip
        have h_38 : (bI (inI s1 (nI 1) (nI 2)) : Int32) = (0 : Int32) := h_38
        refine lv_iconst (v := nI 1) hx hb dX4_step_41 (by decide) ?_
        refine lv_goto (tgt := 46) hx hb dX4_step_42 (by decide) ?_
        refine xtop (y := bI (bSd p1 s1)) (bI_1 (by unfold bSd; rw [decide_eq_false h_31, bI_f h_38]; rfl)) ?_
        exact J46 _ _ hP hD hS ls (lv_sub hl [1, 2, 3, 4, 0] rfl)
  refine lv_iload_n hx hb dX4_step_0 rfl (lv_at hl 1 rfl) ?_
  refine lv_iconst (v := nI 0) hx hb dX4_step_1 (by decide) ?_
  refine lv_bipush (v := nI 9) hx hb dX4_step_2 (by decide) ?_
  refine xrS (As := [.int (u1), .int (nI 0), .int (nI 9)]) (rest := []) hx hb hml hown ht hN kS_X4_57 (r_X4_in l D u1 (nI 0) (nI 9)) ⟨by decide, by decide⟩ (fun k q h => by simp at h) (hK.sub (tys' := []) [] rfl) rfl hl.1 rfl (Nat.le_of_ble_eq_true rfl) dX4_step_4 ⟨Nat.zero_le _, Nat.zero_le _⟩ ?_
  refine lv_if_eq (tgt := 22) hx hb dX4_step_7 (by decide) (fun h_7 => ?_) (fun h_7 => ?_)
  · skip
    have h_7 : (bI (inI u1 (nI 0) (nI 9)) : Int32) = (0 : Int32) := h_7
    refine lv_iconst (v := nI 1) hx hb dX4_step_22 (by decide) ?_
    refine lv_goto (tgt := 27) hx hb dX4_step_23 (by decide) ?_
    refine xtop (y := bI (bUp u1 p1)) (bI_1 (by unfold bUp; first | (rw [bI_f h_7]; rfl) | (rw [decide_eq_false h_12, bI_f h_19, Bool.not_false, Bool.and_self, Bool.or_true]))) ?_
    exact J27 _ _ hP hD hS ls (lv_sub hl [0, 1, 2, 3] rfl)
  · skip
    have h_7 : ¬ ((bI (inI u1 (nI 0) (nI 9)) : Int32) = (0 : Int32)) := h_7
    refine lv_iload_n hx hb dX4_step_10 rfl (lv_at hl 2 rfl) ?_
    refine lv_iconst (v := (-1 : Int32)) hx hb dX4_step_11 (by decide) ?_
    refine lv_icmp_eq (tgt := 26) hx hb dX4_step_12 (by decide) (fun h_12 => ?_) (fun h_12 => ?_)
    · skip
      have h_12 : (p1 : Int32) = ((-1 : Int32) : Int32) := h_12
      refine lv_iconst (v := nI 0) hx hb dX4_step_26 (by decide) ?_
      refine xtop (y := bI (bUp u1 p1)) (bI_0 (by unfold bUp; rw [bI_t h_7]; first | (rw [decide_eq_true h_12]; rfl) | (rw [bI_t h_19, Bool.not_true, Bool.and_false]; rfl))) ?_
      exact J27 _ _ hP hD hS ls (lv_sub hl [0, 1, 2, 3] rfl)
    · skip
      have h_12 : ¬ ((p1 : Int32) = ((-1 : Int32) : Int32)) := h_12
      refine lv_iload_n hx hb dX4_step_15 rfl (lv_at hl 2 rfl) ?_
      refine xrS (As := [.int (p1)]) (rest := []) hx hb hml hown ht hN kS_X4_84 (r_X4_isPiece l D p1) ⟨by decide, by decide⟩ (fun k q h => by simp at h) (hK.sub (tys' := []) [] rfl) rfl hl.1 rfl (Nat.le_of_ble_eq_true rfl) dX4_step_16 ⟨Nat.zero_le _, Nat.zero_le _⟩ ?_
      refine lv_if_ne (tgt := 26) hx hb dX4_step_19 (by decide) (fun h_19 => ?_) (fun h_19 => ?_)
      · skip
        have h_19 : ¬ ((bI (inI p1 (nI 0) (nI 59)) : Int32) = (0 : Int32)) := h_19
        refine lv_iconst (v := nI 0) hx hb dX4_step_26 (by decide) ?_
        refine xtop (y := bI (bUp u1 p1)) (bI_0 (by unfold bUp; rw [bI_t h_7]; first | (rw [decide_eq_true h_12]; rfl) | (rw [bI_t h_19, Bool.not_true, Bool.and_false]; rfl))) ?_
        exact J27 _ _ hP hD hS ls (lv_sub hl [0, 1, 2, 3] rfl)
      · skip
        have h_19 : (bI (inI p1 (nI 0) (nI 59)) : Int32) = (0 : Int32) := h_19
        refine lv_iconst (v := nI 1) hx hb dX4_step_22 (by decide) ?_
        refine lv_goto (tgt := 27) hx hb dX4_step_23 (by decide) ?_
        refine xtop (y := bI (bUp u1 p1)) (bI_1 (by unfold bUp; first | (rw [bI_f h_7]; rfl) | (rw [decide_eq_false h_12, bI_f h_19, Bool.not_false, Bool.and_self, Bool.or_true]))) ?_
        exact J27 _ _ hP hD hS ls (lv_sub hl [0, 1, 2, 3] rfl)
set_option maxHeartbeats 4000000 in
set_option maxRecDepth 100000 in
theorem r_X4_blocked (l : Launch) (D : va_G) (a : Nat → Nat) (cI cZ : ClassId) (M : MS) (hO : mOk (sK M)) (hR : rOk (sR M)) (hT0 : nT (sN M) + 1200 < 2 ^ 30) (u1 : Int32) : xWR l yX4_blocked cX4_blocked 4 (some .int) (xrm 2 48) [.ref (a 0), .int (u1)] D (wM a cI cZ M) (tyL cI cZ) (some (.int (blkMr M u1))) (wM a cI cZ (blkMs M u1)) := by
  refine xWR.of (by decide +kernel) (Nat.le_of_ble_eq_true rfl) ?_
  intro p e s m args below meth cd hx hb hr hml hown hlocks ht hN hP hK hD hS ls hl
  have hl : lv_has ls 4 [(0, .ref (a 0)), (1, .int (u1))] := hl
  have hown : s.vm.findClass RX4 = some m.cls := hown
  have L30 : ∀ (n : Nat) (n1 : Nat) (k : Nat), (rL (sR M) (ix u1) < k + n) → (k ≤ rL (sR M) (ix u1)) → (u1 = nI (ix u1)) → (ix u1 ≤ 9) → (¬ (bUn u1 || false || false) = true) → (n1 = cntN (fun k => plB M (rP (sR M) (ix u1 * 12 + k))) k) → ∀ (H : Heap) (locs : List Loc), va_P D vwCl (wM a cI cZ (blkMs M u1)) H → va_D (xA (wM a cI cZ M)) (wM a cI cZ (blkMs M u1)) → va_S (xA (wM a cI cZ M)) s.heap H locs → ∀ ls : Array Slot, lv_has ls 4 [(0, .ref (a 0)), (1, .int (u1)), (2, .int (nI n1)), (3, .int (nI k))] → W p l e (xrm 2 48) s m args below meth cd H locs 0 0 (MQ below (xQw (some (.int (blkMr M u1))) D (wM a cI cZ M) (wM a cI cZ (blkMs M u1))) args s 0 0 (xA (wM a cI cZ M))) (F0 m 30 ls []) := by
    intro n
    induction n with
    | zero =>
      intro n1 k hfuel hi eu hu9 hz0 hv
      exact absurd hfuel (by omega)
    | succ n ih30 =>
      intro n1 k hfuel hi eu hu9 hz0 hv H locs hP hD hS ls hl
      have hk := (hR (ix u1) (by omega)).1
      have hq := (hR (ix u1) (by omega)).2
      refine lv_iload_n hx hb dX4_blocked_30 rfl (lv_at hl 3 rfl) ?_
      refine lv_aload_n hx hb dX4_blocked_31 rfl (lv_at hl 0 rfl) ?_
      refine va_get (D := D) (ci := 4) (v := .ref (a 11)) (C := RX4) (T := TX4) (N := 18) hx hb ht inX4 hown hK hP 0 rfl rfl 13 (by decide) (ht _ wd585) (fun _ h9 => h9) rfl dX4_blocked_32 ?_
      refine lv_iload_n hx hb dX4_blocked_35 rfl (lv_at hl 1 rfl) ?_
      refine xtop (y := nI (ix u1)) eu ?_
      refine xa_iald hx hb hK hP 11 0 (i := (ix u1)) rfl rfl (by omega) (by decide) dX4_blocked_36 ?_
      refine lv_icmp_ge (tgt := 93) hx hb dX4_blocked_37 (by decide) (fun h_37 => ?_) (fun h_37 => ?_)
      · skip
        have h_37 : (nI (rL (sR M) (ix u1)) : Int32) ≤ (nI k : Int32) := h_37
        have h_37 : (rL (sR M) (ix u1)) ≤ k := (nI_leI (by omega) (by omega)).mp h_37
        refine lv_iload_n hx hb dX4_blocked_93 rfl (lv_at hl 2 rfl) ?_
        exact xw_iret (v := nI n1) hx hb hr hlocks hS hP (by rw [blkMr, if_neg hz0, show rL (sR M) (ix u1) = k by omega, ← hv]) dX4_blocked_94
      · skip
        have h_37 : ¬ ((nI (rL (sR M) (ix u1)) : Int32) ≤ (nI k : Int32)) := h_37
        have h_37 : ¬ ((rL (sR M) (ix u1)) ≤ k) := fun z => h_37 ((nI_leI (by omega) (by omega)).mpr z)
        have hk9 := hq k (by omega)
        refine lv_iload_n hx hb dX4_blocked_40 rfl (lv_at hl 2 rfl) ?_
        refine lv_aload_n hx hb dX4_blocked_41 rfl (lv_at hl 0 rfl) ?_
        refine lv_aload_n hx hb dX4_blocked_42 rfl (lv_at hl 0 rfl) ?_
        refine va_get (D := D) (ci := 4) (v := .ref (a 12)) (C := RX4) (T := TX4) (N := 18) hx hb ht inX4 hown hK hP 0 rfl rfl 14 (by decide) (ht _ wd586) (fun _ h9 => h9) rfl dX4_blocked_43 ?_
        refine lv_bipush (v := nI 12) hx hb dX4_blocked_46 (by decide) ?_
        refine lv_iload_n hx hb dX4_blocked_48 rfl (lv_at hl 1 rfl) ?_
        refine xtop (y := nI (ix u1)) eu ?_
        refine lv_imul hx hb dX4_blocked_49 ?_
        refine xtop (y := nI (ix u1 * 12)) (by rw [pk_mul, Nat.mul_comm]) ?_
        refine lv_iload_n hx hb dX4_blocked_50 rfl (lv_at hl 3 rfl) ?_
        refine lv_iadd hx hb dX4_blocked_51 ?_
        refine xtop (y := nI ((ix u1 * 12) + k)) (nI_add _ _) ?_
        refine xa_iald hx hb hK hP 12 0 (i := ((ix u1 * 12) + k)) rfl rfl (by omega) (by decide) dX4_blocked_52 ?_
        refine lv_iconst (v := nI 2) hx hb dX4_blocked_53 (by decide) ?_
        refine lv_idiv hx hb dX4_blocked_54 (by decide) ?_
        refine xtop (y := nI (rP (sR M) (ix u1 * 12 + k) / 2)) (pk_div (a := rP (sR M) (ix u1 * 12 + k)) (by omega) (by decide) (by decide)) ?_
        refine lv_aload_n hx hb dX4_blocked_55 rfl (lv_at hl 0 rfl) ?_
        refine va_get (D := D) (ci := 4) (v := .ref (a 12)) (C := RX4) (T := TX4) (N := 18) hx hb ht inX4 hown hK hP 0 rfl rfl 14 (by decide) (ht _ wd586) (fun _ h9 => h9) rfl dX4_blocked_56 ?_
        refine lv_bipush (v := nI 12) hx hb dX4_blocked_59 (by decide) ?_
        refine lv_iload_n hx hb dX4_blocked_61 rfl (lv_at hl 1 rfl) ?_
        refine xtop (y := nI (ix u1)) eu ?_
        refine lv_imul hx hb dX4_blocked_62 ?_
        refine xtop (y := nI (ix u1 * 12)) (by rw [pk_mul, Nat.mul_comm]) ?_
        refine lv_iload_n hx hb dX4_blocked_63 rfl (lv_at hl 3 rfl) ?_
        refine lv_iadd hx hb dX4_blocked_64 ?_
        refine xtop (y := nI ((ix u1 * 12) + k)) (nI_add _ _) ?_
        refine xa_iald hx hb hK hP 12 0 (i := ((ix u1 * 12) + k)) rfl rfl (by omega) (by decide) dX4_blocked_65 ?_
        refine lv_iconst (v := nI 2) hx hb dX4_blocked_66 (by decide) ?_
        refine lv_irem hx hb dX4_blocked_67 (by decide) ?_
        refine xtop (y := nI (rP (sR M) (ix u1 * 12 + k) % 2)) (pk_rem (a := rP (sR M) (ix u1 * 12 + k)) (by omega) (by decide) (by decide)) ?_
        refine lv_iconst (v := nI 1) hx hb dX4_blocked_68 (by decide) ?_
        refine lv_iadd hx hb dX4_blocked_69 ?_
        refine xtop (y := nI ((rP (sR M) (ix u1 * 12 + k) % 2) + 1)) (nI_add _ _) ?_
        refine lv_aload_n hx hb dX4_blocked_70 rfl (lv_at hl 0 rfl) ?_
        refine va_get (D := D) (ci := 4) (v := .int (nI (sC M))) (C := RX4) (T := TX4) (N := 18) hx hb ht inX4 hown hK hP 0 rfl rfl 1 (by decide) (ht _ wd573) (fun _ h9 => h9) rfl dX4_blocked_71 ?_
        refine xrV (As := [.int (nI (rP (sR M) (ix u1 * 12 + k) / 2)), .int (nI ((rP (sR M) (ix u1 * 12 + k) % 2) + 1)), .int (nI (sC M))]) (rest := [.int (nI n1)]) hx hb hml hown ht hN kV_X4_75 (r_X4_isClosed l D a cI cZ (blkMs M u1) hO (nI (rP (sR M) (ix u1 * 12 + k) / 2)) (nI (rP (sR M) (ix u1 * 12 + k) % 2 + 1)) (nI (sC M))) ⟨by decide, by decide⟩ hP hK rfl rfl rfl rfl hl.1 rfl (Nat.le_of_ble_eq_true rfl) dX4_blocked_74 ⟨Nat.zero_le _, Nat.zero_le _⟩ ?_
        refine lv_if_eq (tgt := 84) hx hb dX4_blocked_77 (by decide) (fun h_77 => ?_) (fun h_77 => ?_)
        · skip
          have h_77 : (bI (plB M (rP (sR M) (ix u1 * 12 + k))) : Int32) = (0 : Int32) := h_77
          refine lv_iconst (v := nI 0) hx hb dX4_blocked_84 (by decide) ?_
          refine lv_iadd hx hb dX4_blocked_85 ?_
          refine xtop (y := nI (n1 + 0)) (nI_add _ _) ?_
          refine lv_istore_n (lv' := [(2, .int (nI (n1 + 0))), (0, .ref (a 0)), (1, .int (u1)), (3, .int (nI k))]) hx hb dX4_blocked_86 rfl hl (by decide) rfl (fun ls hl => ?_)
          refine lv_iinc (v := nI (k + 1)) (lv' := [(3, .int (nI (k + 1))), (2, .int (nI (n1 + 0))), (0, .ref (a 0)), (1, .int (u1))]) hx hb dX4_blocked_87 hl (k := 3) rfl (nI_1 _) (by decide) rfl (fun ls hl => ?_)
          refine lv_goto (tgt := 30) hx hb dX4_blocked_90 (by decide) ?_
          exact ih30 (n1 + 0) (k + 1) (by omega) (by omega) eu hu9 hz0 (by rw [cntN, ← hv]; first | (rw [if_pos (bI_t h_77)]; done) | (rw [if_neg (by rw [bI_f h_77]; decide)]; done)) _ _ hP hD hS ls (lv_sub hl [2, 3, 1, 0] rfl)
        · skip
          have h_77 : ¬ ((bI (plB M (rP (sR M) (ix u1 * 12 + k))) : Int32) = (0 : Int32)) := h_77
          refine lv_iconst (v := nI 1) hx hb dX4_blocked_80 (by decide) ?_
          refine lv_goto (tgt := 85) hx hb dX4_blocked_81 (by decide) ?_
          refine lv_iadd hx hb dX4_blocked_85 ?_
          refine xtop (y := nI (n1 + 1)) (nI_add _ _) ?_
          refine lv_istore_n (lv' := [(2, .int (nI (n1 + 1))), (0, .ref (a 0)), (1, .int (u1)), (3, .int (nI k))]) hx hb dX4_blocked_86 rfl hl (by decide) rfl (fun ls hl => ?_)
          refine lv_iinc (v := nI (k + 1)) (lv' := [(3, .int (nI (k + 1))), (2, .int (nI (n1 + 1))), (0, .ref (a 0)), (1, .int (u1))]) hx hb dX4_blocked_87 hl (k := 3) rfl (nI_1 _) (by decide) rfl (fun ls hl => ?_)
          refine lv_goto (tgt := 30) hx hb dX4_blocked_90 (by decide) ?_
          exact ih30 (n1 + 1) (k + 1) (by omega) (by omega) eu hu9 hz0 (by rw [cntN, ← hv]; first | (rw [if_pos (bI_t h_77)]; done) | (rw [if_neg (by rw [bI_f h_77]; decide)]; done)) _ _ hP hD hS ls (lv_sub hl [2, 3, 1, 0] rfl)
  have J16 : ∀ (H : Heap) (locs : List Loc), va_P D vwCl (wM a cI cZ M) H → va_D (xA (wM a cI cZ M)) (wM a cI cZ M) → va_S (xA (wM a cI cZ M)) s.heap H locs → ∀ ls : Array Slot, lv_has ls 4 [(0, .ref (a 0)), (1, .int (u1))] → W p l e (xrm 2 48) s m args below meth cd H locs 0 0 (MQ below (xQw (some (.int (blkMr M u1))) D (wM a cI cZ M) (wM a cI cZ (blkMs M u1))) args s 0 0 (xA (wM a cI cZ M))) (F0 m 16 ls [.int (bI (bUn u1)), .ref (a 0)]) := by
    intro H locs hP hD hS ls hl
    refine lv_iconst (v := nI 0) hx hb dX4_blocked_16 (by decide) ?_
    refine lv_iconst (v := nI 0) hx hb dX4_blocked_17 (by decide) ?_
    refine xwV (As := [.int (bI (bUn u1)), .int (nI 0), .int (nI 0)]) (rest := []) (wr := []) (ws2 := (wM a cI cZ (blkMs M u1))) hx hb hml hown ht hN kV_X4_94 (r_X4_throwing l D a cI cZ M (bUn u1) (false) (false)) ⟨by decide, by decide⟩ hP hD hS hK [0, 1, 2, 3, 4, 5, 6, 7, 8, 9, 10, 11, 12, 13, 14] [] [0, 1, 2, 3, 4, 5, 6, 7, 8, 9, 10, 11, 12, 13, 14] rfl rfl (by decide) (by decide) (by decide) rfl rfl (by decide) rfl rfl rfl rfl hl.1 rfl (Nat.le_of_ble_eq_true rfl) dX4_blocked_18 ⟨Nat.zero_le _, Nat.zero_le _⟩ (fun H locs hP hD hS => ?_)
    refine lv_if_eq (tgt := 26) hx hb dX4_blocked_21 (by decide) (fun h_21 => ?_) (fun h_21 => ?_)
    · skip
      have h_21 : (bI (bUn u1 || false || false) : Int32) = (0 : Int32) := h_21
      have hz0 : ¬ (bUn u1 || false || false) = true := by rw [bI_f h_21]; decide
      obtain ⟨eu, -, hu9⟩ := ix_in (by decide) (by decide) (notF (orF (b := false) (bI_f h_21)).1)
      refine lv_iconst (v := nI 0) hx hb dX4_blocked_26 (by decide) ?_
      refine lv_istore_n (lv' := [(2, .int (nI 0)), (0, .ref (a 0)), (1, .int (u1))]) hx hb dX4_blocked_27 rfl hl (by decide) rfl (fun ls hl => ?_)
      refine lv_iconst (v := nI 0) hx hb dX4_blocked_28 (by decide) ?_
      refine lv_istore_n (lv' := [(3, .int (nI 0)), (2, .int (nI 0)), (0, .ref (a 0)), (1, .int (u1))]) hx hb dX4_blocked_29 rfl hl (by decide) rfl (fun ls hl => ?_)
      exact L30 (rL (sR M) (ix u1) + 1) 0 0 (by omega) (by omega) eu hu9 hz0 rfl _ _ hP hD hS ls (lv_sub hl [2, 3, 1, 0] rfl)
    · skip
      have h_21 : ¬ ((bI (bUn u1 || false || false) : Int32) = (0 : Int32)) := h_21
      refine lv_iconst (v := nI 0) hx hb dX4_blocked_24 (by decide) ?_
      exact xw_iret (v := nI 0) hx hb hr hlocks hS hP (by rw [blkMr, if_pos (bI_t h_21)]) dX4_blocked_25
  refine lv_aload_n hx hb dX4_blocked_0 rfl (lv_at hl 0 rfl) ?_
  refine lv_iload_n hx hb dX4_blocked_1 rfl (lv_at hl 1 rfl) ?_
  refine lv_iconst (v := nI 0) hx hb dX4_blocked_2 (by decide) ?_
  refine lv_bipush (v := nI 9) hx hb dX4_blocked_3 (by decide) ?_
  refine xrS (As := [.int (u1), .int (nI 0), .int (nI 9)]) (rest := [.ref (a 0)]) hx hb hml hown ht hN kS_X4_57 (r_X4_in l D u1 (nI 0) (nI 9)) ⟨by decide, by decide⟩ (fun k q h => by simp at h) (hK.sub (tys' := []) [] rfl) rfl hl.1 rfl (Nat.le_of_ble_eq_true rfl) dX4_blocked_5 ⟨Nat.zero_le _, Nat.zero_le _⟩ ?_
  refine lv_if_ne (tgt := 15) hx hb dX4_blocked_8 (by decide) (fun h_8 => ?_) (fun h_8 => ?_)
  · skip
    have h_8 : ¬ ((bI (inI u1 (nI 0) (nI 9)) : Int32) = (0 : Int32)) := h_8
    refine lv_iconst (v := nI 0) hx hb dX4_blocked_15 (by decide) ?_
    refine xtop (y := bI (bUn u1)) (bI_0 (by unfold bUn; rw [bI_t h_8]; rfl)) ?_
    exact J16 _ _ hP hD hS ls (lv_sub hl [0, 1] rfl)
  · skip
    have h_8 : (bI (inI u1 (nI 0) (nI 9)) : Int32) = (0 : Int32) := h_8
    refine lv_iconst (v := nI 1) hx hb dX4_blocked_11 (by decide) ?_
    refine lv_goto (tgt := 16) hx hb dX4_blocked_12 (by decide) ?_
    refine xtop (y := bI (bUn u1)) (bI_1 (by unfold bUn; rw [bI_f h_8]; rfl)) ?_
    exact J16 _ _ hP hD hS ls (lv_sub hl [0, 1] rfl)
set_option maxHeartbeats 4000000 in
set_option maxRecDepth 100000 in
theorem r_X4_notice (l : Launch) (D : va_G) (a : Nat → Nat) (cI cZ : ClassId) (M : MS) (hO : mOk (sK M)) (hR : rOk (sR M)) (hT0 : nT (sN M) + 1200 < 2 ^ 30) (i1 w1 : Int32) : xWR l yX4_notice cX4_notice 3 (some .int) (xrm 1 23) [.ref (a 0), .int (i1), .int (w1)] D (wM a cI cZ M) (tyL cI cZ) (some (.int (notMr M i1 w1))) (wM a cI cZ (notMs M i1 w1)) := by
  refine xWR.of (by decide +kernel) (Nat.le_of_ble_eq_true rfl) ?_
  intro p e s m args below meth cd hx hb hr hml hown hlocks ht hN hP hK hD hS ls hl
  have hl : lv_has ls 3 [(0, .ref (a 0)), (1, .int (i1)), (2, .int (w1))] := hl
  have hown : s.vm.findClass RX4 = some m.cls := hown
  have J48 : ∀ (H : Heap) (locs : List Loc), va_P D vwCl (wM a cI cZ M) H → va_D (xA (wM a cI cZ M)) (wM a cI cZ M) → va_S (xA (wM a cI cZ M)) s.heap H locs → ∀ ls : Array Slot, lv_has ls 3 [(0, .ref (a 0)), (1, .int (i1)), (2, .int (w1))] → W p l e (xrm 1 23) s m args below meth cd H locs 0 0 (MQ below (xQw (some (.int (notMr M i1 w1))) D (wM a cI cZ M) (wM a cI cZ (notMs M i1 w1))) args s 0 0 (xA (wM a cI cZ M))) (F0 m 48 ls [.int (bI (bNo (nT (sN M)) i1 w1)), .ref (a 0)]) := by
    intro H locs hP hD hS ls hl
    refine lv_iconst (v := nI 0) hx hb dX4_notice_48 (by decide) ?_
    refine lv_iconst (v := nI 0) hx hb dX4_notice_49 (by decide) ?_
    refine xwV (As := [.int (bI (bNo (nT (sN M)) i1 w1)), .int (nI 0), .int (nI 0)]) (rest := []) (wr := []) (ws2 := (wM a cI cZ (notMs M i1 w1))) hx hb hml hown ht hN kV_X4_94 (r_X4_throwing l D a cI cZ M (bNo (nT (sN M)) i1 w1) (false) (false)) ⟨by decide, by decide⟩ hP hD hS hK [0, 1, 2, 3, 4, 5, 6, 7, 8, 9, 10, 11, 12, 13, 14] [] [0, 1, 2, 3, 4, 5, 6, 7, 8, 9, 10, 11, 12, 13, 14] rfl rfl (by decide) (by decide) (by decide) rfl rfl (by decide) rfl rfl rfl rfl hl.1 rfl (Nat.le_of_ble_eq_true rfl) dX4_notice_50 ⟨Nat.zero_le _, Nat.zero_le _⟩ (fun H locs hP hD hS => ?_)
    refine lv_if_eq (tgt := 58) hx hb dX4_notice_53 (by decide) (fun h_53 => ?_) (fun h_53 => ?_)
    · skip
      have h_53 : (bI (bNo (nT (sN M)) i1 w1 || false || false) : Int32) = (0 : Int32) := h_53
      have hz0 : ¬ (bNo (nT (sN M)) i1 w1 || false || false) = true := by rw [bI_f h_53]; decide
      obtain ⟨g1, g2⟩ := Bool.or_eq_false_iff.mp (orF (b := false) (bI_f h_53)).1
      obtain ⟨ei, hi9⟩ := ix_lo (by omega) (notF g1)
      obtain ⟨ew, -, hw9⟩ := ix_in (by decide) (by decide) (notF g2)
      refine lv_aload_n hx hb dX4_notice_58 rfl (lv_at hl 0 rfl) ?_
      refine va_get (D := D) (ci := 4) (v := .ref (a 14)) (C := RX4) (T := TX4) (N := 18) hx hb ht inX4 hown hK hP 0 rfl rfl 17 (by decide) (ht _ wd589) (fun _ h9 => h9) rfl dX4_notice_59 ?_
      refine lv_iconst (v := nI 5) hx hb dX4_notice_62 (by decide) ?_
      refine lv_iload_n hx hb dX4_notice_63 rfl (lv_at hl 1 rfl) ?_
      refine lv_bipush (v := nI 100) hx hb dX4_notice_64 (by decide) ?_
      refine xtop2 (y := nI (ix i1)) ei ?_
      refine lv_irem hx hb dX4_notice_66 (by decide) ?_
      refine xtop (y := nI (ix i1 % 100)) (pk_rem (by omega) (by decide) (by decide)) ?_
      refine lv_imul hx hb dX4_notice_67 ?_
      refine xtop (y := nI (fstT (ix i1))) (by rw [pk_mul, Nat.mul_comm]) ?_
      refine lv_iload_n hx hb dX4_notice_68 rfl (lv_at hl 2 rfl) ?_
      refine xtop (y := nI (ix w1)) ew ?_
      refine lv_iadd hx hb dX4_notice_69 ?_
      refine xtop (y := nI ((fstT (ix i1)) + (ix w1))) (nI_add _ _) ?_
      refine xa_iald hx hb hK hP 14 0 (i := ((fstT (ix i1)) + (ix w1))) rfl rfl (by show ix i1 % 100 * 5 + ix w1 < 500; omega) (by decide) dX4_notice_70 ?_
      exact xw_iret (v := (nRw (sN M)) ((fstT (ix i1)) + (ix w1))) hx hb hr hlocks hS hP (by rw [notMr, if_neg hz0]) dX4_notice_71
    · skip
      have h_53 : ¬ ((bI (bNo (nT (sN M)) i1 w1 || false || false) : Int32) = (0 : Int32)) := h_53
      refine lv_iconst (v := nI 0) hx hb dX4_notice_56 (by decide) ?_
      exact xw_iret (v := nI 0) hx hb hr hlocks hS hP (by rw [notMr, if_pos (bI_t h_53)]) dX4_notice_57
  have J22 : ∀ (H : Heap) (locs : List Loc), va_P D vwCl (wM a cI cZ M) H → va_D (xA (wM a cI cZ M)) (wM a cI cZ M) → va_S (xA (wM a cI cZ M)) s.heap H locs → ∀ ls : Array Slot, lv_has ls 3 [(0, .ref (a 0)), (1, .int (i1)), (2, .int (w1))] → W p l e (xrm 1 23) s m args below meth cd H locs 0 0 (MQ below (xQw (some (.int (notMr M i1 w1))) D (wM a cI cZ M) (wM a cI cZ (notMs M i1 w1))) args s 0 0 (xA (wM a cI cZ M))) (F0 m 22 ls [.int (loN (nT (sN M))), .int (i1), .ref (a 0)]) := by
    intro H locs hP hD hS ls hl
    refine lv_aload_n hx hb dX4_notice_22 rfl (lv_at hl 0 rfl) ?_
    refine va_get (D := D) (ci := 4) (v := .int (nI (nT (sN M)))) (C := RX4) (T := TX4) (N := 18) hx hb ht inX4 hown hK hP 0 rfl rfl 16 (by decide) (ht _ wd588) (fun _ h9 => h9) rfl dX4_notice_23 ?_
    refine lv_iconst (v := nI 1) hx hb dX4_notice_26 (by decide) ?_
    refine lv_isub hx hb dX4_notice_27 ?_
    refine xrS (As := [.int (i1), .int (loN (nT (sN M))), .int ((nI (nT (sN M))) - (nI 1))]) (rest := [.ref (a 0)]) hx hb hml hown ht hN kS_X4_57 (r_X4_in l D i1 (loN (nT (sN M))) (nI (nT (sN M)) - nI 1)) ⟨by decide, by decide⟩ (fun k q h => by simp at h) (hK.sub (tys' := []) [] rfl) rfl hl.1 rfl (Nat.le_of_ble_eq_true rfl) dX4_notice_28 ⟨Nat.zero_le _, Nat.zero_le _⟩ ?_
    refine lv_if_eq (tgt := 43) hx hb dX4_notice_31 (by decide) (fun h_31 => ?_) (fun h_31 => ?_)
    · skip
      have h_31 : (bI (inI i1 (loN (nT (sN M))) (nI (nT (sN M)) - nI 1)) : Int32) = (0 : Int32) := h_31
      refine lv_iconst (v := nI 1) hx hb dX4_notice_43 (by decide) ?_
      refine lv_goto (tgt := 48) hx hb dX4_notice_44 (by decide) ?_
      refine xtop (y := bI (bNo (nT (sN M)) i1 w1)) (bI_1 (by unfold bNo; first | (rw [bI_f h_31]; rfl) | (rw [bI_f h_40, Bool.not_false, Bool.or_true]))) ?_
      exact J48 _ _ hP hD hS ls (lv_sub hl [0, 1, 2] rfl)
    · skip
      have h_31 : ¬ ((bI (inI i1 (loN (nT (sN M))) (nI (nT (sN M)) - nI 1)) : Int32) = (0 : Int32)) := h_31
      refine lv_iload_n hx hb dX4_notice_34 rfl (lv_at hl 2 rfl) ?_
      refine lv_iconst (v := nI 0) hx hb dX4_notice_35 (by decide) ?_
      refine lv_iconst (v := nI 4) hx hb dX4_notice_36 (by decide) ?_
      refine xrS (As := [.int (w1), .int (nI 0), .int (nI 4)]) (rest := [.ref (a 0)]) hx hb hml hown ht hN kS_X4_57 (r_X4_in l D w1 (nI 0) (nI 4)) ⟨by decide, by decide⟩ (fun k q h => by simp at h) (hK.sub (tys' := []) [] rfl) rfl hl.1 rfl (Nat.le_of_ble_eq_true rfl) dX4_notice_37 ⟨Nat.zero_le _, Nat.zero_le _⟩ ?_
      refine lv_if_ne (tgt := 47) hx hb dX4_notice_40 (by decide) (fun h_40 => ?_) (fun h_40 => ?_)
      · skip
        have h_40 : ¬ ((bI (inI w1 (nI 0) (nI 4)) : Int32) = (0 : Int32)) := h_40
        refine lv_iconst (v := nI 0) hx hb dX4_notice_47 (by decide) ?_
        refine xtop (y := bI (bNo (nT (sN M)) i1 w1)) (bI_0 (by unfold bNo; rw [bI_t h_31, bI_t h_40]; rfl)) ?_
        exact J48 _ _ hP hD hS ls (lv_sub hl [0, 1, 2] rfl)
      · skip
        have h_40 : (bI (inI w1 (nI 0) (nI 4)) : Int32) = (0 : Int32) := h_40
        refine lv_iconst (v := nI 1) hx hb dX4_notice_43 (by decide) ?_
        refine lv_goto (tgt := 48) hx hb dX4_notice_44 (by decide) ?_
        refine xtop (y := bI (bNo (nT (sN M)) i1 w1)) (bI_1 (by unfold bNo; first | (rw [bI_f h_31]; rfl) | (rw [bI_f h_40, Bool.not_false, Bool.or_true]))) ?_
        exact J48 _ _ hP hD hS ls (lv_sub hl [0, 1, 2] rfl)
  refine lv_aload_n hx hb dX4_notice_0 rfl (lv_at hl 0 rfl) ?_
  refine lv_iload_n hx hb dX4_notice_1 rfl (lv_at hl 1 rfl) ?_
  refine lv_aload_n hx hb dX4_notice_2 rfl (lv_at hl 0 rfl) ?_
  refine va_get (D := D) (ci := 4) (v := .int (nI (nT (sN M)))) (C := RX4) (T := TX4) (N := 18) hx hb ht inX4 hown hK hP 0 rfl rfl 16 (by decide) (ht _ wd588) (fun _ h9 => h9) rfl dX4_notice_3 ?_
  refine lv_bipush (v := nI 100) hx hb dX4_notice_6 (by decide) ?_
  refine lv_icmp_le (tgt := 21) hx hb dX4_notice_8 (by decide) (fun h_8 => ?_) (fun h_8 => ?_)
  · skip
    have h_8 : (nI (nT (sN M)) : Int32) ≤ (nI 100 : Int32) := h_8
    refine lv_iconst (v := nI 0) hx hb dX4_notice_21 (by decide) ?_
    refine xtop (y := loN (nT (sN M))) (by first | (rw [loN, if_pos h_8]; done) | (rw [loN, if_neg h_8]; done)) ?_
    exact J22 _ _ hP hD hS ls (lv_sub hl [0, 1, 2] rfl)
  · skip
    have h_8 : ¬ ((nI (nT (sN M)) : Int32) ≤ (nI 100 : Int32)) := h_8
    refine lv_aload_n hx hb dX4_notice_11 rfl (lv_at hl 0 rfl) ?_
    refine va_get (D := D) (ci := 4) (v := .int (nI (nT (sN M)))) (C := RX4) (T := TX4) (N := 18) hx hb ht inX4 hown hK hP 0 rfl rfl 16 (by decide) (ht _ wd588) (fun _ h9 => h9) rfl dX4_notice_12 ?_
    refine lv_bipush (v := nI 100) hx hb dX4_notice_15 (by decide) ?_
    refine lv_isub hx hb dX4_notice_17 ?_
    refine lv_goto (tgt := 22) hx hb dX4_notice_18 (by decide) ?_
    refine xtop (y := loN (nT (sN M))) (by first | (rw [loN, if_pos h_8]; done) | (rw [loN, if_neg h_8]; done)) ?_
    exact J22 _ _ hP hD hS ls (lv_sub hl [0, 1, 2] rfl)
set_option maxHeartbeats 4000000 in
set_option maxRecDepth 100000 in
theorem r_X4_tick (l : Launch) (D : va_G) (a : Nat → Nat) (cI cZ : ClassId) (M : MS) (hO : mOk (sK M)) (hR : rOk (sR M)) (hTt : nT (sN M) + 2401200 < 2 ^ 30) (v1 : Int32) : xWR l yX4_tick cX4_tick 4 (some .int) (xrm 3 72) [.ref (a 0), .int (v1)] D (wM a cI cZ M) (tyL cI cZ) (some (.int (tickMr M v1))) (wM a cI cZ (tickMs M v1)) := by
  refine xWR.of (by decide +kernel) (Nat.le_of_ble_eq_true rfl) ?_
  intro p e s m args below meth cd hx hb hr hml hown hlocks ht hN hP hK hD hS ls hl
  have hl : lv_has ls 4 [(0, .ref (a 0)), (1, .int (v1))] := hl
  have hown : s.vm.findClass RX4 = some m.cls := hown
  have L45 : ∀ (n : Nat) (k : Nat), (ix v1 < k + n) → (k ≤ ix v1) → (v1 = nI (ix v1)) → (ix v1 ≤ 2000) → (¬ (bTi (sC M) v1 || false || false) = true) → ∀ (H : Heap) (locs : List Loc), va_P D vwCl (wM a cI cZ (tickN (setE M (thrM (bTi (sC M) v1) false false)) k)) H → va_D (xA (wM a cI cZ M)) (wM a cI cZ (tickN (setE M (thrM (bTi (sC M) v1) false false)) k)) → va_S (xA (wM a cI cZ M)) s.heap H locs → ∀ ls : Array Slot, lv_has ls 4 [(0, .ref (a 0)), (1, .int (v1)), (2, .int (nI (nT (sN M)))), (3, .int (nI k))] → W p l e (xrm 3 72) s m args below meth cd H locs 0 0 (MQ below (xQw (some (.int (tickMr M v1))) D (wM a cI cZ M) (wM a cI cZ (tickMs M v1))) args s 0 0 (xA (wM a cI cZ M))) (F0 m 45 ls []) := by
    intro n
    induction n with
    | zero =>
      intro k hfuel hi ev hv9 hz0
      exact absurd hfuel (by omega)
    | succ n ih45 =>
      intro k hfuel hi ev hv9 hz0 H locs hP hD hS ls hl
      have hb9 := (tickN_K (setE M (thrM (bTi (sC M) v1) false false)) k).2.2.2.2
      have hb8 : nT (sN (setE M (thrM (bTi (sC M) v1) false false))) = nT (sN M) := rfl
      refine lv_iload_n hx hb dX4_tick_45 rfl (lv_at hl 3 rfl) ?_
      refine lv_iload_n hx hb dX4_tick_46 rfl (lv_at hl 1 rfl) ?_
      refine xtop (y := nI (ix v1)) ev ?_
      refine lv_icmp_ge (tgt := 70) hx hb dX4_tick_47 (by decide) (fun h_47 => ?_) (fun h_47 => ?_)
      · skip
        have h_47 : (nI (ix v1) : Int32) ≤ (nI k : Int32) := h_47
        have h_47 : (ix v1) ≤ k := (nI_leI (by omega) (by omega)).mp h_47
        refine lv_aload_n hx hb dX4_tick_70 rfl (lv_at hl 0 rfl) ?_
        refine va_get (D := D) (ci := 4) (v := .int (nI (nT (sN (tickN (setE M (thrM (bTi (sC M) v1) false false)) k))))) (C := RX4) (T := TX4) (N := 18) hx hb ht inX4 hown hK hP 0 rfl rfl 16 (by decide) (ht _ wd588) (fun _ h9 => h9) rfl dX4_tick_71 ?_
        refine lv_iload_n hx hb dX4_tick_74 rfl (lv_at hl 2 rfl) ?_
        refine lv_isub hx hb dX4_tick_75 ?_
        exact xw_iret (v := (nI (nT (sN (tickN (setE M (thrM (bTi (sC M) v1) false false)) k)))) - (nI (nT (sN M)))) hx hb hr hlocks hS (by rw [tickMs, if_neg hz0, show ix v1 = k by omega]; exact hP) (by rw [tickMr, if_neg hz0, tickMs, if_neg hz0, show ix v1 = k by omega]) dX4_tick_76
      · skip
        have h_47 : ¬ ((nI (ix v1) : Int32) ≤ (nI k : Int32)) := h_47
        have h_47 : ¬ ((ix v1) ≤ k) := fun z => h_47 ((nI_leI (by omega) (by omega)).mpr z)
        refine lv_aload_n hx hb dX4_tick_50 rfl (lv_at hl 0 rfl) ?_
        refine lv_dup hx hb dX4_tick_51 rfl ?_
        refine va_get (D := D) (ci := 4) (v := .int (nI (sC (tickN (setE M (thrM (bTi (sC M) v1) false false)) k)))) (C := RX4) (T := TX4) (N := 18) hx hb ht inX4 hown hK hP 0 rfl rfl 1 (by decide) (ht _ wd573) (fun _ h9 => h9) rfl dX4_tick_52 ?_
        refine lv_iconst (v := nI 1) hx hb dX4_tick_55 (by decide) ?_
        refine lv_iadd hx hb dX4_tick_56 ?_
        refine xtop (y := nI ((sC (tickN (setE M (thrM (bTi (sC M) v1) false false)) k)) + 1)) (nI_add _ _) ?_
        refine va_put (D := D) (ci := 4) (v := .int (nI ((sC (tickN (setE M (thrM (bTi (sC M) v1) false false)) k)) + 1))) (ty := .int) (C := RX4) (T := TX4) (N := 18) hx hb ht inX4 tyX4 tyX4_ok nmX4 hown hK hP hD hS 0 rfl rfl 1 (by decide) (ht _ wd573) (fun _ h9 => h9) rfl (by decide +kernel) rfl rfl (Nat.le_of_ble_eq_true rfl) dX4_tick_57 (fun H locs hP hD hS => ?_)
        have hP : va_P D vwCl [(a 0, .inr (4, [.int (sE (tickN (setE M (thrM (bTi (sC M) v1) false false)) k)), .int (nI ((sC (tickN (setE M (thrM (bTi (sC M) v1) false false)) k)) + 1)), .int (nI (mN (sK (tickN (setE M (thrM (bTi (sC M) v1) false false)) k)))), .ref (a 1), .ref (a 2), .ref (a 3), .ref (a 4), .ref (a 5), .ref (a 6), .ref (a 7), .ref (a 8), .ref (a 9), .ref (a 10), .ref (a 11), .ref (a 12), .ref (a 13), .int (nI (nT (sN (tickN (setE M (thrM (bTi (sC M) v1) false false)) k)))), .ref (a 14)])), (a 1, .inl (cI, 100, .inl (mKd (sK (tickN (setE M (thrM (bTi (sC M) v1) false false)) k))))), (a 2, .inl (cI, 100, .inl (mPc (sK (tickN (setE M (thrM (bTi (sC M) v1) false false)) k))))), (a 3, .inl (cI, 100, .inl (mSd (sK (tickN (setE M (thrM (bTi (sC M) v1) false false)) k))))), (a 4, .inl (cI, 100, .inl (mFr (sK (tickN (setE M (thrM (bTi (sC M) v1) false false)) k))))), (a 5, .inl (cI, 100, .inl (mTo (sK (tickN (setE M (thrM (bTi (sC M) v1) false false)) k))))), (a 6, .inl (cI, 100, .inl (mNu (sK (tickN (setE M (thrM (bTi (sC M) v1) false false)) k))))), (a 7, .inl (cI, 100, .inl (mAn (sK (tickN (setE M (thrM (bTi (sC M) v1) false false)) k))))), (a 8, .inl (cI, 100, .inl (mLi (sK (tickN (setE M (thrM (bTi (sC M) v1) false false)) k))))), (a 9, .inl (cI, 100, .inl (mWd (sK (tickN (setE M (thrM (bTi (sC M) v1) false false)) k))))), (a 10, .inl (cZ, 20, .inl (mOp (sK (tickN (setE M (thrM (bTi (sC M) v1) false false)) k))))), (a 11, .inl (cI, 10, .inl (nF (rL (sR (tickN (setE M (thrM (bTi (sC M) v1) false false)) k)))))), (a 12, .inl (cI, 120, .inl (nF (rP (sR (tickN (setE M (thrM (bTi (sC M) v1) false false)) k)))))), (a 13, .inl (cZ, 120, .inl (bF (sW (tickN (setE M (thrM (bTi (sC M) v1) false false)) k))))), (a 14, .inl (cI, 500, .inl (nRw (sN (tickN (setE M (thrM (bTi (sC M) v1) false false)) k)))))] H := hP
        have hD : va_D (xA (wM a cI cZ M)) [(a 0, .inr (4, [.int (sE (tickN (setE M (thrM (bTi (sC M) v1) false false)) k)), .int (nI ((sC (tickN (setE M (thrM (bTi (sC M) v1) false false)) k)) + 1)), .int (nI (mN (sK (tickN (setE M (thrM (bTi (sC M) v1) false false)) k)))), .ref (a 1), .ref (a 2), .ref (a 3), .ref (a 4), .ref (a 5), .ref (a 6), .ref (a 7), .ref (a 8), .ref (a 9), .ref (a 10), .ref (a 11), .ref (a 12), .ref (a 13), .int (nI (nT (sN (tickN (setE M (thrM (bTi (sC M) v1) false false)) k)))), .ref (a 14)])), (a 1, .inl (cI, 100, .inl (mKd (sK (tickN (setE M (thrM (bTi (sC M) v1) false false)) k))))), (a 2, .inl (cI, 100, .inl (mPc (sK (tickN (setE M (thrM (bTi (sC M) v1) false false)) k))))), (a 3, .inl (cI, 100, .inl (mSd (sK (tickN (setE M (thrM (bTi (sC M) v1) false false)) k))))), (a 4, .inl (cI, 100, .inl (mFr (sK (tickN (setE M (thrM (bTi (sC M) v1) false false)) k))))), (a 5, .inl (cI, 100, .inl (mTo (sK (tickN (setE M (thrM (bTi (sC M) v1) false false)) k))))), (a 6, .inl (cI, 100, .inl (mNu (sK (tickN (setE M (thrM (bTi (sC M) v1) false false)) k))))), (a 7, .inl (cI, 100, .inl (mAn (sK (tickN (setE M (thrM (bTi (sC M) v1) false false)) k))))), (a 8, .inl (cI, 100, .inl (mLi (sK (tickN (setE M (thrM (bTi (sC M) v1) false false)) k))))), (a 9, .inl (cI, 100, .inl (mWd (sK (tickN (setE M (thrM (bTi (sC M) v1) false false)) k))))), (a 10, .inl (cZ, 20, .inl (mOp (sK (tickN (setE M (thrM (bTi (sC M) v1) false false)) k))))), (a 11, .inl (cI, 10, .inl (nF (rL (sR (tickN (setE M (thrM (bTi (sC M) v1) false false)) k)))))), (a 12, .inl (cI, 120, .inl (nF (rP (sR (tickN (setE M (thrM (bTi (sC M) v1) false false)) k)))))), (a 13, .inl (cZ, 120, .inl (bF (sW (tickN (setE M (thrM (bTi (sC M) v1) false false)) k))))), (a 14, .inl (cI, 500, .inl (nRw (sN (tickN (setE M (thrM (bTi (sC M) v1) false false)) k)))))] := hD
        refine lv_aload_n hx hb dX4_tick_60 rfl (lv_at hl 0 rfl) ?_
        refine xwV (As := []) (rest := []) (wr := []) (ws2 := (wM a cI cZ (tickN (setE M (thrM (bTi (sC M) v1) false false)) (k + 1)))) hx hb hml hown ht hN kV_X4_98 (r_X4_look l D a cI cZ (addC (tickN (setE M (thrM (bTi (sC M) v1) false false)) k)) (by rw [show sK (addC (tickN (setE M (thrM (bTi (sC M) v1) false false)) k)) = sK M from (tickN_K (setE M (thrM (bTi (sC M) v1) false false)) k).1]; exact hO) (by rw [show sR (addC (tickN (setE M (thrM (bTi (sC M) v1) false false)) k)) = sR M from (tickN_K (setE M (thrM (bTi (sC M) v1) false false)) k).2.1]; exact hR) (show nT (sN (tickN (setE M (thrM (bTi (sC M) v1) false false)) k)) + 1200 < 2 ^ 31 by omega)) ⟨by decide, by decide⟩ hP hD hS hK [0, 1, 2, 3, 4, 5, 6, 7, 8, 9, 10, 11, 12, 13, 14] [] [0, 1, 2, 3, 4, 5, 6, 7, 8, 9, 10, 11, 12, 13, 14] rfl rfl (by decide) (by decide) (by decide) rfl rfl (by decide) rfl rfl rfl rfl hl.1 rfl (Nat.le_of_ble_eq_true rfl) dX4_tick_61 ⟨Nat.zero_le _, Nat.zero_le _⟩ (fun H locs hP hD hS => ?_)
        refine lv_iinc (v := nI (k + 1)) (lv' := [(3, .int (nI (k + 1))), (0, .ref (a 0)), (1, .int (v1)), (2, .int (nI (nT (sN M))))]) hx hb dX4_tick_64 hl (k := 3) rfl (nI_1 _) (by decide) rfl (fun ls hl => ?_)
        refine lv_goto (tgt := 45) hx hb dX4_tick_67 (by decide) ?_
        exact ih45 (k + 1) (by omega) (by omega) ev hv9 hz0 _ _ hP (xD_addr hD rfl) hS ls (lv_sub hl [1, 2, 3, 0] rfl)
  have J28 : ∀ (H : Heap) (locs : List Loc), va_P D vwCl (wM a cI cZ M) H → va_D (xA (wM a cI cZ M)) (wM a cI cZ M) → va_S (xA (wM a cI cZ M)) s.heap H locs → ∀ ls : Array Slot, lv_has ls 4 [(0, .ref (a 0)), (1, .int (v1))] → W p l e (xrm 3 72) s m args below meth cd H locs 0 0 (MQ below (xQw (some (.int (tickMr M v1))) D (wM a cI cZ M) (wM a cI cZ (tickMs M v1))) args s 0 0 (xA (wM a cI cZ M))) (F0 m 28 ls [.int (bI (bTi (sC M) v1)), .ref (a 0)]) := by
    intro H locs hP hD hS ls hl
    refine lv_iconst (v := nI 0) hx hb dX4_tick_28 (by decide) ?_
    refine lv_iconst (v := nI 0) hx hb dX4_tick_29 (by decide) ?_
    refine xwV (As := [.int (bI (bTi (sC M) v1)), .int (nI 0), .int (nI 0)]) (rest := []) (wr := []) (ws2 := (wM a cI cZ (setE M (thrM (bTi (sC M) v1) false false)))) hx hb hml hown ht hN kV_X4_94 (r_X4_throwing l D a cI cZ M (bTi (sC M) v1) (false) (false)) ⟨by decide, by decide⟩ hP hD hS hK [0, 1, 2, 3, 4, 5, 6, 7, 8, 9, 10, 11, 12, 13, 14] [] [0, 1, 2, 3, 4, 5, 6, 7, 8, 9, 10, 11, 12, 13, 14] rfl rfl (by decide) (by decide) (by decide) rfl rfl (by decide) rfl rfl rfl rfl hl.1 rfl (Nat.le_of_ble_eq_true rfl) dX4_tick_30 ⟨Nat.zero_le _, Nat.zero_le _⟩ (fun H locs hP hD hS => ?_)
    refine lv_if_eq (tgt := 38) hx hb dX4_tick_33 (by decide) (fun h_33 => ?_) (fun h_33 => ?_)
    · skip
      have h_33 : (bI (bTi (sC M) v1 || false || false) : Int32) = (0 : Int32) := h_33
      have hz0 : ¬ (bTi (sC M) v1 || false || false) = true := by rw [bI_f h_33]; decide
      obtain ⟨ev, -, hv9⟩ := ix_in (by decide) (by decide) (notF (Bool.or_eq_false_iff.mp (orF (b := false) (bI_f h_33)).1).1)
      refine lv_aload_n hx hb dX4_tick_38 rfl (lv_at hl 0 rfl) ?_
      refine va_get (D := D) (ci := 4) (v := .int (nI (nT (sN M)))) (C := RX4) (T := TX4) (N := 18) hx hb ht inX4 hown hK hP 0 rfl rfl 16 (by decide) (ht _ wd588) (fun _ h9 => h9) rfl dX4_tick_39 ?_
      refine lv_istore_n (lv' := [(2, .int (nI (nT (sN M)))), (0, .ref (a 0)), (1, .int (v1))]) hx hb dX4_tick_42 rfl hl (by decide) rfl (fun ls hl => ?_)
      refine lv_iconst (v := nI 0) hx hb dX4_tick_43 (by decide) ?_
      refine lv_istore_n (lv' := [(3, .int (nI 0)), (2, .int (nI (nT (sN M)))), (0, .ref (a 0)), (1, .int (v1))]) hx hb dX4_tick_44 rfl hl (by decide) rfl (fun ls hl => ?_)
      exact L45 (ix v1 + 1) 0 (by omega) (by omega) ev hv9 hz0 _ _ hP (xD_addr hD rfl) hS ls (lv_sub hl [2, 3, 1, 0] rfl)
    · skip
      have h_33 : ¬ ((bI (bTi (sC M) v1 || false || false) : Int32) = (0 : Int32)) := h_33
      refine lv_iconst (v := nI 0) hx hb dX4_tick_36 (by decide) ?_
      exact xw_iret (v := nI 0) hx hb hr hlocks hS (by rw [tickMs, if_pos (bI_t h_33)]; exact hP) (by rw [tickMr, if_pos (bI_t h_33)]) dX4_tick_37
  refine lv_aload_n hx hb dX4_tick_0 rfl (lv_at hl 0 rfl) ?_
  refine lv_iload_n hx hb dX4_tick_1 rfl (lv_at hl 1 rfl) ?_
  refine lv_iconst (v := nI 1) hx hb dX4_tick_2 (by decide) ?_
  refine lv_sipush (v := nI 2000) hx hb dX4_tick_3 (by decide) ?_
  refine xrS (As := [.int (v1), .int (nI 1), .int (nI 2000)]) (rest := [.ref (a 0)]) hx hb hml hown ht hN kS_X4_57 (r_X4_in l D v1 (nI 1) (nI 2000)) ⟨by decide, by decide⟩ (fun k q h => by simp at h) (hK.sub (tys' := []) [] rfl) rfl hl.1 rfl (Nat.le_of_ble_eq_true rfl) dX4_tick_6 ⟨Nat.zero_le _, Nat.zero_le _⟩ ?_
  refine lv_if_eq (tgt := 23) hx hb dX4_tick_9 (by decide) (fun h_9 => ?_) (fun h_9 => ?_)
  · skip
    have h_9 : (bI (inI v1 (nI 1) (nI 2000)) : Int32) = (0 : Int32) := h_9
    refine lv_iconst (v := nI 1) hx hb dX4_tick_23 (by decide) ?_
    refine lv_goto (tgt := 28) hx hb dX4_tick_24 (by decide) ?_
    refine xtop (y := bI (bTi (sC M) v1)) (bI_1 (by unfold bTi; first | (rw [bI_f h_9]; rfl) | (rw [decide_eq_false h_20, Bool.not_false, Bool.or_true]))) ?_
    exact J28 _ _ hP hD hS ls (lv_sub hl [0, 1] rfl)
  · skip
    have h_9 : ¬ ((bI (inI v1 (nI 1) (nI 2000)) : Int32) = (0 : Int32)) := h_9
    refine lv_aload_n hx hb dX4_tick_12 rfl (lv_at hl 0 rfl) ?_
    refine va_get (D := D) (ci := 4) (v := .int (nI (sC M))) (C := RX4) (T := TX4) (N := 18) hx hb ht inX4 hown hK hP 0 rfl rfl 1 (by decide) (ht _ wd573) (fun _ h9 => h9) rfl dX4_tick_13 ?_
    refine lv_iload_n hx hb dX4_tick_16 rfl (lv_at hl 1 rfl) ?_
    refine lv_iadd hx hb dX4_tick_17 ?_
    refine lv_ldc (v := nI 99999) hx hb hown (ht _ wd644) dX4_tick_18 ?_
    refine lv_icmp_le (tgt := 27) hx hb dX4_tick_20 (by decide) (fun h_20 => ?_) (fun h_20 => ?_)
    · skip
      have h_20 : ((nI (sC M)) + (v1) : Int32) ≤ (nI 99999 : Int32) := h_20
      refine lv_iconst (v := nI 0) hx hb dX4_tick_27 (by decide) ?_
      refine xtop (y := bI (bTi (sC M) v1)) (bI_0 (by unfold bTi; rw [bI_t h_9, decide_eq_true h_20]; rfl)) ?_
      exact J28 _ _ hP hD hS ls (lv_sub hl [0, 1] rfl)
    · skip
      have h_20 : ¬ (((nI (sC M)) + (v1) : Int32) ≤ (nI 99999 : Int32)) := h_20
      refine lv_iconst (v := nI 1) hx hb dX4_tick_23 (by decide) ?_
      refine lv_goto (tgt := 28) hx hb dX4_tick_24 (by decide) ?_
      refine xtop (y := bI (bTi (sC M) v1)) (bI_1 (by unfold bTi; first | (rw [bI_f h_9]; rfl) | (rw [decide_eq_false h_20, Bool.not_false, Bool.or_true]))) ?_
      exact J28 _ _ hP hD hS ls (lv_sub hl [0, 1] rfl)
set_option maxHeartbeats 4000000 in
set_option maxRecDepth 100000 in
theorem r_X4_close (l : Launch) (D : va_G) (a : Nat → Nat) (cI cZ : ClassId) (M : MS) (hO : mOk (sK M)) (hR : rOk (sR M)) (hT0 : nT (sN M) + 1200 < 2 ^ 30) (k1 p1 s1 a1 b1 x1 : Int32) : xWR l yX4_close cX4_close 10 (some .int) (xrm 3 72) [.ref (a 0), .int (k1), .int (p1), .int (s1), .int (a1), .int (b1), .int (x1)] D (wM a cI cZ M) (tyL cI cZ) (some (.int (closMr M k1 p1 s1 a1 b1 x1))) (wM a cI cZ (closMs M k1 p1 s1 a1 b1 x1)) := by
  refine xWR.of (by decide +kernel) (Nat.le_of_ble_eq_true rfl) ?_
  intro p e s m args below meth cd hx hb hr hml hown hlocks ht hN hP hK hD hS ls hl
  have hl : lv_has ls 10 [(0, .ref (a 0)), (1, .int (k1)), (2, .int (p1)), (3, .int (s1)), (4, .int (a1)), (5, .int (b1)), (6, .int (x1))] := hl
  have hown : s.vm.findClass RX4 = some m.cls := hown
  have hn := hO.1
  have J128 : ∀ (H : Heap) (locs : List Loc), va_P D vwCl (wM a cI cZ M) H → va_D (xA (wM a cI cZ M)) (wM a cI cZ M) → va_S (xA (wM a cI cZ M)) s.heap H locs → ∀ ls : Array Slot, lv_has ls 10 [(0, .ref (a 0)), (1, .int (k1)), (2, .int (p1)), (3, .int (s1)), (4, .int (a1)), (5, .int (b1)), (6, .int (x1)), (7, .int (bI (bBad k1 p1 x1))), (9, .int (bI (bRng k1 s1 a1 b1 x1)))] → W p l e (xrm 3 72) s m args below meth cd H locs 0 0 (MQ below (xQw (some (.int (closMr M k1 p1 s1 a1 b1 x1))) D (wM a cI cZ M) (wM a cI cZ (closMs M k1 p1 s1 a1 b1 x1))) args s 0 0 (xA (wM a cI cZ M))) (F0 m 128 ls [.int (bI (decide (mN (sK M) = 100))), .int (bI (bRng k1 s1 a1 b1 x1)), .int (bI (bBad k1 p1 x1)), .ref (a 0)]) := by
    intro H locs hP hD hS ls hl
    refine xwV (As := [.int (bI (bBad k1 p1 x1)), .int (bI (bRng k1 s1 a1 b1 x1)), .int (bI (decide (mN (sK M) = 100)))]) (rest := []) (wr := []) (ws2 := (wM a cI cZ (setE M (thC M k1 p1 s1 a1 b1 x1)))) hx hb hml hown ht hN kV_X4_94 (r_X4_throwing l D a cI cZ M (bBad k1 p1 x1) (bRng k1 s1 a1 b1 x1) (decide (mN (sK M) = 100))) ⟨by decide, by decide⟩ hP hD hS hK [0, 1, 2, 3, 4, 5, 6, 7, 8, 9, 10, 11, 12, 13, 14] [] [0, 1, 2, 3, 4, 5, 6, 7, 8, 9, 10, 11, 12, 13, 14] rfl rfl (by decide) (by decide) (by decide) rfl rfl (by decide) rfl rfl rfl rfl hl.1 rfl (Nat.le_of_ble_eq_true rfl) dX4_close_128 ⟨Nat.zero_le _, Nat.zero_le _⟩ (fun H locs hP hD hS => ?_)
    refine lv_if_eq (tgt := 136) hx hb dX4_close_131 (by decide) (fun h_131 => ?_) (fun h_131 => ?_)
    · skip
      have h_131 : (bI (bBad k1 p1 x1 || bRng k1 s1 a1 b1 x1 || decide (mN (sK M) = 100)) : Int32) = (0 : Int32) := h_131
      have hno : ¬ noC M k1 p1 s1 a1 b1 x1 = true := by rw [show noC M k1 p1 s1 a1 b1 x1 = false from bI_f h_131]; decide
      obtain ⟨g1, g2, g3⟩ := orF3 (bI_f h_131)
      have hlt : mN (sK M) < 100 := by have z := of_decide_eq_false g3; omega
      refine lv_aload_n hx hb dX4_close_136 rfl (lv_at hl 0 rfl) ?_
      refine va_get (D := D) (ci := 4) (v := .ref (a 1)) (C := RX4) (T := TX4) (N := 18) hx hb ht inX4 hown hK hP 0 rfl rfl 3 (by decide) (ht _ wd575) (fun _ h9 => h9) rfl dX4_close_137 ?_
      refine lv_aload_n hx hb dX4_close_140 rfl (lv_at hl 0 rfl) ?_
      refine va_get (D := D) (ci := 4) (v := .int (nI (mN (sK M)))) (C := RX4) (T := TX4) (N := 18) hx hb ht inX4 hown hK hP 0 rfl rfl 2 (by decide) (ht _ wd574) (fun _ h9 => h9) rfl dX4_close_141 ?_
      refine lv_iload_n hx hb dX4_close_144 rfl (lv_at hl 1 rfl) ?_
      refine xa_iast hx hb hK hP hD hS 1 0 (i := (mN (sK M))) (x := k1) rfl rfl (by omega) (by decide) dX4_close_145 (fun H locs hP hD hS => ?_)
      have hP : va_P D vwCl [(a 0, .inr (4, [.int (sE (setE M (thC M k1 p1 s1 a1 b1 x1))), .int (nI (sC M)), .int (nI (mN (sK M))), .ref (a 1), .ref (a 2), .ref (a 3), .ref (a 4), .ref (a 5), .ref (a 6), .ref (a 7), .ref (a 8), .ref (a 9), .ref (a 10), .ref (a 11), .ref (a 12), .ref (a 13), .int (nI (nT (sN M))), .ref (a 14)])), (a 1, .inl (cI, 100, .inl (upd (mKd (sK M)) (mN (sK M)) k1))), (a 2, .inl (cI, 100, .inl (mPc (sK M)))), (a 3, .inl (cI, 100, .inl (mSd (sK M)))), (a 4, .inl (cI, 100, .inl (mFr (sK M)))), (a 5, .inl (cI, 100, .inl (mTo (sK M)))), (a 6, .inl (cI, 100, .inl (mNu (sK M)))), (a 7, .inl (cI, 100, .inl (mAn (sK M)))), (a 8, .inl (cI, 100, .inl (mLi (sK M)))), (a 9, .inl (cI, 100, .inl (mWd (sK M)))), (a 10, .inl (cZ, 20, .inl (mOp (sK M)))), (a 11, .inl (cI, 10, .inl (nF (rL (sR M))))), (a 12, .inl (cI, 120, .inl (nF (rP (sR M))))), (a 13, .inl (cZ, 120, .inl (bF (sW M)))), (a 14, .inl (cI, 500, .inl (nRw (sN M))))] H := hP
      have hD : va_D (xA (wM a cI cZ M)) [(a 0, .inr (4, [.int (sE (setE M (thC M k1 p1 s1 a1 b1 x1))), .int (nI (sC M)), .int (nI (mN (sK M))), .ref (a 1), .ref (a 2), .ref (a 3), .ref (a 4), .ref (a 5), .ref (a 6), .ref (a 7), .ref (a 8), .ref (a 9), .ref (a 10), .ref (a 11), .ref (a 12), .ref (a 13), .int (nI (nT (sN M))), .ref (a 14)])), (a 1, .inl (cI, 100, .inl (upd (mKd (sK M)) (mN (sK M)) k1))), (a 2, .inl (cI, 100, .inl (mPc (sK M)))), (a 3, .inl (cI, 100, .inl (mSd (sK M)))), (a 4, .inl (cI, 100, .inl (mFr (sK M)))), (a 5, .inl (cI, 100, .inl (mTo (sK M)))), (a 6, .inl (cI, 100, .inl (mNu (sK M)))), (a 7, .inl (cI, 100, .inl (mAn (sK M)))), (a 8, .inl (cI, 100, .inl (mLi (sK M)))), (a 9, .inl (cI, 100, .inl (mWd (sK M)))), (a 10, .inl (cZ, 20, .inl (mOp (sK M)))), (a 11, .inl (cI, 10, .inl (nF (rL (sR M))))), (a 12, .inl (cI, 120, .inl (nF (rP (sR M))))), (a 13, .inl (cZ, 120, .inl (bF (sW M)))), (a 14, .inl (cI, 500, .inl (nRw (sN M))))] := hD
      refine lv_aload_n hx hb dX4_close_146 rfl (lv_at hl 0 rfl) ?_
      refine va_get (D := D) (ci := 4) (v := .ref (a 2)) (C := RX4) (T := TX4) (N := 18) hx hb ht inX4 hown hK hP 0 rfl rfl 4 (by decide) (ht _ wd576) (fun _ h9 => h9) rfl dX4_close_147 ?_
      refine lv_aload_n hx hb dX4_close_150 rfl (lv_at hl 0 rfl) ?_
      refine va_get (D := D) (ci := 4) (v := .int (nI (mN (sK M)))) (C := RX4) (T := TX4) (N := 18) hx hb ht inX4 hown hK hP 0 rfl rfl 2 (by decide) (ht _ wd574) (fun _ h9 => h9) rfl dX4_close_151 ?_
      refine lv_iload_n hx hb dX4_close_154 rfl (lv_at hl 2 rfl) ?_
      refine xa_iast hx hb hK hP hD hS 2 0 (i := (mN (sK M))) (x := p1) rfl rfl (by omega) (by decide) dX4_close_155 (fun H locs hP hD hS => ?_)
      have hP : va_P D vwCl [(a 0, .inr (4, [.int (sE (setE M (thC M k1 p1 s1 a1 b1 x1))), .int (nI (sC M)), .int (nI (mN (sK M))), .ref (a 1), .ref (a 2), .ref (a 3), .ref (a 4), .ref (a 5), .ref (a 6), .ref (a 7), .ref (a 8), .ref (a 9), .ref (a 10), .ref (a 11), .ref (a 12), .ref (a 13), .int (nI (nT (sN M))), .ref (a 14)])), (a 1, .inl (cI, 100, .inl (upd (mKd (sK M)) (mN (sK M)) k1))), (a 2, .inl (cI, 100, .inl (upd (mPc (sK M)) (mN (sK M)) p1))), (a 3, .inl (cI, 100, .inl (mSd (sK M)))), (a 4, .inl (cI, 100, .inl (mFr (sK M)))), (a 5, .inl (cI, 100, .inl (mTo (sK M)))), (a 6, .inl (cI, 100, .inl (mNu (sK M)))), (a 7, .inl (cI, 100, .inl (mAn (sK M)))), (a 8, .inl (cI, 100, .inl (mLi (sK M)))), (a 9, .inl (cI, 100, .inl (mWd (sK M)))), (a 10, .inl (cZ, 20, .inl (mOp (sK M)))), (a 11, .inl (cI, 10, .inl (nF (rL (sR M))))), (a 12, .inl (cI, 120, .inl (nF (rP (sR M))))), (a 13, .inl (cZ, 120, .inl (bF (sW M)))), (a 14, .inl (cI, 500, .inl (nRw (sN M))))] H := hP
      have hD : va_D (xA (wM a cI cZ M)) [(a 0, .inr (4, [.int (sE (setE M (thC M k1 p1 s1 a1 b1 x1))), .int (nI (sC M)), .int (nI (mN (sK M))), .ref (a 1), .ref (a 2), .ref (a 3), .ref (a 4), .ref (a 5), .ref (a 6), .ref (a 7), .ref (a 8), .ref (a 9), .ref (a 10), .ref (a 11), .ref (a 12), .ref (a 13), .int (nI (nT (sN M))), .ref (a 14)])), (a 1, .inl (cI, 100, .inl (upd (mKd (sK M)) (mN (sK M)) k1))), (a 2, .inl (cI, 100, .inl (upd (mPc (sK M)) (mN (sK M)) p1))), (a 3, .inl (cI, 100, .inl (mSd (sK M)))), (a 4, .inl (cI, 100, .inl (mFr (sK M)))), (a 5, .inl (cI, 100, .inl (mTo (sK M)))), (a 6, .inl (cI, 100, .inl (mNu (sK M)))), (a 7, .inl (cI, 100, .inl (mAn (sK M)))), (a 8, .inl (cI, 100, .inl (mLi (sK M)))), (a 9, .inl (cI, 100, .inl (mWd (sK M)))), (a 10, .inl (cZ, 20, .inl (mOp (sK M)))), (a 11, .inl (cI, 10, .inl (nF (rL (sR M))))), (a 12, .inl (cI, 120, .inl (nF (rP (sR M))))), (a 13, .inl (cZ, 120, .inl (bF (sW M)))), (a 14, .inl (cI, 500, .inl (nRw (sN M))))] := hD
      refine lv_aload_n hx hb dX4_close_156 rfl (lv_at hl 0 rfl) ?_
      refine va_get (D := D) (ci := 4) (v := .ref (a 3)) (C := RX4) (T := TX4) (N := 18) hx hb ht inX4 hown hK hP 0 rfl rfl 5 (by decide) (ht _ wd577) (fun _ h9 => h9) rfl dX4_close_157 ?_
      refine lv_aload_n hx hb dX4_close_160 rfl (lv_at hl 0 rfl) ?_
      refine va_get (D := D) (ci := 4) (v := .int (nI (mN (sK M)))) (C := RX4) (T := TX4) (N := 18) hx hb ht inX4 hown hK hP 0 rfl rfl 2 (by decide) (ht _ wd574) (fun _ h9 => h9) rfl dX4_close_161 ?_
      refine lv_iload_n hx hb dX4_close_164 rfl (lv_at hl 3 rfl) ?_
      refine xa_iast hx hb hK hP hD hS 3 0 (i := (mN (sK M))) (x := s1) rfl rfl (by omega) (by decide) dX4_close_165 (fun H locs hP hD hS => ?_)
      have hP : va_P D vwCl [(a 0, .inr (4, [.int (sE (setE M (thC M k1 p1 s1 a1 b1 x1))), .int (nI (sC M)), .int (nI (mN (sK M))), .ref (a 1), .ref (a 2), .ref (a 3), .ref (a 4), .ref (a 5), .ref (a 6), .ref (a 7), .ref (a 8), .ref (a 9), .ref (a 10), .ref (a 11), .ref (a 12), .ref (a 13), .int (nI (nT (sN M))), .ref (a 14)])), (a 1, .inl (cI, 100, .inl (upd (mKd (sK M)) (mN (sK M)) k1))), (a 2, .inl (cI, 100, .inl (upd (mPc (sK M)) (mN (sK M)) p1))), (a 3, .inl (cI, 100, .inl (upd (mSd (sK M)) (mN (sK M)) s1))), (a 4, .inl (cI, 100, .inl (mFr (sK M)))), (a 5, .inl (cI, 100, .inl (mTo (sK M)))), (a 6, .inl (cI, 100, .inl (mNu (sK M)))), (a 7, .inl (cI, 100, .inl (mAn (sK M)))), (a 8, .inl (cI, 100, .inl (mLi (sK M)))), (a 9, .inl (cI, 100, .inl (mWd (sK M)))), (a 10, .inl (cZ, 20, .inl (mOp (sK M)))), (a 11, .inl (cI, 10, .inl (nF (rL (sR M))))), (a 12, .inl (cI, 120, .inl (nF (rP (sR M))))), (a 13, .inl (cZ, 120, .inl (bF (sW M)))), (a 14, .inl (cI, 500, .inl (nRw (sN M))))] H := hP
      have hD : va_D (xA (wM a cI cZ M)) [(a 0, .inr (4, [.int (sE (setE M (thC M k1 p1 s1 a1 b1 x1))), .int (nI (sC M)), .int (nI (mN (sK M))), .ref (a 1), .ref (a 2), .ref (a 3), .ref (a 4), .ref (a 5), .ref (a 6), .ref (a 7), .ref (a 8), .ref (a 9), .ref (a 10), .ref (a 11), .ref (a 12), .ref (a 13), .int (nI (nT (sN M))), .ref (a 14)])), (a 1, .inl (cI, 100, .inl (upd (mKd (sK M)) (mN (sK M)) k1))), (a 2, .inl (cI, 100, .inl (upd (mPc (sK M)) (mN (sK M)) p1))), (a 3, .inl (cI, 100, .inl (upd (mSd (sK M)) (mN (sK M)) s1))), (a 4, .inl (cI, 100, .inl (mFr (sK M)))), (a 5, .inl (cI, 100, .inl (mTo (sK M)))), (a 6, .inl (cI, 100, .inl (mNu (sK M)))), (a 7, .inl (cI, 100, .inl (mAn (sK M)))), (a 8, .inl (cI, 100, .inl (mLi (sK M)))), (a 9, .inl (cI, 100, .inl (mWd (sK M)))), (a 10, .inl (cZ, 20, .inl (mOp (sK M)))), (a 11, .inl (cI, 10, .inl (nF (rL (sR M))))), (a 12, .inl (cI, 120, .inl (nF (rP (sR M))))), (a 13, .inl (cZ, 120, .inl (bF (sW M)))), (a 14, .inl (cI, 500, .inl (nRw (sN M))))] := hD
      refine lv_aload_n hx hb dX4_close_166 rfl (lv_at hl 0 rfl) ?_
      refine va_get (D := D) (ci := 4) (v := .ref (a 4)) (C := RX4) (T := TX4) (N := 18) hx hb ht inX4 hown hK hP 0 rfl rfl 6 (by decide) (ht _ wd578) (fun _ h9 => h9) rfl dX4_close_167 ?_
      refine lv_aload_n hx hb dX4_close_170 rfl (lv_at hl 0 rfl) ?_
      refine va_get (D := D) (ci := 4) (v := .int (nI (mN (sK M)))) (C := RX4) (T := TX4) (N := 18) hx hb ht inX4 hown hK hP 0 rfl rfl 2 (by decide) (ht _ wd574) (fun _ h9 => h9) rfl dX4_close_171 ?_
      refine lv_iload hx hb dX4_close_174 (lv_at hl 4 rfl) ?_
      refine xa_iast hx hb hK hP hD hS 4 0 (i := (mN (sK M))) (x := a1) rfl rfl (by omega) (by decide) dX4_close_176 (fun H locs hP hD hS => ?_)
      have hP : va_P D vwCl [(a 0, .inr (4, [.int (sE (setE M (thC M k1 p1 s1 a1 b1 x1))), .int (nI (sC M)), .int (nI (mN (sK M))), .ref (a 1), .ref (a 2), .ref (a 3), .ref (a 4), .ref (a 5), .ref (a 6), .ref (a 7), .ref (a 8), .ref (a 9), .ref (a 10), .ref (a 11), .ref (a 12), .ref (a 13), .int (nI (nT (sN M))), .ref (a 14)])), (a 1, .inl (cI, 100, .inl (upd (mKd (sK M)) (mN (sK M)) k1))), (a 2, .inl (cI, 100, .inl (upd (mPc (sK M)) (mN (sK M)) p1))), (a 3, .inl (cI, 100, .inl (upd (mSd (sK M)) (mN (sK M)) s1))), (a 4, .inl (cI, 100, .inl (upd (mFr (sK M)) (mN (sK M)) a1))), (a 5, .inl (cI, 100, .inl (mTo (sK M)))), (a 6, .inl (cI, 100, .inl (mNu (sK M)))), (a 7, .inl (cI, 100, .inl (mAn (sK M)))), (a 8, .inl (cI, 100, .inl (mLi (sK M)))), (a 9, .inl (cI, 100, .inl (mWd (sK M)))), (a 10, .inl (cZ, 20, .inl (mOp (sK M)))), (a 11, .inl (cI, 10, .inl (nF (rL (sR M))))), (a 12, .inl (cI, 120, .inl (nF (rP (sR M))))), (a 13, .inl (cZ, 120, .inl (bF (sW M)))), (a 14, .inl (cI, 500, .inl (nRw (sN M))))] H := hP
      have hD : va_D (xA (wM a cI cZ M)) [(a 0, .inr (4, [.int (sE (setE M (thC M k1 p1 s1 a1 b1 x1))), .int (nI (sC M)), .int (nI (mN (sK M))), .ref (a 1), .ref (a 2), .ref (a 3), .ref (a 4), .ref (a 5), .ref (a 6), .ref (a 7), .ref (a 8), .ref (a 9), .ref (a 10), .ref (a 11), .ref (a 12), .ref (a 13), .int (nI (nT (sN M))), .ref (a 14)])), (a 1, .inl (cI, 100, .inl (upd (mKd (sK M)) (mN (sK M)) k1))), (a 2, .inl (cI, 100, .inl (upd (mPc (sK M)) (mN (sK M)) p1))), (a 3, .inl (cI, 100, .inl (upd (mSd (sK M)) (mN (sK M)) s1))), (a 4, .inl (cI, 100, .inl (upd (mFr (sK M)) (mN (sK M)) a1))), (a 5, .inl (cI, 100, .inl (mTo (sK M)))), (a 6, .inl (cI, 100, .inl (mNu (sK M)))), (a 7, .inl (cI, 100, .inl (mAn (sK M)))), (a 8, .inl (cI, 100, .inl (mLi (sK M)))), (a 9, .inl (cI, 100, .inl (mWd (sK M)))), (a 10, .inl (cZ, 20, .inl (mOp (sK M)))), (a 11, .inl (cI, 10, .inl (nF (rL (sR M))))), (a 12, .inl (cI, 120, .inl (nF (rP (sR M))))), (a 13, .inl (cZ, 120, .inl (bF (sW M)))), (a 14, .inl (cI, 500, .inl (nRw (sN M))))] := hD
      refine lv_aload_n hx hb dX4_close_177 rfl (lv_at hl 0 rfl) ?_
      refine va_get (D := D) (ci := 4) (v := .ref (a 5)) (C := RX4) (T := TX4) (N := 18) hx hb ht inX4 hown hK hP 0 rfl rfl 7 (by decide) (ht _ wd579) (fun _ h9 => h9) rfl dX4_close_178 ?_
      refine lv_aload_n hx hb dX4_close_181 rfl (lv_at hl 0 rfl) ?_
      refine va_get (D := D) (ci := 4) (v := .int (nI (mN (sK M)))) (C := RX4) (T := TX4) (N := 18) hx hb ht inX4 hown hK hP 0 rfl rfl 2 (by decide) (ht _ wd574) (fun _ h9 => h9) rfl dX4_close_182 ?_
      refine lv_iload hx hb dX4_close_185 (lv_at hl 5 rfl) ?_
      refine xa_iast hx hb hK hP hD hS 5 0 (i := (mN (sK M))) (x := b1) rfl rfl (by omega) (by decide) dX4_close_187 (fun H locs hP hD hS => ?_)
      have hP : va_P D vwCl [(a 0, .inr (4, [.int (sE (setE M (thC M k1 p1 s1 a1 b1 x1))), .int (nI (sC M)), .int (nI (mN (sK M))), .ref (a 1), .ref (a 2), .ref (a 3), .ref (a 4), .ref (a 5), .ref (a 6), .ref (a 7), .ref (a 8), .ref (a 9), .ref (a 10), .ref (a 11), .ref (a 12), .ref (a 13), .int (nI (nT (sN M))), .ref (a 14)])), (a 1, .inl (cI, 100, .inl (upd (mKd (sK M)) (mN (sK M)) k1))), (a 2, .inl (cI, 100, .inl (upd (mPc (sK M)) (mN (sK M)) p1))), (a 3, .inl (cI, 100, .inl (upd (mSd (sK M)) (mN (sK M)) s1))), (a 4, .inl (cI, 100, .inl (upd (mFr (sK M)) (mN (sK M)) a1))), (a 5, .inl (cI, 100, .inl (upd (mTo (sK M)) (mN (sK M)) b1))), (a 6, .inl (cI, 100, .inl (mNu (sK M)))), (a 7, .inl (cI, 100, .inl (mAn (sK M)))), (a 8, .inl (cI, 100, .inl (mLi (sK M)))), (a 9, .inl (cI, 100, .inl (mWd (sK M)))), (a 10, .inl (cZ, 20, .inl (mOp (sK M)))), (a 11, .inl (cI, 10, .inl (nF (rL (sR M))))), (a 12, .inl (cI, 120, .inl (nF (rP (sR M))))), (a 13, .inl (cZ, 120, .inl (bF (sW M)))), (a 14, .inl (cI, 500, .inl (nRw (sN M))))] H := hP
      have hD : va_D (xA (wM a cI cZ M)) [(a 0, .inr (4, [.int (sE (setE M (thC M k1 p1 s1 a1 b1 x1))), .int (nI (sC M)), .int (nI (mN (sK M))), .ref (a 1), .ref (a 2), .ref (a 3), .ref (a 4), .ref (a 5), .ref (a 6), .ref (a 7), .ref (a 8), .ref (a 9), .ref (a 10), .ref (a 11), .ref (a 12), .ref (a 13), .int (nI (nT (sN M))), .ref (a 14)])), (a 1, .inl (cI, 100, .inl (upd (mKd (sK M)) (mN (sK M)) k1))), (a 2, .inl (cI, 100, .inl (upd (mPc (sK M)) (mN (sK M)) p1))), (a 3, .inl (cI, 100, .inl (upd (mSd (sK M)) (mN (sK M)) s1))), (a 4, .inl (cI, 100, .inl (upd (mFr (sK M)) (mN (sK M)) a1))), (a 5, .inl (cI, 100, .inl (upd (mTo (sK M)) (mN (sK M)) b1))), (a 6, .inl (cI, 100, .inl (mNu (sK M)))), (a 7, .inl (cI, 100, .inl (mAn (sK M)))), (a 8, .inl (cI, 100, .inl (mLi (sK M)))), (a 9, .inl (cI, 100, .inl (mWd (sK M)))), (a 10, .inl (cZ, 20, .inl (mOp (sK M)))), (a 11, .inl (cI, 10, .inl (nF (rL (sR M))))), (a 12, .inl (cI, 120, .inl (nF (rP (sR M))))), (a 13, .inl (cZ, 120, .inl (bF (sW M)))), (a 14, .inl (cI, 500, .inl (nRw (sN M))))] := hD
      refine lv_aload_n hx hb dX4_close_188 rfl (lv_at hl 0 rfl) ?_
      refine va_get (D := D) (ci := 4) (v := .ref (a 6)) (C := RX4) (T := TX4) (N := 18) hx hb ht inX4 hown hK hP 0 rfl rfl 8 (by decide) (ht _ wd580) (fun _ h9 => h9) rfl dX4_close_189 ?_
      refine lv_aload_n hx hb dX4_close_192 rfl (lv_at hl 0 rfl) ?_
      refine va_get (D := D) (ci := 4) (v := .int (nI (mN (sK M)))) (C := RX4) (T := TX4) (N := 18) hx hb ht inX4 hown hK hP 0 rfl rfl 2 (by decide) (ht _ wd574) (fun _ h9 => h9) rfl dX4_close_193 ?_
      refine lv_iload hx hb dX4_close_196 (lv_at hl 6 rfl) ?_
      refine xa_iast hx hb hK hP hD hS 6 0 (i := (mN (sK M))) (x := x1) rfl rfl (by omega) (by decide) dX4_close_198 (fun H locs hP hD hS => ?_)
      have hP : va_P D vwCl [(a 0, .inr (4, [.int (sE (setE M (thC M k1 p1 s1 a1 b1 x1))), .int (nI (sC M)), .int (nI (mN (sK M))), .ref (a 1), .ref (a 2), .ref (a 3), .ref (a 4), .ref (a 5), .ref (a 6), .ref (a 7), .ref (a 8), .ref (a 9), .ref (a 10), .ref (a 11), .ref (a 12), .ref (a 13), .int (nI (nT (sN M))), .ref (a 14)])), (a 1, .inl (cI, 100, .inl (upd (mKd (sK M)) (mN (sK M)) k1))), (a 2, .inl (cI, 100, .inl (upd (mPc (sK M)) (mN (sK M)) p1))), (a 3, .inl (cI, 100, .inl (upd (mSd (sK M)) (mN (sK M)) s1))), (a 4, .inl (cI, 100, .inl (upd (mFr (sK M)) (mN (sK M)) a1))), (a 5, .inl (cI, 100, .inl (upd (mTo (sK M)) (mN (sK M)) b1))), (a 6, .inl (cI, 100, .inl (upd (mNu (sK M)) (mN (sK M)) x1))), (a 7, .inl (cI, 100, .inl (mAn (sK M)))), (a 8, .inl (cI, 100, .inl (mLi (sK M)))), (a 9, .inl (cI, 100, .inl (mWd (sK M)))), (a 10, .inl (cZ, 20, .inl (mOp (sK M)))), (a 11, .inl (cI, 10, .inl (nF (rL (sR M))))), (a 12, .inl (cI, 120, .inl (nF (rP (sR M))))), (a 13, .inl (cZ, 120, .inl (bF (sW M)))), (a 14, .inl (cI, 500, .inl (nRw (sN M))))] H := hP
      have hD : va_D (xA (wM a cI cZ M)) [(a 0, .inr (4, [.int (sE (setE M (thC M k1 p1 s1 a1 b1 x1))), .int (nI (sC M)), .int (nI (mN (sK M))), .ref (a 1), .ref (a 2), .ref (a 3), .ref (a 4), .ref (a 5), .ref (a 6), .ref (a 7), .ref (a 8), .ref (a 9), .ref (a 10), .ref (a 11), .ref (a 12), .ref (a 13), .int (nI (nT (sN M))), .ref (a 14)])), (a 1, .inl (cI, 100, .inl (upd (mKd (sK M)) (mN (sK M)) k1))), (a 2, .inl (cI, 100, .inl (upd (mPc (sK M)) (mN (sK M)) p1))), (a 3, .inl (cI, 100, .inl (upd (mSd (sK M)) (mN (sK M)) s1))), (a 4, .inl (cI, 100, .inl (upd (mFr (sK M)) (mN (sK M)) a1))), (a 5, .inl (cI, 100, .inl (upd (mTo (sK M)) (mN (sK M)) b1))), (a 6, .inl (cI, 100, .inl (upd (mNu (sK M)) (mN (sK M)) x1))), (a 7, .inl (cI, 100, .inl (mAn (sK M)))), (a 8, .inl (cI, 100, .inl (mLi (sK M)))), (a 9, .inl (cI, 100, .inl (mWd (sK M)))), (a 10, .inl (cZ, 20, .inl (mOp (sK M)))), (a 11, .inl (cI, 10, .inl (nF (rL (sR M))))), (a 12, .inl (cI, 120, .inl (nF (rP (sR M))))), (a 13, .inl (cZ, 120, .inl (bF (sW M)))), (a 14, .inl (cI, 500, .inl (nRw (sN M))))] := hD
      refine lv_aload_n hx hb dX4_close_199 rfl (lv_at hl 0 rfl) ?_
      refine va_get (D := D) (ci := 4) (v := .ref (a 7)) (C := RX4) (T := TX4) (N := 18) hx hb ht inX4 hown hK hP 0 rfl rfl 9 (by decide) (ht _ wd581) (fun _ h9 => h9) rfl dX4_close_200 ?_
      refine lv_aload_n hx hb dX4_close_203 rfl (lv_at hl 0 rfl) ?_
      refine va_get (D := D) (ci := 4) (v := .int (nI (mN (sK M)))) (C := RX4) (T := TX4) (N := 18) hx hb ht inX4 hown hK hP 0 rfl rfl 2 (by decide) (ht _ wd574) (fun _ h9 => h9) rfl dX4_close_204 ?_
      refine lv_iconst (v := (-1 : Int32)) hx hb dX4_close_207 (by decide) ?_
      refine xa_iast hx hb hK hP hD hS 7 0 (i := (mN (sK M))) (x := (-1 : Int32)) rfl rfl (by omega) (by decide) dX4_close_208 (fun H locs hP hD hS => ?_)
      have hP : va_P D vwCl [(a 0, .inr (4, [.int (sE (setE M (thC M k1 p1 s1 a1 b1 x1))), .int (nI (sC M)), .int (nI (mN (sK M))), .ref (a 1), .ref (a 2), .ref (a 3), .ref (a 4), .ref (a 5), .ref (a 6), .ref (a 7), .ref (a 8), .ref (a 9), .ref (a 10), .ref (a 11), .ref (a 12), .ref (a 13), .int (nI (nT (sN M))), .ref (a 14)])), (a 1, .inl (cI, 100, .inl (upd (mKd (sK M)) (mN (sK M)) k1))), (a 2, .inl (cI, 100, .inl (upd (mPc (sK M)) (mN (sK M)) p1))), (a 3, .inl (cI, 100, .inl (upd (mSd (sK M)) (mN (sK M)) s1))), (a 4, .inl (cI, 100, .inl (upd (mFr (sK M)) (mN (sK M)) a1))), (a 5, .inl (cI, 100, .inl (upd (mTo (sK M)) (mN (sK M)) b1))), (a 6, .inl (cI, 100, .inl (upd (mNu (sK M)) (mN (sK M)) x1))), (a 7, .inl (cI, 100, .inl (upd (mAn (sK M)) (mN (sK M)) (-1 : Int32)))), (a 8, .inl (cI, 100, .inl (mLi (sK M)))), (a 9, .inl (cI, 100, .inl (mWd (sK M)))), (a 10, .inl (cZ, 20, .inl (mOp (sK M)))), (a 11, .inl (cI, 10, .inl (nF (rL (sR M))))), (a 12, .inl (cI, 120, .inl (nF (rP (sR M))))), (a 13, .inl (cZ, 120, .inl (bF (sW M)))), (a 14, .inl (cI, 500, .inl (nRw (sN M))))] H := hP
      have hD : va_D (xA (wM a cI cZ M)) [(a 0, .inr (4, [.int (sE (setE M (thC M k1 p1 s1 a1 b1 x1))), .int (nI (sC M)), .int (nI (mN (sK M))), .ref (a 1), .ref (a 2), .ref (a 3), .ref (a 4), .ref (a 5), .ref (a 6), .ref (a 7), .ref (a 8), .ref (a 9), .ref (a 10), .ref (a 11), .ref (a 12), .ref (a 13), .int (nI (nT (sN M))), .ref (a 14)])), (a 1, .inl (cI, 100, .inl (upd (mKd (sK M)) (mN (sK M)) k1))), (a 2, .inl (cI, 100, .inl (upd (mPc (sK M)) (mN (sK M)) p1))), (a 3, .inl (cI, 100, .inl (upd (mSd (sK M)) (mN (sK M)) s1))), (a 4, .inl (cI, 100, .inl (upd (mFr (sK M)) (mN (sK M)) a1))), (a 5, .inl (cI, 100, .inl (upd (mTo (sK M)) (mN (sK M)) b1))), (a 6, .inl (cI, 100, .inl (upd (mNu (sK M)) (mN (sK M)) x1))), (a 7, .inl (cI, 100, .inl (upd (mAn (sK M)) (mN (sK M)) (-1 : Int32)))), (a 8, .inl (cI, 100, .inl (mLi (sK M)))), (a 9, .inl (cI, 100, .inl (mWd (sK M)))), (a 10, .inl (cZ, 20, .inl (mOp (sK M)))), (a 11, .inl (cI, 10, .inl (nF (rL (sR M))))), (a 12, .inl (cI, 120, .inl (nF (rP (sR M))))), (a 13, .inl (cZ, 120, .inl (bF (sW M)))), (a 14, .inl (cI, 500, .inl (nRw (sN M))))] := hD
      refine lv_aload_n hx hb dX4_close_209 rfl (lv_at hl 0 rfl) ?_
      refine va_get (D := D) (ci := 4) (v := .ref (a 8)) (C := RX4) (T := TX4) (N := 18) hx hb ht inX4 hown hK hP 0 rfl rfl 10 (by decide) (ht _ wd582) (fun _ h9 => h9) rfl dX4_close_210 ?_
      refine lv_aload_n hx hb dX4_close_213 rfl (lv_at hl 0 rfl) ?_
      refine va_get (D := D) (ci := 4) (v := .int (nI (mN (sK M)))) (C := RX4) (T := TX4) (N := 18) hx hb ht inX4 hown hK hP 0 rfl rfl 2 (by decide) (ht _ wd574) (fun _ h9 => h9) rfl dX4_close_214 ?_
      refine lv_iconst (v := (-1 : Int32)) hx hb dX4_close_217 (by decide) ?_
      refine xa_iast hx hb hK hP hD hS 8 0 (i := (mN (sK M))) (x := (-1 : Int32)) rfl rfl (by omega) (by decide) dX4_close_218 (fun H locs hP hD hS => ?_)
      have hP : va_P D vwCl [(a 0, .inr (4, [.int (sE (setE M (thC M k1 p1 s1 a1 b1 x1))), .int (nI (sC M)), .int (nI (mN (sK M))), .ref (a 1), .ref (a 2), .ref (a 3), .ref (a 4), .ref (a 5), .ref (a 6), .ref (a 7), .ref (a 8), .ref (a 9), .ref (a 10), .ref (a 11), .ref (a 12), .ref (a 13), .int (nI (nT (sN M))), .ref (a 14)])), (a 1, .inl (cI, 100, .inl (upd (mKd (sK M)) (mN (sK M)) k1))), (a 2, .inl (cI, 100, .inl (upd (mPc (sK M)) (mN (sK M)) p1))), (a 3, .inl (cI, 100, .inl (upd (mSd (sK M)) (mN (sK M)) s1))), (a 4, .inl (cI, 100, .inl (upd (mFr (sK M)) (mN (sK M)) a1))), (a 5, .inl (cI, 100, .inl (upd (mTo (sK M)) (mN (sK M)) b1))), (a 6, .inl (cI, 100, .inl (upd (mNu (sK M)) (mN (sK M)) x1))), (a 7, .inl (cI, 100, .inl (upd (mAn (sK M)) (mN (sK M)) (-1 : Int32)))), (a 8, .inl (cI, 100, .inl (upd (mLi (sK M)) (mN (sK M)) (-1 : Int32)))), (a 9, .inl (cI, 100, .inl (mWd (sK M)))), (a 10, .inl (cZ, 20, .inl (mOp (sK M)))), (a 11, .inl (cI, 10, .inl (nF (rL (sR M))))), (a 12, .inl (cI, 120, .inl (nF (rP (sR M))))), (a 13, .inl (cZ, 120, .inl (bF (sW M)))), (a 14, .inl (cI, 500, .inl (nRw (sN M))))] H := hP
      have hD : va_D (xA (wM a cI cZ M)) [(a 0, .inr (4, [.int (sE (setE M (thC M k1 p1 s1 a1 b1 x1))), .int (nI (sC M)), .int (nI (mN (sK M))), .ref (a 1), .ref (a 2), .ref (a 3), .ref (a 4), .ref (a 5), .ref (a 6), .ref (a 7), .ref (a 8), .ref (a 9), .ref (a 10), .ref (a 11), .ref (a 12), .ref (a 13), .int (nI (nT (sN M))), .ref (a 14)])), (a 1, .inl (cI, 100, .inl (upd (mKd (sK M)) (mN (sK M)) k1))), (a 2, .inl (cI, 100, .inl (upd (mPc (sK M)) (mN (sK M)) p1))), (a 3, .inl (cI, 100, .inl (upd (mSd (sK M)) (mN (sK M)) s1))), (a 4, .inl (cI, 100, .inl (upd (mFr (sK M)) (mN (sK M)) a1))), (a 5, .inl (cI, 100, .inl (upd (mTo (sK M)) (mN (sK M)) b1))), (a 6, .inl (cI, 100, .inl (upd (mNu (sK M)) (mN (sK M)) x1))), (a 7, .inl (cI, 100, .inl (upd (mAn (sK M)) (mN (sK M)) (-1 : Int32)))), (a 8, .inl (cI, 100, .inl (upd (mLi (sK M)) (mN (sK M)) (-1 : Int32)))), (a 9, .inl (cI, 100, .inl (mWd (sK M)))), (a 10, .inl (cZ, 20, .inl (mOp (sK M)))), (a 11, .inl (cI, 10, .inl (nF (rL (sR M))))), (a 12, .inl (cI, 120, .inl (nF (rP (sR M))))), (a 13, .inl (cZ, 120, .inl (bF (sW M)))), (a 14, .inl (cI, 500, .inl (nRw (sN M))))] := hD
      refine lv_aload_n hx hb dX4_close_219 rfl (lv_at hl 0 rfl) ?_
      refine va_get (D := D) (ci := 4) (v := .ref (a 9)) (C := RX4) (T := TX4) (N := 18) hx hb ht inX4 hown hK hP 0 rfl rfl 11 (by decide) (ht _ wd583) (fun _ h9 => h9) rfl dX4_close_220 ?_
      refine lv_aload_n hx hb dX4_close_223 rfl (lv_at hl 0 rfl) ?_
      refine va_get (D := D) (ci := 4) (v := .int (nI (mN (sK M)))) (C := RX4) (T := TX4) (N := 18) hx hb ht inX4 hown hK hP 0 rfl rfl 2 (by decide) (ht _ wd574) (fun _ h9 => h9) rfl dX4_close_224 ?_
      refine lv_iconst (v := (-1 : Int32)) hx hb dX4_close_227 (by decide) ?_
      refine xa_iast hx hb hK hP hD hS 9 0 (i := (mN (sK M))) (x := (-1 : Int32)) rfl rfl (by omega) (by decide) dX4_close_228 (fun H locs hP hD hS => ?_)
      have hP : va_P D vwCl [(a 0, .inr (4, [.int (sE (setE M (thC M k1 p1 s1 a1 b1 x1))), .int (nI (sC M)), .int (nI (mN (sK M))), .ref (a 1), .ref (a 2), .ref (a 3), .ref (a 4), .ref (a 5), .ref (a 6), .ref (a 7), .ref (a 8), .ref (a 9), .ref (a 10), .ref (a 11), .ref (a 12), .ref (a 13), .int (nI (nT (sN M))), .ref (a 14)])), (a 1, .inl (cI, 100, .inl (upd (mKd (sK M)) (mN (sK M)) k1))), (a 2, .inl (cI, 100, .inl (upd (mPc (sK M)) (mN (sK M)) p1))), (a 3, .inl (cI, 100, .inl (upd (mSd (sK M)) (mN (sK M)) s1))), (a 4, .inl (cI, 100, .inl (upd (mFr (sK M)) (mN (sK M)) a1))), (a 5, .inl (cI, 100, .inl (upd (mTo (sK M)) (mN (sK M)) b1))), (a 6, .inl (cI, 100, .inl (upd (mNu (sK M)) (mN (sK M)) x1))), (a 7, .inl (cI, 100, .inl (upd (mAn (sK M)) (mN (sK M)) (-1 : Int32)))), (a 8, .inl (cI, 100, .inl (upd (mLi (sK M)) (mN (sK M)) (-1 : Int32)))), (a 9, .inl (cI, 100, .inl (upd (mWd (sK M)) (mN (sK M)) (-1 : Int32)))), (a 10, .inl (cZ, 20, .inl (mOp (sK M)))), (a 11, .inl (cI, 10, .inl (nF (rL (sR M))))), (a 12, .inl (cI, 120, .inl (nF (rP (sR M))))), (a 13, .inl (cZ, 120, .inl (bF (sW M)))), (a 14, .inl (cI, 500, .inl (nRw (sN M))))] H := hP
      have hD : va_D (xA (wM a cI cZ M)) [(a 0, .inr (4, [.int (sE (setE M (thC M k1 p1 s1 a1 b1 x1))), .int (nI (sC M)), .int (nI (mN (sK M))), .ref (a 1), .ref (a 2), .ref (a 3), .ref (a 4), .ref (a 5), .ref (a 6), .ref (a 7), .ref (a 8), .ref (a 9), .ref (a 10), .ref (a 11), .ref (a 12), .ref (a 13), .int (nI (nT (sN M))), .ref (a 14)])), (a 1, .inl (cI, 100, .inl (upd (mKd (sK M)) (mN (sK M)) k1))), (a 2, .inl (cI, 100, .inl (upd (mPc (sK M)) (mN (sK M)) p1))), (a 3, .inl (cI, 100, .inl (upd (mSd (sK M)) (mN (sK M)) s1))), (a 4, .inl (cI, 100, .inl (upd (mFr (sK M)) (mN (sK M)) a1))), (a 5, .inl (cI, 100, .inl (upd (mTo (sK M)) (mN (sK M)) b1))), (a 6, .inl (cI, 100, .inl (upd (mNu (sK M)) (mN (sK M)) x1))), (a 7, .inl (cI, 100, .inl (upd (mAn (sK M)) (mN (sK M)) (-1 : Int32)))), (a 8, .inl (cI, 100, .inl (upd (mLi (sK M)) (mN (sK M)) (-1 : Int32)))), (a 9, .inl (cI, 100, .inl (upd (mWd (sK M)) (mN (sK M)) (-1 : Int32)))), (a 10, .inl (cZ, 20, .inl (mOp (sK M)))), (a 11, .inl (cI, 10, .inl (nF (rL (sR M))))), (a 12, .inl (cI, 120, .inl (nF (rP (sR M))))), (a 13, .inl (cZ, 120, .inl (bF (sW M)))), (a 14, .inl (cI, 500, .inl (nRw (sN M))))] := hD
      refine lv_aload_n hx hb dX4_close_229 rfl (lv_at hl 0 rfl) ?_
      refine lv_dup hx hb dX4_close_230 rfl ?_
      refine va_get (D := D) (ci := 4) (v := .int (nI (mN (sK M)))) (C := RX4) (T := TX4) (N := 18) hx hb ht inX4 hown hK hP 0 rfl rfl 2 (by decide) (ht _ wd574) (fun _ h9 => h9) rfl dX4_close_231 ?_
      refine lv_iconst (v := nI 1) hx hb dX4_close_234 (by decide) ?_
      refine lv_iadd hx hb dX4_close_235 ?_
      refine xtop (y := nI ((mN (sK M)) + 1)) (nI_add _ _) ?_
      refine va_put (D := D) (ci := 4) (v := .int (nI ((mN (sK M)) + 1))) (ty := .int) (C := RX4) (T := TX4) (N := 18) hx hb ht inX4 tyX4 tyX4_ok nmX4 hown hK hP hD hS 0 rfl rfl 2 (by decide) (ht _ wd574) (fun _ h9 => h9) rfl (by decide +kernel) rfl rfl (Nat.le_of_ble_eq_true rfl) dX4_close_236 (fun H locs hP hD hS => ?_)
      have hP : va_P D vwCl [(a 0, .inr (4, [.int (sE (setE M (thC M k1 p1 s1 a1 b1 x1))), .int (nI (sC M)), .int (nI ((mN (sK M)) + 1)), .ref (a 1), .ref (a 2), .ref (a 3), .ref (a 4), .ref (a 5), .ref (a 6), .ref (a 7), .ref (a 8), .ref (a 9), .ref (a 10), .ref (a 11), .ref (a 12), .ref (a 13), .int (nI (nT (sN M))), .ref (a 14)])), (a 1, .inl (cI, 100, .inl (upd (mKd (sK M)) (mN (sK M)) k1))), (a 2, .inl (cI, 100, .inl (upd (mPc (sK M)) (mN (sK M)) p1))), (a 3, .inl (cI, 100, .inl (upd (mSd (sK M)) (mN (sK M)) s1))), (a 4, .inl (cI, 100, .inl (upd (mFr (sK M)) (mN (sK M)) a1))), (a 5, .inl (cI, 100, .inl (upd (mTo (sK M)) (mN (sK M)) b1))), (a 6, .inl (cI, 100, .inl (upd (mNu (sK M)) (mN (sK M)) x1))), (a 7, .inl (cI, 100, .inl (upd (mAn (sK M)) (mN (sK M)) (-1 : Int32)))), (a 8, .inl (cI, 100, .inl (upd (mLi (sK M)) (mN (sK M)) (-1 : Int32)))), (a 9, .inl (cI, 100, .inl (upd (mWd (sK M)) (mN (sK M)) (-1 : Int32)))), (a 10, .inl (cZ, 20, .inl (mOp (sK M)))), (a 11, .inl (cI, 10, .inl (nF (rL (sR M))))), (a 12, .inl (cI, 120, .inl (nF (rP (sR M))))), (a 13, .inl (cZ, 120, .inl (bF (sW M)))), (a 14, .inl (cI, 500, .inl (nRw (sN M))))] H := hP
      have hD : va_D (xA (wM a cI cZ M)) [(a 0, .inr (4, [.int (sE (setE M (thC M k1 p1 s1 a1 b1 x1))), .int (nI (sC M)), .int (nI ((mN (sK M)) + 1)), .ref (a 1), .ref (a 2), .ref (a 3), .ref (a 4), .ref (a 5), .ref (a 6), .ref (a 7), .ref (a 8), .ref (a 9), .ref (a 10), .ref (a 11), .ref (a 12), .ref (a 13), .int (nI (nT (sN M))), .ref (a 14)])), (a 1, .inl (cI, 100, .inl (upd (mKd (sK M)) (mN (sK M)) k1))), (a 2, .inl (cI, 100, .inl (upd (mPc (sK M)) (mN (sK M)) p1))), (a 3, .inl (cI, 100, .inl (upd (mSd (sK M)) (mN (sK M)) s1))), (a 4, .inl (cI, 100, .inl (upd (mFr (sK M)) (mN (sK M)) a1))), (a 5, .inl (cI, 100, .inl (upd (mTo (sK M)) (mN (sK M)) b1))), (a 6, .inl (cI, 100, .inl (upd (mNu (sK M)) (mN (sK M)) x1))), (a 7, .inl (cI, 100, .inl (upd (mAn (sK M)) (mN (sK M)) (-1 : Int32)))), (a 8, .inl (cI, 100, .inl (upd (mLi (sK M)) (mN (sK M)) (-1 : Int32)))), (a 9, .inl (cI, 100, .inl (upd (mWd (sK M)) (mN (sK M)) (-1 : Int32)))), (a 10, .inl (cZ, 20, .inl (mOp (sK M)))), (a 11, .inl (cI, 10, .inl (nF (rL (sR M))))), (a 12, .inl (cI, 120, .inl (nF (rP (sR M))))), (a 13, .inl (cZ, 120, .inl (bF (sW M)))), (a 14, .inl (cI, 500, .inl (nRw (sN M))))] := hD
      refine lv_aload_n hx hb dX4_close_239 rfl (lv_at hl 0 rfl) ?_
      refine xwV (As := []) (rest := []) (wr := []) (ws2 := (wM a cI cZ (lookM (setK M (adM (sK M) k1 p1 s1 a1 b1 x1) (thC M k1 p1 s1 a1 b1 x1))))) hx hb hml hown ht hN kV_X4_98 (r_X4_look l D a cI cZ (setK M (adM (sK M) k1 p1 s1 a1 b1 x1) (thC M k1 p1 s1 a1 b1 x1)) (adM_ok hO hlt (bad_2 g1) (rng_4 g2)) hR (show nT (sN M) + 1200 < 2 ^ 31 by omega)) ⟨by decide, by decide⟩ hP hD hS hK [0, 1, 2, 3, 4, 5, 6, 7, 8, 9, 10, 11, 12, 13, 14] [] [0, 1, 2, 3, 4, 5, 6, 7, 8, 9, 10, 11, 12, 13, 14] rfl rfl (by decide) (by decide) (by decide) rfl rfl (by decide) rfl rfl rfl rfl hl.1 rfl (Nat.le_of_ble_eq_true rfl) dX4_close_240 ⟨Nat.zero_le _, Nat.zero_le _⟩ (fun H locs hP hD hS => ?_)
      refine lv_aload_n hx hb dX4_close_243 rfl (lv_at hl 0 rfl) ?_
      refine va_get (D := D) (ci := 4) (v := .int (nI (mN (sK (lookM (setK M (adM (sK M) k1 p1 s1 a1 b1 x1) (thC M k1 p1 s1 a1 b1 x1))))))) (C := RX4) (T := TX4) (N := 18) hx hb ht inX4 hown hK hP 0 rfl rfl 2 (by decide) (ht _ wd574) (fun _ h9 => h9) rfl dX4_close_244 ?_
      refine lv_iconst (v := nI 1) hx hb dX4_close_247 (by decide) ?_
      refine lv_isub hx hb dX4_close_248 ?_
      exact xw_iret (v := (nI (mN (sK (lookM (setK M (adM (sK M) k1 p1 s1 a1 b1 x1) (thC M k1 p1 s1 a1 b1 x1)))))) - (nI 1)) hx hb hr hlocks hS (by rw [closMs, if_neg hno]; exact hP) (by rw [closMr, if_neg hno]; exact nI_pred (mN (sK M))) dX4_close_249
    · skip
      have h_131 : ¬ ((bI (bBad k1 p1 x1 || bRng k1 s1 a1 b1 x1 || decide (mN (sK M) = 100)) : Int32) = (0 : Int32)) := h_131
      refine lv_iconst (v := nI 0) hx hb dX4_close_134 (by decide) ?_
      exact xw_iret (v := nI 0) hx hb hr hlocks hS (by rw [closMs, if_pos (bI_t h_131)]; exact hP) (by rw [closMr, if_pos (bI_t h_131)]) dX4_close_135
  have J107 : ∀ (H : Heap) (locs : List Loc), va_P D vwCl (wM a cI cZ M) H → va_D (xA (wM a cI cZ M)) (wM a cI cZ M) → va_S (xA (wM a cI cZ M)) s.heap H locs → ∀ ls : Array Slot, lv_has ls 10 [(0, .ref (a 0)), (1, .int (k1)), (2, .int (p1)), (3, .int (s1)), (4, .int (a1)), (5, .int (b1)), (6, .int (x1)), (7, .int (bI (bBad k1 p1 x1))), (8, .int (bI (bEnd k1)))] → W p l e (xrm 3 72) s m args below meth cd H locs 0 0 (MQ below (xQw (some (.int (closMr M k1 p1 s1 a1 b1 x1))) D (wM a cI cZ M) (wM a cI cZ (closMs M k1 p1 s1 a1 b1 x1))) args s 0 0 (xA (wM a cI cZ M))) (F0 m 107 ls [.int (bI (bRng k1 s1 a1 b1 x1))]) := by
    intro H locs hP hD hS ls hl
    refine lv_istore (lv' := [(9, .int (bI (bRng k1 s1 a1 b1 x1))), (0, .ref (a 0)), (1, .int (k1)), (2, .int (p1)), (3, .int (s1)), (4, .int (a1)), (5, .int (b1)), (6, .int (x1)), (7, .int (bI (bBad k1 p1 x1))), (8, .int (bI (bEnd k1)))]) hx hb dX4_close_107 hl (by decide) rfl (fun ls hl => ?_)
    refine lv_aload_n hx hb dX4_close_109 rfl (lv_at hl 1 rfl) ?_
    refine lv_iload hx hb dX4_close_110 (lv_at hl 8 rfl) ?_
    refine lv_iload hx hb dX4_close_112 (lv_at hl 0 rfl) ?_
    refine lv_aload_n hx hb dX4_close_114 rfl (lv_at hl 1 rfl) ?_
    refine va_get (D := D) (ci := 4) (v := .int (nI (mN (sK M)))) (C := RX4) (T := TX4) (N := 18) hx hb ht inX4 hown hK hP 0 rfl rfl 2 (by decide) (ht _ wd574) (fun _ h9 => h9) rfl dX4_close_115 ?_
    refine lv_bipush (v := nI 100) hx hb dX4_close_118 (by decide) ?_
    refine lv_icmp_ne (tgt := 127) hx hb dX4_close_120 (by decide) (fun h_120 => ?_) (fun h_120 => ?_)
    · skip
      have h_120 : ¬ ((nI (mN (sK M)) : Int32) = (nI 100 : Int32)) := h_120
      have h_120 : ¬ ((mN (sK M)) = 100) := fun z => h_120 ((nI_eq (by omega) (by omega)).mpr z)
      refine lv_iconst (v := nI 0) hx hb dX4_close_127 (by decide) ?_
      refine xtop (y := bI (decide (mN (sK M) = 100))) (bI_0 (by rw [decide_eq_false h_120])) ?_
      exact J128 _ _ hP hD hS ls (lv_sub hl [1, 2, 3, 4, 5, 6, 7, 8, 0] rfl)
    · skip
      have h_120 : (nI (mN (sK M)) : Int32) = (nI 100 : Int32) := h_120
      have h_120 : (mN (sK M)) = 100 := (nI_eq (by omega) (by omega)).mp h_120
      refine lv_iconst (v := nI 1) hx hb dX4_close_123 (by decide) ?_
      refine lv_goto (tgt := 128) hx hb dX4_close_124 (by decide) ?_
      refine xtop (y := bI (decide (mN (sK M) = 100))) (bI_1 (by rw [decide_eq_true h_120])) ?_
      exact J128 _ _ hP hD hS ls (lv_sub hl [1, 2, 3, 4, 5, 6, 7, 8, 0] rfl)
  have J54 : ∀ (H : Heap) (locs : List Loc), va_P D vwCl (wM a cI cZ M) H → va_D (xA (wM a cI cZ M)) (wM a cI cZ M) → va_S (xA (wM a cI cZ M)) s.heap H locs → ∀ ls : Array Slot, lv_has ls 10 [(0, .ref (a 0)), (1, .int (k1)), (2, .int (p1)), (3, .int (s1)), (4, .int (a1)), (5, .int (b1)), (6, .int (x1)), (7, .int (bI (bBad k1 p1 x1)))] → W p l e (xrm 3 72) s m args below meth cd H locs 0 0 (MQ below (xQw (some (.int (closMr M k1 p1 s1 a1 b1 x1))) D (wM a cI cZ M) (wM a cI cZ (closMs M k1 p1 s1 a1 b1 x1))) args s 0 0 (xA (wM a cI cZ M))) (F0 m 54 ls [.int (bI (bEnd k1))]) := by
    intro H locs hP hD hS ls hl
    refine lv_istore (lv' := [(8, .int (bI (bEnd k1))), (0, .ref (a 0)), (1, .int (k1)), (2, .int (p1)), (3, .int (s1)), (4, .int (a1)), (5, .int (b1)), (6, .int (x1)), (7, .int (bI (bBad k1 p1 x1)))]) hx hb dX4_close_54 hl (by decide) rfl (fun ls hl => ?_)
    refine lv_iload_n hx hb dX4_close_56 rfl (lv_at hl 4 rfl) ?_
    refine lv_iconst (v := nI 1) hx hb dX4_close_57 (by decide) ?_
    refine lv_iconst (v := nI 3) hx hb dX4_close_58 (by decide) ?_
    refine xrS (As := [.int (s1), .int (nI 1), .int (nI 3)]) (rest := []) hx hb hml hown ht hN kS_X4_57 (r_X4_in l D s1 (nI 1) (nI 3)) ⟨by decide, by decide⟩ (fun k q h => by simp at h) (hK.sub (tys' := []) [] rfl) rfl hl.1 rfl (Nat.le_of_ble_eq_true rfl) dX4_close_59 ⟨Nat.zero_le _, Nat.zero_le _⟩ ?_
    refine lv_if_eq (tgt := 102) hx hb dX4_close_62 (by decide) (fun h_62 => ?_) (fun h_62 => ?_)
    · skip
      have h_62 : (bI (inI s1 (nI 1) (nI 3)) : Int32) = (0 : Int32) := h_62
      refine lv_iconst (v := nI 1) hx hb dX4_close_102 (by decide) ?_
      refine lv_goto (tgt := 107) hx hb dX4_close_103 (by decide) ?_
      refine xtop (y := bI (bRng k1 s1 a1 b1 x1)) (bI_1 (by unfold bRng; first | (rw [bI_f h_62]; rfl) | (rw [bI_f h_70, Bool.not_false, Bool.true_or, Bool.or_true]) | (rw [bI_t h_75, bI_f h_83, Bool.not_false, Bool.true_or, Bool.and_self, Bool.true_or, Bool.or_true, Bool.or_true]) | (rw [bI_t h_75, decide_eq_true h_90, Bool.or_true, Bool.and_self, Bool.true_or, Bool.or_true, Bool.or_true]) | (rw [bI_f h_99, Bool.not_false, Bool.or_true, Bool.or_true, Bool.or_true]))) ?_
      exact J107 _ _ hP hD hS ls (lv_sub hl [1, 2, 3, 4, 5, 6, 7, 8, 0] rfl)
    · skip
      have h_62 : ¬ ((bI (inI s1 (nI 1) (nI 3)) : Int32) = (0 : Int32)) := h_62
      refine lv_iload hx hb dX4_close_65 (lv_at hl 5 rfl) ?_
      refine xrS (As := [.int (a1)]) (rest := []) hx hb hml hown ht hN kS_X4_88 (r_X4_isMinute l D a1) ⟨by decide, by decide⟩ (fun k q h => by simp at h) (hK.sub (tys' := []) [] rfl) rfl hl.1 rfl (Nat.le_of_ble_eq_true rfl) dX4_close_67 ⟨Nat.zero_le _, Nat.zero_le _⟩ ?_
      refine lv_if_eq (tgt := 102) hx hb dX4_close_70 (by decide) (fun h_70 => ?_) (fun h_70 => ?_)
      · skip
        have h_70 : (bI (inI a1 (nI 0) (nI 99999)) : Int32) = (0 : Int32) := h_70
        refine lv_iconst (v := nI 1) hx hb dX4_close_102 (by decide) ?_
        refine lv_goto (tgt := 107) hx hb dX4_close_103 (by decide) ?_
        refine xtop (y := bI (bRng k1 s1 a1 b1 x1)) (bI_1 (by unfold bRng; first | (rw [bI_f h_62]; rfl) | (rw [bI_f h_70, Bool.not_false, Bool.true_or, Bool.or_true]) | (rw [bI_t h_75, bI_f h_83, Bool.not_false, Bool.true_or, Bool.and_self, Bool.true_or, Bool.or_true, Bool.or_true]) | (rw [bI_t h_75, decide_eq_true h_90, Bool.or_true, Bool.and_self, Bool.true_or, Bool.or_true, Bool.or_true]) | (rw [bI_f h_99, Bool.not_false, Bool.or_true, Bool.or_true, Bool.or_true]))) ?_
        exact J107 _ _ hP hD hS ls (lv_sub hl [1, 2, 3, 4, 5, 6, 7, 8, 0] rfl)
      · skip
        have h_70 : ¬ ((bI (inI a1 (nI 0) (nI 99999)) : Int32) = (0 : Int32)) := h_70
        refine lv_iload hx hb dX4_close_73 (lv_at hl 0 rfl) ?_
        refine lv_if_eq (tgt := 93) hx hb dX4_close_75 (by decide) (fun h_75 => ?_) (fun h_75 => ?_)
        · skip
          have h_75 : (bI (bEnd k1) : Int32) = (0 : Int32) := h_75
          refine lv_iload_n hx hb dX4_close_93 rfl (lv_at hl 2 rfl) ?_
          refine lv_iload hx hb dX4_close_94 (lv_at hl 7 rfl) ?_
          refine xrS (As := [.int (k1), .int (x1)]) (rest := []) hx hb hml hown ht hN kS_X4_91 (r_X4_isNumber l D k1 x1) ⟨by decide, by decide⟩ (fun k q h => by simp at h) (hK.sub (tys' := []) [] rfl) rfl hl.1 rfl (Nat.le_of_ble_eq_true rfl) dX4_close_96 ⟨Nat.zero_le _, Nat.zero_le _⟩ ?_
          refine lv_if_ne (tgt := 106) hx hb dX4_close_99 (by decide) (fun h_99 => ?_) (fun h_99 => ?_)
          · skip
            have h_99 : ¬ ((bI (numM k1 x1) : Int32) = (0 : Int32)) := h_99
            refine lv_iconst (v := nI 0) hx hb dX4_close_106 (by decide) ?_
            refine xtop (y := bI (bRng k1 s1 a1 b1 x1)) (bI_0 (by unfold bRng; rw [bI_t h_62, bI_t h_70, bI_t h_99]; first | (rw [bI_f h_75]; rfl) | (rw [bI_t h_83, decide_eq_false h_90, Bool.not_true, Bool.or_self, Bool.and_false]; rfl))) ?_
            exact J107 _ _ hP hD hS ls (lv_sub hl [1, 2, 3, 4, 5, 6, 7, 8, 0] rfl)
          · skip
            have h_99 : (bI (numM k1 x1) : Int32) = (0 : Int32) := h_99
            refine lv_iconst (v := nI 1) hx hb dX4_close_102 (by decide) ?_
            refine lv_goto (tgt := 107) hx hb dX4_close_103 (by decide) ?_
            refine xtop (y := bI (bRng k1 s1 a1 b1 x1)) (bI_1 (by unfold bRng; first | (rw [bI_f h_62]; rfl) | (rw [bI_f h_70, Bool.not_false, Bool.true_or, Bool.or_true]) | (rw [bI_t h_75, bI_f h_83, Bool.not_false, Bool.true_or, Bool.and_self, Bool.true_or, Bool.or_true, Bool.or_true]) | (rw [bI_t h_75, decide_eq_true h_90, Bool.or_true, Bool.and_self, Bool.true_or, Bool.or_true, Bool.or_true]) | (rw [bI_f h_99, Bool.not_false, Bool.or_true, Bool.or_true, Bool.or_true]))) ?_
            exact J107 _ _ hP hD hS ls (lv_sub hl [1, 2, 3, 4, 5, 6, 7, 8, 0] rfl)
        · skip
          have h_75 : ¬ ((bI (bEnd k1) : Int32) = (0 : Int32)) := h_75
          refine lv_iload hx hb dX4_close_78 (lv_at hl 6 rfl) ?_
          refine xrS (As := [.int (b1)]) (rest := []) hx hb hml hown ht hN kS_X4_88 (r_X4_isMinute l D b1) ⟨by decide, by decide⟩ (fun k q h => by simp at h) (hK.sub (tys' := []) [] rfl) rfl hl.1 rfl (Nat.le_of_ble_eq_true rfl) dX4_close_80 ⟨Nat.zero_le _, Nat.zero_le _⟩ ?_
          refine lv_if_eq (tgt := 102) hx hb dX4_close_83 (by decide) (fun h_83 => ?_) (fun h_83 => ?_)
          · skip
            have h_83 : (bI (inI b1 (nI 0) (nI 99999)) : Int32) = (0 : Int32) := h_83
            refine lv_iconst (v := nI 1) hx hb dX4_close_102 (by decide) ?_
            refine lv_goto (tgt := 107) hx hb dX4_close_103 (by decide) ?_
            refine xtop (y := bI (bRng k1 s1 a1 b1 x1)) (bI_1 (by unfold bRng; first | (rw [bI_f h_62]; rfl) | (rw [bI_f h_70, Bool.not_false, Bool.true_or, Bool.or_true]) | (rw [bI_t h_75, bI_f h_83, Bool.not_false, Bool.true_or, Bool.and_self, Bool.true_or, Bool.or_true, Bool.or_true]) | (rw [bI_t h_75, decide_eq_true h_90, Bool.or_true, Bool.and_self, Bool.true_or, Bool.or_true, Bool.or_true]) | (rw [bI_f h_99, Bool.not_false, Bool.or_true, Bool.or_true, Bool.or_true]))) ?_
            exact J107 _ _ hP hD hS ls (lv_sub hl [1, 2, 3, 4, 5, 6, 7, 8, 0] rfl)
          · skip
            have h_83 : ¬ ((bI (inI b1 (nI 0) (nI 99999)) : Int32) = (0 : Int32)) := h_83
            refine lv_iload hx hb dX4_close_86 (lv_at hl 6 rfl) ?_
            refine lv_iload hx hb dX4_close_88 (lv_at hl 5 rfl) ?_
            refine lv_icmp_le (tgt := 102) hx hb dX4_close_90 (by decide) (fun h_90 => ?_) (fun h_90 => ?_)
            · skip
              have h_90 : (b1 : Int32) ≤ (a1 : Int32) := h_90
              refine lv_iconst (v := nI 1) hx hb dX4_close_102 (by decide) ?_
              refine lv_goto (tgt := 107) hx hb dX4_close_103 (by decide) ?_
              refine xtop (y := bI (bRng k1 s1 a1 b1 x1)) (bI_1 (by unfold bRng; first | (rw [bI_f h_62]; rfl) | (rw [bI_f h_70, Bool.not_false, Bool.true_or, Bool.or_true]) | (rw [bI_t h_75, bI_f h_83, Bool.not_false, Bool.true_or, Bool.and_self, Bool.true_or, Bool.or_true, Bool.or_true]) | (rw [bI_t h_75, decide_eq_true h_90, Bool.or_true, Bool.and_self, Bool.true_or, Bool.or_true, Bool.or_true]) | (rw [bI_f h_99, Bool.not_false, Bool.or_true, Bool.or_true, Bool.or_true]))) ?_
              exact J107 _ _ hP hD hS ls (lv_sub hl [1, 2, 3, 4, 5, 6, 7, 8, 0] rfl)
            · skip
              have h_90 : ¬ ((b1 : Int32) ≤ (a1 : Int32)) := h_90
              refine lv_iload_n hx hb dX4_close_93 rfl (lv_at hl 2 rfl) ?_
              refine lv_iload hx hb dX4_close_94 (lv_at hl 7 rfl) ?_
              refine xrS (As := [.int (k1), .int (x1)]) (rest := []) hx hb hml hown ht hN kS_X4_91 (r_X4_isNumber l D k1 x1) ⟨by decide, by decide⟩ (fun k q h => by simp at h) (hK.sub (tys' := []) [] rfl) rfl hl.1 rfl (Nat.le_of_ble_eq_true rfl) dX4_close_96 ⟨Nat.zero_le _, Nat.zero_le _⟩ ?_
              refine lv_if_ne (tgt := 106) hx hb dX4_close_99 (by decide) (fun h_99 => ?_) (fun h_99 => ?_)
              · skip
                have h_99 : ¬ ((bI (numM k1 x1) : Int32) = (0 : Int32)) := h_99
                refine lv_iconst (v := nI 0) hx hb dX4_close_106 (by decide) ?_
                refine xtop (y := bI (bRng k1 s1 a1 b1 x1)) (bI_0 (by unfold bRng; rw [bI_t h_62, bI_t h_70, bI_t h_99]; first | (rw [bI_f h_75]; rfl) | (rw [bI_t h_83, decide_eq_false h_90, Bool.not_true, Bool.or_self, Bool.and_false]; rfl))) ?_
                exact J107 _ _ hP hD hS ls (lv_sub hl [1, 2, 3, 4, 5, 6, 7, 8, 0] rfl)
              · skip
                have h_99 : (bI (numM k1 x1) : Int32) = (0 : Int32) := h_99
                refine lv_iconst (v := nI 1) hx hb dX4_close_102 (by decide) ?_
                refine lv_goto (tgt := 107) hx hb dX4_close_103 (by decide) ?_
                refine xtop (y := bI (bRng k1 s1 a1 b1 x1)) (bI_1 (by unfold bRng; first | (rw [bI_f h_62]; rfl) | (rw [bI_f h_70, Bool.not_false, Bool.true_or, Bool.or_true]) | (rw [bI_t h_75, bI_f h_83, Bool.not_false, Bool.true_or, Bool.and_self, Bool.true_or, Bool.or_true, Bool.or_true]) | (rw [bI_t h_75, decide_eq_true h_90, Bool.or_true, Bool.and_self, Bool.true_or, Bool.or_true, Bool.or_true]) | (rw [bI_f h_99, Bool.not_false, Bool.or_true, Bool.or_true, Bool.or_true]))) ?_
                exact J107 _ _ hP hD hS ls (lv_sub hl [1, 2, 3, 4, 5, 6, 7, 8, 0] rfl)
  have J37 : ∀ (H : Heap) (locs : List Loc), va_P D vwCl (wM a cI cZ M) H → va_D (xA (wM a cI cZ M)) (wM a cI cZ M) → va_S (xA (wM a cI cZ M)) s.heap H locs → ∀ ls : Array Slot, lv_has ls 10 [(0, .ref (a 0)), (1, .int (k1)), (2, .int (p1)), (3, .int (s1)), (4, .int (a1)), (5, .int (b1)), (6, .int (x1))] → W p l e (xrm 3 72) s m args below meth cd H locs 0 0 (MQ below (xQw (some (.int (closMr M k1 p1 s1 a1 b1 x1))) D (wM a cI cZ M) (wM a cI cZ (closMs M k1 p1 s1 a1 b1 x1))) args s 0 0 (xA (wM a cI cZ M))) (F0 m 37 ls [.int (bI (bBad k1 p1 x1))]) := by
    intro H locs hP hD hS ls hl
    refine lv_istore (lv' := [(7, .int (bI (bBad k1 p1 x1))), (0, .ref (a 0)), (1, .int (k1)), (2, .int (p1)), (3, .int (s1)), (4, .int (a1)), (5, .int (b1)), (6, .int (x1))]) hx hb dX4_close_37 hl (by decide) rfl (fun ls hl => ?_)
    refine lv_iload_n hx hb dX4_close_39 rfl (lv_at hl 2 rfl) ?_
    refine lv_iconst (v := nI 2) hx hb dX4_close_40 (by decide) ?_
    refine lv_icmp_eq (tgt := 53) hx hb dX4_close_41 (by decide) (fun h_41 => ?_) (fun h_41 => ?_)
    · skip
      have h_41 : (k1 : Int32) = (nI 2 : Int32) := h_41
      refine lv_iconst (v := nI 0) hx hb dX4_close_53 (by decide) ?_
      refine xtop (y := bI (bEnd k1)) (bI_0 (by unfold bEnd; first | (rw [decide_eq_true h_41]; rfl) | (rw [decide_eq_true h_46, Bool.not_true, Bool.and_false]))) ?_
      exact J54 _ _ hP hD hS ls (lv_sub hl [1, 2, 3, 4, 5, 6, 7, 0] rfl)
    · skip
      have h_41 : ¬ ((k1 : Int32) = (nI 2 : Int32)) := h_41
      refine lv_iload_n hx hb dX4_close_44 rfl (lv_at hl 2 rfl) ?_
      refine lv_iconst (v := nI 3) hx hb dX4_close_45 (by decide) ?_
      refine lv_icmp_eq (tgt := 53) hx hb dX4_close_46 (by decide) (fun h_46 => ?_) (fun h_46 => ?_)
      · skip
        have h_46 : (k1 : Int32) = (nI 3 : Int32) := h_46
        refine lv_iconst (v := nI 0) hx hb dX4_close_53 (by decide) ?_
        refine xtop (y := bI (bEnd k1)) (bI_0 (by unfold bEnd; first | (rw [decide_eq_true h_41]; rfl) | (rw [decide_eq_true h_46, Bool.not_true, Bool.and_false]))) ?_
        exact J54 _ _ hP hD hS ls (lv_sub hl [1, 2, 3, 4, 5, 6, 7, 0] rfl)
      · skip
        have h_46 : ¬ ((k1 : Int32) = (nI 3 : Int32)) := h_46
        refine lv_iconst (v := nI 1) hx hb dX4_close_49 (by decide) ?_
        refine lv_goto (tgt := 54) hx hb dX4_close_50 (by decide) ?_
        refine xtop (y := bI (bEnd k1)) (bI_1 (by unfold bEnd; rw [decide_eq_false h_41, decide_eq_false h_46]; rfl)) ?_
        exact J54 _ _ hP hD hS ls (lv_sub hl [1, 2, 3, 4, 5, 6, 7, 0] rfl)
  refine lv_iload_n hx hb dX4_close_0 rfl (lv_at hl 1 rfl) ?_
  refine lv_iconst (v := nI 0) hx hb dX4_close_1 (by decide) ?_
  refine lv_iconst (v := nI 5) hx hb dX4_close_2 (by decide) ?_
  refine xrS (As := [.int (k1), .int (nI 0), .int (nI 5)]) (rest := []) hx hb hml hown ht hN kS_X4_57 (r_X4_in l D k1 (nI 0) (nI 5)) ⟨by decide, by decide⟩ (fun k q h => by simp at h) (hK.sub (tys' := []) [] rfl) rfl hl.1 rfl (Nat.le_of_ble_eq_true rfl) dX4_close_3 ⟨Nat.zero_le _, Nat.zero_le _⟩ ?_
  refine lv_if_eq (tgt := 32) hx hb dX4_close_6 (by decide) (fun h_6 => ?_) (fun h_6 => ?_)
  · skip
    have h_6 : (bI (inI k1 (nI 0) (nI 5)) : Int32) = (0 : Int32) := h_6
    refine lv_iconst (v := nI 1) hx hb dX4_close_32 (by decide) ?_
    refine lv_goto (tgt := 37) hx hb dX4_close_33 (by decide) ?_
    refine xtop (y := bI (bBad k1 p1 x1)) (bI_1 (by unfold bBad; first | (rw [bI_f h_6]; rfl) | (rw [bI_f h_13, Bool.not_false, Bool.true_or, Bool.or_true]) | (rw [decide_eq_true h_18, bI_f h_29, Bool.not_false, Bool.and_self, Bool.or_true, Bool.or_true]))) ?_
    exact J37 _ _ hP hD hS ls (lv_sub hl [0, 1, 2, 3, 4, 5, 6] rfl)
  · skip
    have h_6 : ¬ ((bI (inI k1 (nI 0) (nI 5)) : Int32) = (0 : Int32)) := h_6
    refine lv_iload_n hx hb dX4_close_9 rfl (lv_at hl 2 rfl) ?_
    refine xrS (As := [.int (p1)]) (rest := []) hx hb hml hown ht hN kS_X4_84 (r_X4_isPiece l D p1) ⟨by decide, by decide⟩ (fun k q h => by simp at h) (hK.sub (tys' := []) [] rfl) rfl hl.1 rfl (Nat.le_of_ble_eq_true rfl) dX4_close_10 ⟨Nat.zero_le _, Nat.zero_le _⟩ ?_
    refine lv_if_eq (tgt := 32) hx hb dX4_close_13 (by decide) (fun h_13 => ?_) (fun h_13 => ?_)
    · skip
      have h_13 : (bI (inI p1 (nI 0) (nI 59)) : Int32) = (0 : Int32) := h_13
      refine lv_iconst (v := nI 1) hx hb dX4_close_32 (by decide) ?_
      refine lv_goto (tgt := 37) hx hb dX4_close_33 (by decide) ?_
      refine xtop (y := bI (bBad k1 p1 x1)) (bI_1 (by unfold bBad; first | (rw [bI_f h_6]; rfl) | (rw [bI_f h_13, Bool.not_false, Bool.true_or, Bool.or_true]) | (rw [decide_eq_true h_18, bI_f h_29, Bool.not_false, Bool.and_self, Bool.or_true, Bool.or_true]))) ?_
      exact J37 _ _ hP hD hS ls (lv_sub hl [0, 1, 2, 3, 4, 5, 6] rfl)
    · skip
      have h_13 : ¬ ((bI (inI p1 (nI 0) (nI 59)) : Int32) = (0 : Int32)) := h_13
      refine lv_iload_n hx hb dX4_close_16 rfl (lv_at hl 1 rfl) ?_
      refine lv_iconst (v := nI 2) hx hb dX4_close_17 (by decide) ?_
      refine lv_icmp_ne (tgt := 36) hx hb dX4_close_18 (by decide) (fun h_18 => ?_) (fun h_18 => ?_)
      · skip
        have h_18 : ¬ ((k1 : Int32) = (nI 2 : Int32)) := h_18
        refine lv_iconst (v := nI 0) hx hb dX4_close_36 (by decide) ?_
        refine xtop (y := bI (bBad k1 p1 x1)) (bI_0 (by unfold bBad; rw [bI_t h_6, bI_t h_13]; first | (rw [decide_eq_false h_18]; rfl) | (rw [bI_t h_29, Bool.not_true, Bool.and_false]; rfl))) ?_
        exact J37 _ _ hP hD hS ls (lv_sub hl [0, 1, 2, 3, 4, 5, 6] rfl)
      · skip
        have h_18 : (k1 : Int32) = (nI 2 : Int32) := h_18
        refine lv_iload hx hb dX4_close_21 (lv_at hl 6 rfl) ?_
        refine lv_iconst (v := nI 0) hx hb dX4_close_23 (by decide) ?_
        refine lv_bipush (v := nI 19) hx hb dX4_close_24 (by decide) ?_
        refine xrS (As := [.int (x1), .int (nI 0), .int (nI 19)]) (rest := []) hx hb hml hown ht hN kS_X4_57 (r_X4_in l D x1 (nI 0) (nI 19)) ⟨by decide, by decide⟩ (fun k q h => by simp at h) (hK.sub (tys' := []) [] rfl) rfl hl.1 rfl (Nat.le_of_ble_eq_true rfl) dX4_close_26 ⟨Nat.zero_le _, Nat.zero_le _⟩ ?_
        refine lv_if_ne (tgt := 36) hx hb dX4_close_29 (by decide) (fun h_29 => ?_) (fun h_29 => ?_)
        · skip
          have h_29 : ¬ ((bI (inI x1 (nI 0) (nI 19)) : Int32) = (0 : Int32)) := h_29
          refine lv_iconst (v := nI 0) hx hb dX4_close_36 (by decide) ?_
          refine xtop (y := bI (bBad k1 p1 x1)) (bI_0 (by unfold bBad; rw [bI_t h_6, bI_t h_13]; first | (rw [decide_eq_false h_18]; rfl) | (rw [bI_t h_29, Bool.not_true, Bool.and_false]; rfl))) ?_
          exact J37 _ _ hP hD hS ls (lv_sub hl [0, 1, 2, 3, 4, 5, 6] rfl)
        · skip
          have h_29 : (bI (inI x1 (nI 0) (nI 19)) : Int32) = (0 : Int32) := h_29
          refine lv_iconst (v := nI 1) hx hb dX4_close_32 (by decide) ?_
          refine lv_goto (tgt := 37) hx hb dX4_close_33 (by decide) ?_
          refine xtop (y := bI (bBad k1 p1 x1)) (bI_1 (by unfold bBad; first | (rw [bI_f h_6]; rfl) | (rw [bI_f h_13, Bool.not_false, Bool.true_or, Bool.or_true]) | (rw [decide_eq_true h_18, bI_f h_29, Bool.not_false, Bool.and_self, Bool.or_true, Bool.or_true]))) ?_
          exact J37 _ _ hP hD hS ls (lv_sub hl [0, 1, 2, 3, 4, 5, 6] rfl)
