theorem kV_X4_94 : xcV RX4 RX4 94 yX4_throwing cX4_throwing 4 (some .boolean) 3 := ⟨wd651, wd648, wd650, wd12, wd25, rfl, ⟨by decide +kernel, by decide +kernel, by decide +kernel⟩⟩
theorem kS_X4_104 : xcS RX4 104 yX4_isSide cX4_isSide 1 (some .boolean) 1 := ⟨wd694, wd692, wd693, wd25, ⟨by decide +kernel, by decide +kernel, by decide +kernel⟩⟩
theorem kS_X4_88 : xcS RX4 88 yX4_isMinute cX4_isMinute 1 (some .boolean) 1 := ⟨wd643, wd641, wd642, wd25, ⟨by decide +kernel, by decide +kernel, by decide +kernel⟩⟩
theorem kS_X4_84 : xcS RX4 84 yX4_isPiece cX4_isPiece 1 (some .boolean) 1 := ⟨wd640, wd638, wd639, wd25, ⟨by decide +kernel, by decide +kernel, by decide +kernel⟩⟩
theorem kV_X4_108 : xcV RX4 RX4 108 yX4_endOf cX4_endOf 2 (some .int) 1 := ⟨wd722, wd719, wd721, wd19, wd25, rfl, ⟨by decide +kernel, by decide +kernel, by decide +kernel⟩⟩
set_option maxHeartbeats 4000000 in
set_option maxRecDepth 100000 in
theorem r_X4_closed (l : Launch) (D : va_G) (a : Nat → Nat) (cI cZ : ClassId) (M : MS) (hO : mOk (sK M)) (p1 s1 t : Int32) : xWR l yX4_closed cX4_closed 4 (some .boolean) (xrm 2 48) [.ref (a 0), .int (p1), .int (s1), .int (t)] D (wM a cI cZ M) (tyL cI cZ) (some (.int (closedMr M p1 s1 t))) (wM a cI cZ (closedMs M p1 s1 t)) := by
  refine xWR.of (by decide +kernel) (Nat.le_of_ble_eq_true rfl) ?_
  intro p e s m args below meth cd hx hb hr hml hown hlocks ht hN hP hK hD hS ls hl
  have hl : lv_has ls 4 [(0, .ref (a 0)), (1, .int (p1)), (2, .int (s1)), (3, .int (t))] := hl
  have hown : s.vm.findClass RX4 = some m.cls := hown
  have J32 : ∀ (H : Heap) (locs : List Loc), va_P D vwCl (wM a cI cZ M) H → va_D (xA (wM a cI cZ M)) (wM a cI cZ M) → va_S (xA (wM a cI cZ M)) s.heap H locs → ∀ ls : Array Slot, lv_has ls 4 [(0, .ref (a 0)), (1, .int (p1)), (2, .int (s1)), (3, .int (t))] → W p l e (xrm 2 48) s m args below meth cd H locs 0 0 (MQ below (xQw (some (.int (closedMr M p1 s1 t))) D (wM a cI cZ M) (wM a cI cZ (closedMs M p1 s1 t))) args s 0 0 (xA (wM a cI cZ M))) (F0 m 32 ls [.int (bI (bSt s1 t)), .int (bI (bPc p1)), .ref (a 0)]) := by
    intro H locs hP hD hS ls hl
    refine lv_iconst (v := nI 0) hx hb dX4_closed_32 (by decide) ?_
    refine xwV (As := [.int (bI (bPc p1)), .int (bI (bSt s1 t)), .int (nI 0)]) (rest := []) (wr := []) (ws2 := (wM a cI cZ (closedMs M p1 s1 t))) hx hb hml hown ht hN kV_X4_94 (r_X4_throwing l D a cI cZ M (bPc p1) (bSt s1 t) (false)) ⟨by decide, by decide⟩ hP hD hS hK [0, 1, 2, 3, 4, 5, 6, 7, 8, 9, 10, 11, 12, 13, 14] [] [0, 1, 2, 3, 4, 5, 6, 7, 8, 9, 10, 11, 12, 13, 14] rfl rfl (by decide) (by decide) (by decide) rfl rfl (by decide) rfl rfl rfl rfl hl.1 rfl (Nat.le_of_ble_eq_true rfl) dX4_closed_33 ⟨Nat.zero_le _, Nat.zero_le _⟩ (fun H locs hP hD hS => ?_)
    refine lv_if_eq (tgt := 41) hx hb dX4_closed_36 (by decide) (fun h_36 => ?_) (fun h_36 => ?_)
    · skip
      have h_36 : (bI (bPc p1 || bSt s1 t || false) : Int32) = (0 : Int32) := h_36
      refine lv_aload_n hx hb dX4_closed_41 rfl (lv_at hl 0 rfl) ?_
      refine lv_iload_n hx hb dX4_closed_42 rfl (lv_at hl 1 rfl) ?_
      refine lv_iload_n hx hb dX4_closed_43 rfl (lv_at hl 2 rfl) ?_
      refine lv_iload_n hx hb dX4_closed_44 rfl (lv_at hl 3 rfl) ?_
      refine xrV (As := [.int (p1), .int (s1), .int (t)]) (rest := []) hx hb hml hown ht hN kV_X4_75 (r_X4_isClosed l D a cI cZ (closedMs M p1 s1 t) hO p1 s1 t) ⟨by decide, by decide⟩ hP hK rfl rfl rfl rfl hl.1 rfl (Nat.le_of_ble_eq_true rfl) dX4_closed_45 ⟨Nat.zero_le _, Nat.zero_le _⟩ ?_
      exact xw_zret (v := bI (isClosedM (sK M) p1 s1 t)) hx hb hr hlocks (by first | rfl | exact bI_nar _) hS hP (by rw [closedMr, if_neg (by rw [bI_f h_36]; decide)]) dX4_closed_48
    · skip
      have h_36 : ¬ ((bI (bPc p1 || bSt s1 t || false) : Int32) = (0 : Int32)) := h_36
      refine lv_iconst (v := nI 0) hx hb dX4_closed_39 (by decide) ?_
      exact xw_zret (v := nI 0) hx hb hr hlocks (by first | rfl | exact bI_nar _) hS hP (by rw [closedMr, if_pos (bI_t h_36)]) dX4_closed_40
  have J13 : ∀ (H : Heap) (locs : List Loc), va_P D vwCl (wM a cI cZ M) H → va_D (xA (wM a cI cZ M)) (wM a cI cZ M) → va_S (xA (wM a cI cZ M)) s.heap H locs → ∀ ls : Array Slot, lv_has ls 4 [(0, .ref (a 0)), (1, .int (p1)), (2, .int (s1)), (3, .int (t))] → W p l e (xrm 2 48) s m args below meth cd H locs 0 0 (MQ below (xQw (some (.int (closedMr M p1 s1 t))) D (wM a cI cZ M) (wM a cI cZ (closedMs M p1 s1 t))) args s 0 0 (xA (wM a cI cZ M))) (F0 m 13 ls [.int (bI (bPc p1)), .ref (a 0)]) := by
    intro H locs hP hD hS ls hl
    refine lv_iload_n hx hb dX4_closed_13 rfl (lv_at hl 2 rfl) ?_
    refine xrS (As := [.int (s1)]) (rest := [.int (bI (bPc p1)), .ref (a 0)]) hx hb hml hown ht hN kS_X4_104 (r_X4_isSide l D s1) ⟨by decide, by decide⟩ (fun k q h => by simp at h) (hK.sub (tys' := []) [] rfl) rfl hl.1 rfl (Nat.le_of_ble_eq_true rfl) dX4_closed_14 ⟨Nat.zero_le _, Nat.zero_le _⟩ ?_
    refine lv_if_eq (tgt := 27) hx hb dX4_closed_17 (by decide) (fun h_17 => ?_) (fun h_17 => ?_)
    · skip
      have h_17 : (bI (inI s1 (nI 1) (nI 2)) : Int32) = (0 : Int32) := h_17
      refine lv_iconst (v := nI 1) hx hb dX4_closed_27 (by decide) ?_
      refine lv_goto (tgt := 32) hx hb dX4_closed_28 (by decide) ?_
      refine xtop (y := bI (bSt s1 t)) (bI_1 (by unfold bSt; first | (rw [bI_f h_17]; rfl) | (rw [bI_f h_24, Bool.not_false, Bool.or_true]))) ?_
      exact J32 _ _ hP hD hS ls (lv_sub hl [0, 1, 2, 3] rfl)
    · skip
      have h_17 : ¬ ((bI (inI s1 (nI 1) (nI 2)) : Int32) = (0 : Int32)) := h_17
      refine lv_iload_n hx hb dX4_closed_20 rfl (lv_at hl 3 rfl) ?_
      refine xrS (As := [.int (t)]) (rest := [.int (bI (bPc p1)), .ref (a 0)]) hx hb hml hown ht hN kS_X4_88 (r_X4_isMinute l D t) ⟨by decide, by decide⟩ (fun k q h => by simp at h) (hK.sub (tys' := []) [] rfl) rfl hl.1 rfl (Nat.le_of_ble_eq_true rfl) dX4_closed_21 ⟨Nat.zero_le _, Nat.zero_le _⟩ ?_
      refine lv_if_ne (tgt := 31) hx hb dX4_closed_24 (by decide) (fun h_24 => ?_) (fun h_24 => ?_)
      · skip
        have h_24 : ¬ ((bI (inI t (nI 0) (nI 99999)) : Int32) = (0 : Int32)) := h_24
        refine lv_iconst (v := nI 0) hx hb dX4_closed_31 (by decide) ?_
        refine xtop (y := bI (bSt s1 t)) (bI_0 (by unfold bSt; rw [bI_t h_17, bI_t h_24]; rfl)) ?_
        exact J32 _ _ hP hD hS ls (lv_sub hl [0, 1, 2, 3] rfl)
      · skip
        have h_24 : (bI (inI t (nI 0) (nI 99999)) : Int32) = (0 : Int32) := h_24
        refine lv_iconst (v := nI 1) hx hb dX4_closed_27 (by decide) ?_
        refine lv_goto (tgt := 32) hx hb dX4_closed_28 (by decide) ?_
        refine xtop (y := bI (bSt s1 t)) (bI_1 (by unfold bSt; first | (rw [bI_f h_17]; rfl) | (rw [bI_f h_24, Bool.not_false, Bool.or_true]))) ?_
        exact J32 _ _ hP hD hS ls (lv_sub hl [0, 1, 2, 3] rfl)
  refine lv_aload_n hx hb dX4_closed_0 rfl (lv_at hl 0 rfl) ?_
  refine lv_iload_n hx hb dX4_closed_1 rfl (lv_at hl 1 rfl) ?_
  refine xrS (As := [.int (p1)]) (rest := [.ref (a 0)]) hx hb hml hown ht hN kS_X4_84 (r_X4_isPiece l D p1) ⟨by decide, by decide⟩ (fun k q h => by simp at h) (hK.sub (tys' := []) [] rfl) rfl hl.1 rfl (Nat.le_of_ble_eq_true rfl) dX4_closed_2 ⟨Nat.zero_le _, Nat.zero_le _⟩ ?_
  refine lv_if_ne (tgt := 12) hx hb dX4_closed_5 (by decide) (fun h_5 => ?_) (fun h_5 => ?_)
  · skip
    have h_5 : ¬ ((bI (inI p1 (nI 0) (nI 59)) : Int32) = (0 : Int32)) := h_5
    refine lv_iconst (v := nI 0) hx hb dX4_closed_12 (by decide) ?_
    refine xtop (y := bI (bPc p1)) (bI_0 (by unfold bPc; rw [bI_t h_5]; rfl)) ?_
    exact J13 _ _ hP hD hS ls (lv_sub hl [0, 1, 2, 3] rfl)
  · skip
    have h_5 : (bI (inI p1 (nI 0) (nI 59)) : Int32) = (0 : Int32) := h_5
    refine lv_iconst (v := nI 1) hx hb dX4_closed_8 (by decide) ?_
    refine lv_goto (tgt := 13) hx hb dX4_closed_9 (by decide) ?_
    refine xtop (y := bI (bPc p1)) (bI_1 (by unfold bPc; rw [bI_f h_5]; rfl)) ?_
    exact J13 _ _ hP hD hS ls (lv_sub hl [0, 1, 2, 3] rfl)
set_option maxHeartbeats 4000000 in
set_option maxRecDepth 100000 in
theorem r_X4_opens (l : Launch) (D : va_G) (a : Nat → Nat) (cI cZ : ClassId) (M : MS) (hO : mOk (sK M)) (p1 s1 t : Int32) : xWR l yX4_opens cX4_opens 5 (some .int) (xrm 2 48) [.ref (a 0), .int (p1), .int (s1), .int (t)] D (wM a cI cZ M) (tyL cI cZ) (some (.int (opensMr M p1 s1 t))) (wM a cI cZ (closedMs M p1 s1 t)) := by
  refine xWR.of (by decide +kernel) (Nat.le_of_ble_eq_true rfl) ?_
  intro p e s m args below meth cd hx hb hr hml hown hlocks ht hN hP hK hD hS ls hl
  have hl : lv_has ls 5 [(0, .ref (a 0)), (1, .int (p1)), (2, .int (s1)), (3, .int (t))] := hl
  have hown : s.vm.findClass RX4 = some m.cls := hown
  have L44 : ∀ (n : Nat) (k : Nat), (ix t + 2000 < k + n) → (ix t ≤ k) → (k ≤ 100000) → (k ≤ ix t + 2000) → (t = nI (ix t)) → (ix t ≤ 99999) → (¬ (bPc p1 || bSt s1 t || false) = true) → (opensMr M p1 s1 t = opnN (fun k => isClosedM (sK M) p1 s1 (nI k)) k (min (ix t + 2000 - k) (100000 - k))) → ∀ (H : Heap) (locs : List Loc), va_P D vwCl (wM a cI cZ (closedMs M p1 s1 t)) H → va_D (xA (wM a cI cZ M)) (wM a cI cZ (closedMs M p1 s1 t)) → va_S (xA (wM a cI cZ M)) s.heap H locs → ∀ ls : Array Slot, lv_has ls 5 [(0, .ref (a 0)), (1, .int (p1)), (2, .int (s1)), (3, .int (t)), (4, .int (nI k))] → W p l e (xrm 2 48) s m args below meth cd H locs 0 0 (MQ below (xQw (some (.int (opensMr M p1 s1 t))) D (wM a cI cZ M) (wM a cI cZ (closedMs M p1 s1 t))) args s 0 0 (xA (wM a cI cZ M))) (F0 m 44 ls []) := by
    intro n
    induction n with
    | zero =>
      intro k hfuel hk1 hk2 hk3 et ht9 hz0 hv
      exact absurd hfuel (by omega)
    | succ n ih44 =>
      intro k hfuel hk1 hk2 hk3 et ht9 hz0 hv H locs hP hD hS ls hl
      refine lv_iload hx hb dX4_opens_44 (lv_at hl 4 rfl) ?_
      refine lv_iload_n hx hb dX4_opens_46 rfl (lv_at hl 3 rfl) ?_
      refine xtop (y := nI (ix t)) et ?_
      refine lv_sipush (v := nI 2000) hx hb dX4_opens_47 (by decide) ?_
      refine lv_iadd hx hb dX4_opens_50 ?_
      refine xtop (y := nI (ix t + 2000)) (nI_add _ _) ?_
      refine lv_icmp_ge (tgt := 81) hx hb dX4_opens_51 (by decide) (fun h_51 => ?_) (fun h_51 => ?_)
      · skip
        have h_51 : (nI (ix t + 2000) : Int32) ≤ (nI k : Int32) := h_51
        have h_51 : (ix t + 2000) ≤ k := (nI_leI (by omega) (by omega)).mp h_51
        refine lv_iconst (v := (-1 : Int32)) hx hb dX4_opens_81 (by decide) ?_
        exact xw_iret (v := (-1 : Int32)) hx hb hr hlocks hS hP (by rw [hv, show min (ix t + 2000 - k) (100000 - k) = 0 by omega]; rfl) dX4_opens_82
      · skip
        have h_51 : ¬ ((nI (ix t + 2000) : Int32) ≤ (nI k : Int32)) := h_51
        have h_51 : ¬ ((ix t + 2000) ≤ k) := fun z => h_51 ((nI_leI (by omega) (by omega)).mpr z)
        refine lv_iload hx hb dX4_opens_54 (lv_at hl 4 rfl) ?_
        refine lv_ldc (v := nI 99999) hx hb hown (ht _ wd644) dX4_opens_56 ?_
        refine lv_icmp_gt (tgt := 81) hx hb dX4_opens_58 (by decide) (fun h_58 => ?_) (fun h_58 => ?_)
        · skip
          have h_58 : (nI 99999 : Int32) < (nI k : Int32) := h_58
          have h_58 : 99999 < k := (nI_ltI (by omega) (by omega)).mp h_58
          refine lv_iconst (v := (-1 : Int32)) hx hb dX4_opens_81 (by decide) ?_
          exact xw_iret (v := (-1 : Int32)) hx hb hr hlocks hS hP (by rw [hv, show min (ix t + 2000 - k) (100000 - k) = 0 by omega]; rfl) dX4_opens_82
        · skip
          have h_58 : ¬ ((nI 99999 : Int32) < (nI k : Int32)) := h_58
          have h_58 : ¬ (99999 < k) := fun z => h_58 ((nI_ltI (by omega) (by omega)).mpr z)
          refine lv_aload_n hx hb dX4_opens_61 rfl (lv_at hl 0 rfl) ?_
          refine lv_iload_n hx hb dX4_opens_62 rfl (lv_at hl 1 rfl) ?_
          refine lv_iload_n hx hb dX4_opens_63 rfl (lv_at hl 2 rfl) ?_
          refine lv_iload hx hb dX4_opens_64 (lv_at hl 4 rfl) ?_
          refine xrV (As := [.int (p1), .int (s1), .int (nI k)]) (rest := []) hx hb hml hown ht hN kV_X4_75 (r_X4_isClosed l D a cI cZ (closedMs M p1 s1 t) hO p1 s1 (nI k)) ⟨by decide, by decide⟩ hP hK rfl rfl rfl rfl hl.1 rfl (Nat.le_of_ble_eq_true rfl) dX4_opens_66 ⟨Nat.zero_le _, Nat.zero_le _⟩ ?_
          refine lv_if_ne (tgt := 75) hx hb dX4_opens_69 (by decide) (fun h_69 => ?_) (fun h_69 => ?_)
          · skip
            have h_69 : ¬ ((bI (isClosedM (sK M) p1 s1 (nI k)) : Int32) = (0 : Int32)) := h_69
            refine lv_iinc (v := nI (k + 1)) (lv' := [(4, .int (nI (k + 1))), (0, .ref (a 0)), (1, .int (p1)), (2, .int (s1)), (3, .int (t))]) hx hb dX4_opens_75 hl (k := 4) rfl (nI_1 _) (by decide) rfl (fun ls hl => ?_)
            refine lv_goto (tgt := 44) hx hb dX4_opens_78 (by decide) ?_
            exact ih44 (k + 1) (by omega) (by omega) (by omega) (by omega) et ht9 hz0 (by rw [hv, show min (ix t + 2000 - k) (100000 - k) = min (ix t + 2000 - (k + 1)) (100000 - (k + 1)) + 1 by omega, opnN, if_pos (bI_t h_69)]) _ _ hP hD hS ls (lv_sub hl [1, 2, 3, 4, 0] rfl)
          · skip
            have h_69 : (bI (isClosedM (sK M) p1 s1 (nI k)) : Int32) = (0 : Int32) := h_69
            refine lv_iload hx hb dX4_opens_72 (lv_at hl 4 rfl) ?_
            exact xw_iret (v := nI k) hx hb hr hlocks hS hP (by rw [hv, show min (ix t + 2000 - k) (100000 - k) = min (ix t + 2000 - (k + 1)) (100000 - (k + 1)) + 1 by omega, opnN, if_neg (by rw [bI_f h_69]; decide)]) dX4_opens_74
  have J32 : ∀ (H : Heap) (locs : List Loc), va_P D vwCl (wM a cI cZ M) H → va_D (xA (wM a cI cZ M)) (wM a cI cZ M) → va_S (xA (wM a cI cZ M)) s.heap H locs → ∀ ls : Array Slot, lv_has ls 5 [(0, .ref (a 0)), (1, .int (p1)), (2, .int (s1)), (3, .int (t))] → W p l e (xrm 2 48) s m args below meth cd H locs 0 0 (MQ below (xQw (some (.int (opensMr M p1 s1 t))) D (wM a cI cZ M) (wM a cI cZ (closedMs M p1 s1 t))) args s 0 0 (xA (wM a cI cZ M))) (F0 m 32 ls [.int (bI (bSt s1 t)), .int (bI (bPc p1)), .ref (a 0)]) := by
    intro H locs hP hD hS ls hl
    refine lv_iconst (v := nI 0) hx hb dX4_opens_32 (by decide) ?_
    refine xwV (As := [.int (bI (bPc p1)), .int (bI (bSt s1 t)), .int (nI 0)]) (rest := []) (wr := []) (ws2 := (wM a cI cZ (closedMs M p1 s1 t))) hx hb hml hown ht hN kV_X4_94 (r_X4_throwing l D a cI cZ M (bPc p1) (bSt s1 t) (false)) ⟨by decide, by decide⟩ hP hD hS hK [0, 1, 2, 3, 4, 5, 6, 7, 8, 9, 10, 11, 12, 13, 14] [] [0, 1, 2, 3, 4, 5, 6, 7, 8, 9, 10, 11, 12, 13, 14] rfl rfl (by decide) (by decide) (by decide) rfl rfl (by decide) rfl rfl rfl rfl hl.1 rfl (Nat.le_of_ble_eq_true rfl) dX4_opens_33 ⟨Nat.zero_le _, Nat.zero_le _⟩ (fun H locs hP hD hS => ?_)
    refine lv_if_eq (tgt := 41) hx hb dX4_opens_36 (by decide) (fun h_36 => ?_) (fun h_36 => ?_)
    · skip
      have h_36 : (bI (bPc p1 || bSt s1 t || false) : Int32) = (0 : Int32) := h_36
      have hf := orF (bI_f h_36)
      obtain ⟨et, -, ht9⟩ := ix_in (by decide) (by decide) (notF (Bool.or_eq_false_iff.mp hf.2).2)
      have hz0 : ¬ (bPc p1 || bSt s1 t || false) = true := by rw [bI_f h_36]; decide
      refine lv_iload_n hx hb dX4_opens_41 rfl (lv_at hl 3 rfl) ?_
      refine xtop (y := nI (ix t)) et ?_
      refine lv_istore (lv' := [(4, .int (nI (ix t))), (0, .ref (a 0)), (1, .int (p1)), (2, .int (s1)), (3, .int (t))]) hx hb dX4_opens_42 hl (by decide) rfl (fun ls hl => ?_)
      exact L44 2001 (ix t) (by omega) (by omega) (by omega) (by omega) et ht9 hz0 (by rw [opensMr, if_neg hz0, show min (ix t + 2000 - ix t) (100000 - ix t) = min 2000 (100000 - ix t) by omega]) _ _ hP hD hS ls (lv_sub hl [1, 2, 3, 4, 0] rfl)
    · skip
      have h_36 : ¬ ((bI (bPc p1 || bSt s1 t || false) : Int32) = (0 : Int32)) := h_36
      refine lv_iconst (v := nI 0) hx hb dX4_opens_39 (by decide) ?_
      exact xw_iret (v := nI 0) hx hb hr hlocks hS hP (by rw [opensMr, if_pos (bI_t h_36)]) dX4_opens_40
  have J13 : ∀ (H : Heap) (locs : List Loc), va_P D vwCl (wM a cI cZ M) H → va_D (xA (wM a cI cZ M)) (wM a cI cZ M) → va_S (xA (wM a cI cZ M)) s.heap H locs → ∀ ls : Array Slot, lv_has ls 5 [(0, .ref (a 0)), (1, .int (p1)), (2, .int (s1)), (3, .int (t))] → W p l e (xrm 2 48) s m args below meth cd H locs 0 0 (MQ below (xQw (some (.int (opensMr M p1 s1 t))) D (wM a cI cZ M) (wM a cI cZ (closedMs M p1 s1 t))) args s 0 0 (xA (wM a cI cZ M))) (F0 m 13 ls [.int (bI (bPc p1)), .ref (a 0)]) := by
    intro H locs hP hD hS ls hl
    refine lv_iload_n hx hb dX4_opens_13 rfl (lv_at hl 2 rfl) ?_
    refine xrS (As := [.int (s1)]) (rest := [.int (bI (bPc p1)), .ref (a 0)]) hx hb hml hown ht hN kS_X4_104 (r_X4_isSide l D s1) ⟨by decide, by decide⟩ (fun k q h => by simp at h) (hK.sub (tys' := []) [] rfl) rfl hl.1 rfl (Nat.le_of_ble_eq_true rfl) dX4_opens_14 ⟨Nat.zero_le _, Nat.zero_le _⟩ ?_
    refine lv_if_eq (tgt := 27) hx hb dX4_opens_17 (by decide) (fun h_17 => ?_) (fun h_17 => ?_)
    · skip
      have h_17 : (bI (inI s1 (nI 1) (nI 2)) : Int32) = (0 : Int32) := h_17
      refine lv_iconst (v := nI 1) hx hb dX4_opens_27 (by decide) ?_
      refine lv_goto (tgt := 32) hx hb dX4_opens_28 (by decide) ?_
      refine xtop (y := bI (bSt s1 t)) (bI_1 (by unfold bSt; first | (rw [bI_f h_17]; rfl) | (rw [bI_f h_24, Bool.not_false, Bool.or_true]))) ?_
      exact J32 _ _ hP hD hS ls (lv_sub hl [0, 1, 2, 3] rfl)
    · skip
      have h_17 : ¬ ((bI (inI s1 (nI 1) (nI 2)) : Int32) = (0 : Int32)) := h_17
      refine lv_iload_n hx hb dX4_opens_20 rfl (lv_at hl 3 rfl) ?_
      refine xrS (As := [.int (t)]) (rest := [.int (bI (bPc p1)), .ref (a 0)]) hx hb hml hown ht hN kS_X4_88 (r_X4_isMinute l D t) ⟨by decide, by decide⟩ (fun k q h => by simp at h) (hK.sub (tys' := []) [] rfl) rfl hl.1 rfl (Nat.le_of_ble_eq_true rfl) dX4_opens_21 ⟨Nat.zero_le _, Nat.zero_le _⟩ ?_
      refine lv_if_ne (tgt := 31) hx hb dX4_opens_24 (by decide) (fun h_24 => ?_) (fun h_24 => ?_)
      · skip
        have h_24 : ¬ ((bI (inI t (nI 0) (nI 99999)) : Int32) = (0 : Int32)) := h_24
        refine lv_iconst (v := nI 0) hx hb dX4_opens_31 (by decide) ?_
        refine xtop (y := bI (bSt s1 t)) (bI_0 (by unfold bSt; rw [bI_t h_17, bI_t h_24]; rfl)) ?_
        exact J32 _ _ hP hD hS ls (lv_sub hl [0, 1, 2, 3] rfl)
      · skip
        have h_24 : (bI (inI t (nI 0) (nI 99999)) : Int32) = (0 : Int32) := h_24
        refine lv_iconst (v := nI 1) hx hb dX4_opens_27 (by decide) ?_
        refine lv_goto (tgt := 32) hx hb dX4_opens_28 (by decide) ?_
        refine xtop (y := bI (bSt s1 t)) (bI_1 (by unfold bSt; first | (rw [bI_f h_17]; rfl) | (rw [bI_f h_24, Bool.not_false, Bool.or_true]))) ?_
        exact J32 _ _ hP hD hS ls (lv_sub hl [0, 1, 2, 3] rfl)
  refine lv_aload_n hx hb dX4_opens_0 rfl (lv_at hl 0 rfl) ?_
  refine lv_iload_n hx hb dX4_opens_1 rfl (lv_at hl 1 rfl) ?_
  refine xrS (As := [.int (p1)]) (rest := [.ref (a 0)]) hx hb hml hown ht hN kS_X4_84 (r_X4_isPiece l D p1) ⟨by decide, by decide⟩ (fun k q h => by simp at h) (hK.sub (tys' := []) [] rfl) rfl hl.1 rfl (Nat.le_of_ble_eq_true rfl) dX4_opens_2 ⟨Nat.zero_le _, Nat.zero_le _⟩ ?_
  refine lv_if_ne (tgt := 12) hx hb dX4_opens_5 (by decide) (fun h_5 => ?_) (fun h_5 => ?_)
  · skip
    have h_5 : ¬ ((bI (inI p1 (nI 0) (nI 59)) : Int32) = (0 : Int32)) := h_5
    refine lv_iconst (v := nI 0) hx hb dX4_opens_12 (by decide) ?_
    refine xtop (y := bI (bPc p1)) (bI_0 (by unfold bPc; rw [bI_t h_5]; rfl)) ?_
    exact J13 _ _ hP hD hS ls (lv_sub hl [0, 1, 2, 3] rfl)
  · skip
    have h_5 : (bI (inI p1 (nI 0) (nI 59)) : Int32) = (0 : Int32) := h_5
    refine lv_iconst (v := nI 1) hx hb dX4_opens_8 (by decide) ?_
    refine lv_goto (tgt := 13) hx hb dX4_opens_9 (by decide) ?_
    refine xtop (y := bI (bPc p1)) (bI_1 (by unfold bPc; rw [bI_f h_5]; rfl)) ?_
    exact J13 _ _ hP hD hS ls (lv_sub hl [0, 1, 2, 3] rfl)
set_option maxHeartbeats 4000000 in
set_option maxRecDepth 100000 in
theorem r_X4_minutes (l : Launch) (D : va_G) (a : Nat → Nat) (cI cZ : ClassId) (M : MS) (hO : mOk (sK M)) (p1 s1 a1 b1 : Int32) : xWR l yX4_minutes cX4_minutes 7 (some .int) (xrm 2 48) [.ref (a 0), .int (p1), .int (s1), .int (a1), .int (b1)] D (wM a cI cZ M) (tyL cI cZ) (some (.int (minMr M p1 s1 a1 b1))) (wM a cI cZ (minMs M p1 s1 a1 b1)) := by
  refine xWR.of (by decide +kernel) (Nat.le_of_ble_eq_true rfl) ?_
  intro p e s m args below meth cd hx hb hr hml hown hlocks ht hN hP hK hD hS ls hl
  have hl : lv_has ls 7 [(0, .ref (a 0)), (1, .int (p1)), (2, .int (s1)), (3, .int (a1)), (4, .int (b1))] := hl
  have hown : s.vm.findClass RX4 = some m.cls := hown
  have L71 : ∀ (n : Nat) (n1 : Nat) (k : Nat), (ix b1 < k + n) → (ix a1 ≤ k) → (k ≤ ix b1) → (b1 = nI (ix b1)) → (ix b1 ≤ 99999) → (¬ (bPc p1 || bMi s1 a1 b1 || false) = true) → (n1 = sumN (fun k => isClosedM (sK M) p1 s1 (nI k)) (ix a1) (k - ix a1)) → ∀ (H : Heap) (locs : List Loc), va_P D vwCl (wM a cI cZ (minMs M p1 s1 a1 b1)) H → va_D (xA (wM a cI cZ M)) (wM a cI cZ (minMs M p1 s1 a1 b1)) → va_S (xA (wM a cI cZ M)) s.heap H locs → ∀ ls : Array Slot, lv_has ls 7 [(0, .ref (a 0)), (1, .int (p1)), (2, .int (s1)), (4, .int (b1)), (5, .int (nI n1)), (6, .int (nI k))] → W p l e (xrm 2 48) s m args below meth cd H locs 0 0 (MQ below (xQw (some (.int (minMr M p1 s1 a1 b1))) D (wM a cI cZ M) (wM a cI cZ (minMs M p1 s1 a1 b1))) args s 0 0 (xA (wM a cI cZ M))) (F0 m 71 ls []) := by
    intro n
    induction n with
    | zero =>
      intro n1 k hfuel hk1 hk2 eb hb9 hz0 hv
      exact absurd hfuel (by omega)
    | succ n ih71 =>
      intro n1 k hfuel hk1 hk2 eb hb9 hz0 hv H locs hP hD hS ls hl
      refine lv_iload hx hb dX4_minutes_71 (lv_at hl 5 rfl) ?_
      refine lv_iload hx hb dX4_minutes_73 (lv_at hl 3 rfl) ?_
      refine xtop (y := nI (ix b1)) eb ?_
      refine lv_icmp_ge (tgt := 105) hx hb dX4_minutes_75 (by decide) (fun h_75 => ?_) (fun h_75 => ?_)
      · skip
        have h_75 : (nI (ix b1) : Int32) ≤ (nI k : Int32) := h_75
        have h_75 : (ix b1) ≤ k := (nI_leI (by omega) (by omega)).mp h_75
        refine lv_iload hx hb dX4_minutes_105 (lv_at hl 4 rfl) ?_
        exact xw_iret (v := nI n1) hx hb hr hlocks hS hP (by rw [minMr, if_neg hz0, show ix b1 - ix a1 = k - ix a1 by omega, ← hv]) dX4_minutes_107
      · skip
        have h_75 : ¬ ((nI (ix b1) : Int32) ≤ (nI k : Int32)) := h_75
        have h_75 : ¬ ((ix b1) ≤ k) := fun z => h_75 ((nI_leI (by omega) (by omega)).mpr z)
        refine lv_iload hx hb dX4_minutes_78 (lv_at hl 4 rfl) ?_
        refine lv_aload_n hx hb dX4_minutes_80 rfl (lv_at hl 0 rfl) ?_
        refine lv_iload_n hx hb dX4_minutes_81 rfl (lv_at hl 1 rfl) ?_
        refine lv_iload_n hx hb dX4_minutes_82 rfl (lv_at hl 2 rfl) ?_
        refine lv_iload hx hb dX4_minutes_83 (lv_at hl 5 rfl) ?_
        refine xrV (As := [.int (p1), .int (s1), .int (nI k)]) (rest := [.int (nI n1)]) hx hb hml hown ht hN kV_X4_75 (r_X4_isClosed l D a cI cZ (minMs M p1 s1 a1 b1) hO p1 s1 (nI k)) ⟨by decide, by decide⟩ hP hK rfl rfl rfl rfl hl.1 rfl (Nat.le_of_ble_eq_true rfl) dX4_minutes_85 ⟨Nat.zero_le _, Nat.zero_le _⟩ ?_
        refine lv_if_eq (tgt := 95) hx hb dX4_minutes_88 (by decide) (fun h_88 => ?_) (fun h_88 => ?_)
        · skip
          have h_88 : (bI (isClosedM (sK M) p1 s1 (nI k)) : Int32) = (0 : Int32) := h_88
          refine lv_iconst (v := nI 0) hx hb dX4_minutes_95 (by decide) ?_
          refine lv_iadd hx hb dX4_minutes_96 ?_
          refine xtop (y := nI (n1 + 0)) (nI_add _ _) ?_
          refine lv_istore (lv' := [(5, .int (nI (n1 + 0))), (0, .ref (a 0)), (1, .int (p1)), (2, .int (s1)), (4, .int (b1)), (6, .int (nI k))]) hx hb dX4_minutes_97 hl (by decide) rfl (fun ls hl => ?_)
          refine lv_iinc (v := nI (k + 1)) (lv' := [(6, .int (nI (k + 1))), (5, .int (nI (n1 + 0))), (0, .ref (a 0)), (1, .int (p1)), (2, .int (s1)), (4, .int (b1))]) hx hb dX4_minutes_99 hl (k := 5) rfl (nI_1 _) (by decide) rfl (fun ls hl => ?_)
          refine lv_goto (tgt := 71) hx hb dX4_minutes_102 (by decide) ?_
          exact ih71 (n1 + 0) (k + 1) (by omega) (by omega) (by omega) eb hb9 hz0 (by rw [show k + 1 - ix a1 = (k - ix a1) + 1 by omega, sumN, ← hv, show ix a1 + (k - ix a1) = k by omega]; first | (rw [if_pos (bI_t h_88)]; done) | (rw [if_neg (by rw [bI_f h_88]; decide)]; done)) _ _ hP hD hS ls (lv_sub hl [2, 3, 4, 5, 1, 0] rfl)
        · skip
          have h_88 : ¬ ((bI (isClosedM (sK M) p1 s1 (nI k)) : Int32) = (0 : Int32)) := h_88
          refine lv_iconst (v := nI 1) hx hb dX4_minutes_91 (by decide) ?_
          refine lv_goto (tgt := 96) hx hb dX4_minutes_92 (by decide) ?_
          refine lv_iadd hx hb dX4_minutes_96 ?_
          refine xtop (y := nI (n1 + 1)) (nI_add _ _) ?_
          refine lv_istore (lv' := [(5, .int (nI (n1 + 1))), (0, .ref (a 0)), (1, .int (p1)), (2, .int (s1)), (4, .int (b1)), (6, .int (nI k))]) hx hb dX4_minutes_97 hl (by decide) rfl (fun ls hl => ?_)
          refine lv_iinc (v := nI (k + 1)) (lv' := [(6, .int (nI (k + 1))), (5, .int (nI (n1 + 1))), (0, .ref (a 0)), (1, .int (p1)), (2, .int (s1)), (4, .int (b1))]) hx hb dX4_minutes_99 hl (k := 5) rfl (nI_1 _) (by decide) rfl (fun ls hl => ?_)
          refine lv_goto (tgt := 71) hx hb dX4_minutes_102 (by decide) ?_
          exact ih71 (n1 + 1) (k + 1) (by omega) (by omega) (by omega) eb hb9 hz0 (by rw [show k + 1 - ix a1 = (k - ix a1) + 1 by omega, sumN, ← hv, show ix a1 + (k - ix a1) = k by omega]; first | (rw [if_pos (bI_t h_88)]; done) | (rw [if_neg (by rw [bI_f h_88]; decide)]; done)) _ _ hP hD hS ls (lv_sub hl [2, 3, 4, 5, 1, 0] rfl)
  have J56 : ∀ (H : Heap) (locs : List Loc), va_P D vwCl (wM a cI cZ M) H → va_D (xA (wM a cI cZ M)) (wM a cI cZ M) → va_S (xA (wM a cI cZ M)) s.heap H locs → ∀ ls : Array Slot, lv_has ls 7 [(0, .ref (a 0)), (1, .int (p1)), (2, .int (s1)), (3, .int (a1)), (4, .int (b1))] → W p l e (xrm 2 48) s m args below meth cd H locs 0 0 (MQ below (xQw (some (.int (minMr M p1 s1 a1 b1))) D (wM a cI cZ M) (wM a cI cZ (minMs M p1 s1 a1 b1))) args s 0 0 (xA (wM a cI cZ M))) (F0 m 56 ls [.int (bI (bMi s1 a1 b1)), .int (bI (bPc p1)), .ref (a 0)]) := by
    intro H locs hP hD hS ls hl
    refine lv_iconst (v := nI 0) hx hb dX4_minutes_56 (by decide) ?_
    refine xwV (As := [.int (bI (bPc p1)), .int (bI (bMi s1 a1 b1)), .int (nI 0)]) (rest := []) (wr := []) (ws2 := (wM a cI cZ (minMs M p1 s1 a1 b1))) hx hb hml hown ht hN kV_X4_94 (r_X4_throwing l D a cI cZ M (bPc p1) (bMi s1 a1 b1) (false)) ⟨by decide, by decide⟩ hP hD hS hK [0, 1, 2, 3, 4, 5, 6, 7, 8, 9, 10, 11, 12, 13, 14] [] [0, 1, 2, 3, 4, 5, 6, 7, 8, 9, 10, 11, 12, 13, 14] rfl rfl (by decide) (by decide) (by decide) rfl rfl (by decide) rfl rfl rfl rfl hl.1 rfl (Nat.le_of_ble_eq_true rfl) dX4_minutes_57 ⟨Nat.zero_le _, Nat.zero_le _⟩ (fun H locs hP hD hS => ?_)
    refine lv_if_eq (tgt := 65) hx hb dX4_minutes_60 (by decide) (fun h_60 => ?_) (fun h_60 => ?_)
    · skip
      have h_60 : (bI (bPc p1 || bMi s1 a1 b1 || false) : Int32) = (0 : Int32) := h_60
      have hf := orF (bI_f h_60)
      have hg := hf.2
      unfold bMi at hg
      rw [Bool.or_eq_false_iff, Bool.or_eq_false_iff, Bool.or_eq_false_iff, Bool.or_eq_false_iff] at hg
      obtain ⟨-, g1, g2, g3, -⟩ := hg
      obtain ⟨ea, -, ha9⟩ := ix_in (by decide) (by decide) (notF g1)
      obtain ⟨eb, -, hb9⟩ := ix_in (by decide) (by decide) (notF g2)
      have hab : ix a1 ≤ ix b1 := Nat.le_of_not_lt (fun w => of_decide_eq_false g3 (by rw [ea, eb]; exact nI_lt w (by omega)))
      have hz0 : ¬ (bPc p1 || bMi s1 a1 b1 || false) = true := by rw [bI_f h_60]; decide
      refine lv_iconst (v := nI 0) hx hb dX4_minutes_65 (by decide) ?_
      refine lv_istore (lv' := [(5, .int (nI 0)), (0, .ref (a 0)), (1, .int (p1)), (2, .int (s1)), (3, .int (a1)), (4, .int (b1))]) hx hb dX4_minutes_66 hl (by decide) rfl (fun ls hl => ?_)
      refine lv_iload_n hx hb dX4_minutes_68 rfl (lv_at hl 4 rfl) ?_
      refine xtop (y := nI (ix a1)) ea ?_
      refine lv_istore (lv' := [(6, .int (nI (ix a1))), (5, .int (nI 0)), (0, .ref (a 0)), (1, .int (p1)), (2, .int (s1)), (3, .int (a1)), (4, .int (b1))]) hx hb dX4_minutes_69 hl (by decide) rfl (fun ls hl => ?_)
      exact L71 (ix b1 + 1) 0 (ix a1) (by omega) (by omega) hab eb hb9 hz0 (by rw [Nat.sub_self]; rfl) _ _ hP hD hS ls (lv_sub hl [2, 3, 4, 6, 1, 0] rfl)
    · skip
      have h_60 : ¬ ((bI (bPc p1 || bMi s1 a1 b1 || false) : Int32) = (0 : Int32)) := h_60
      refine lv_iconst (v := nI 0) hx hb dX4_minutes_63 (by decide) ?_
      exact xw_iret (v := nI 0) hx hb hr hlocks hS hP (by rw [minMr, if_pos (bI_t h_60)]) dX4_minutes_64
  have J13 : ∀ (H : Heap) (locs : List Loc), va_P D vwCl (wM a cI cZ M) H → va_D (xA (wM a cI cZ M)) (wM a cI cZ M) → va_S (xA (wM a cI cZ M)) s.heap H locs → ∀ ls : Array Slot, lv_has ls 7 [(0, .ref (a 0)), (1, .int (p1)), (2, .int (s1)), (3, .int (a1)), (4, .int (b1))] → W p l e (xrm 2 48) s m args below meth cd H locs 0 0 (MQ below (xQw (some (.int (minMr M p1 s1 a1 b1))) D (wM a cI cZ M) (wM a cI cZ (minMs M p1 s1 a1 b1))) args s 0 0 (xA (wM a cI cZ M))) (F0 m 13 ls [.int (bI (bPc p1)), .ref (a 0)]) := by
    intro H locs hP hD hS ls hl
    refine lv_iload_n hx hb dX4_minutes_13 rfl (lv_at hl 2 rfl) ?_
    refine xrS (As := [.int (s1)]) (rest := [.int (bI (bPc p1)), .ref (a 0)]) hx hb hml hown ht hN kS_X4_104 (r_X4_isSide l D s1) ⟨by decide, by decide⟩ (fun k q h => by simp at h) (hK.sub (tys' := []) [] rfl) rfl hl.1 rfl (Nat.le_of_ble_eq_true rfl) dX4_minutes_14 ⟨Nat.zero_le _, Nat.zero_le _⟩ ?_
    refine lv_if_eq (tgt := 51) hx hb dX4_minutes_17 (by decide) (fun h_17 => ?_) (fun h_17 => ?_)
    · skip
      have h_17 : (bI (inI s1 (nI 1) (nI 2)) : Int32) = (0 : Int32) := h_17
      refine lv_iconst (v := nI 1) hx hb dX4_minutes_51 (by decide) ?_
      refine lv_goto (tgt := 56) hx hb dX4_minutes_52 (by decide) ?_
      refine xtop (y := bI (bMi s1 a1 b1)) (bI_1 (by unfold bMi; first | (rw [bI_f h_17]; rfl) | (rw [bI_f h_24, Bool.not_false, Bool.true_or, Bool.or_true]) | (rw [bI_f h_32, Bool.not_false, Bool.true_or, Bool.or_true, Bool.or_true]) | (rw [decide_eq_true h_38, Bool.true_or, Bool.or_true, Bool.or_true, Bool.or_true]) | (rw [decide_eq_false h_48, Bool.not_false, Bool.or_true, Bool.or_true, Bool.or_true, Bool.or_true]))) ?_
      exact J56 _ _ hP hD hS ls (lv_sub hl [0, 1, 2, 3, 4] rfl)
    · skip
      have h_17 : ¬ ((bI (inI s1 (nI 1) (nI 2)) : Int32) = (0 : Int32)) := h_17
      refine lv_iload_n hx hb dX4_minutes_20 rfl (lv_at hl 3 rfl) ?_
      refine xrS (As := [.int (a1)]) (rest := [.int (bI (bPc p1)), .ref (a 0)]) hx hb hml hown ht hN kS_X4_88 (r_X4_isMinute l D a1) ⟨by decide, by decide⟩ (fun k q h => by simp at h) (hK.sub (tys' := []) [] rfl) rfl hl.1 rfl (Nat.le_of_ble_eq_true rfl) dX4_minutes_21 ⟨Nat.zero_le _, Nat.zero_le _⟩ ?_
      refine lv_if_eq (tgt := 51) hx hb dX4_minutes_24 (by decide) (fun h_24 => ?_) (fun h_24 => ?_)
      · skip
        have h_24 : (bI (inI a1 (nI 0) (nI 99999)) : Int32) = (0 : Int32) := h_24
        refine lv_iconst (v := nI 1) hx hb dX4_minutes_51 (by decide) ?_
        refine lv_goto (tgt := 56) hx hb dX4_minutes_52 (by decide) ?_
        refine xtop (y := bI (bMi s1 a1 b1)) (bI_1 (by unfold bMi; first | (rw [bI_f h_17]; rfl) | (rw [bI_f h_24, Bool.not_false, Bool.true_or, Bool.or_true]) | (rw [bI_f h_32, Bool.not_false, Bool.true_or, Bool.or_true, Bool.or_true]) | (rw [decide_eq_true h_38, Bool.true_or, Bool.or_true, Bool.or_true, Bool.or_true]) | (rw [decide_eq_false h_48, Bool.not_false, Bool.or_true, Bool.or_true, Bool.or_true, Bool.or_true]))) ?_
        exact J56 _ _ hP hD hS ls (lv_sub hl [0, 1, 2, 3, 4] rfl)
      · skip
        have h_24 : ¬ ((bI (inI a1 (nI 0) (nI 99999)) : Int32) = (0 : Int32)) := h_24
        refine lv_iload hx hb dX4_minutes_27 (lv_at hl 4 rfl) ?_
        refine xrS (As := [.int (b1)]) (rest := [.int (bI (bPc p1)), .ref (a 0)]) hx hb hml hown ht hN kS_X4_88 (r_X4_isMinute l D b1) ⟨by decide, by decide⟩ (fun k q h => by simp at h) (hK.sub (tys' := []) [] rfl) rfl hl.1 rfl (Nat.le_of_ble_eq_true rfl) dX4_minutes_29 ⟨Nat.zero_le _, Nat.zero_le _⟩ ?_
        refine lv_if_eq (tgt := 51) hx hb dX4_minutes_32 (by decide) (fun h_32 => ?_) (fun h_32 => ?_)
        · skip
          have h_32 : (bI (inI b1 (nI 0) (nI 99999)) : Int32) = (0 : Int32) := h_32
          refine lv_iconst (v := nI 1) hx hb dX4_minutes_51 (by decide) ?_
          refine lv_goto (tgt := 56) hx hb dX4_minutes_52 (by decide) ?_
          refine xtop (y := bI (bMi s1 a1 b1)) (bI_1 (by unfold bMi; first | (rw [bI_f h_17]; rfl) | (rw [bI_f h_24, Bool.not_false, Bool.true_or, Bool.or_true]) | (rw [bI_f h_32, Bool.not_false, Bool.true_or, Bool.or_true, Bool.or_true]) | (rw [decide_eq_true h_38, Bool.true_or, Bool.or_true, Bool.or_true, Bool.or_true]) | (rw [decide_eq_false h_48, Bool.not_false, Bool.or_true, Bool.or_true, Bool.or_true, Bool.or_true]))) ?_
          exact J56 _ _ hP hD hS ls (lv_sub hl [0, 1, 2, 3, 4] rfl)
        · skip
          have h_32 : ¬ ((bI (inI b1 (nI 0) (nI 99999)) : Int32) = (0 : Int32)) := h_32
          refine lv_iload hx hb dX4_minutes_35 (lv_at hl 4 rfl) ?_
          refine lv_iload_n hx hb dX4_minutes_37 rfl (lv_at hl 3 rfl) ?_
          refine lv_icmp_lt (tgt := 51) hx hb dX4_minutes_38 (by decide) (fun h_38 => ?_) (fun h_38 => ?_)
          · skip
            have h_38 : (b1 : Int32) < (a1 : Int32) := h_38
            refine lv_iconst (v := nI 1) hx hb dX4_minutes_51 (by decide) ?_
            refine lv_goto (tgt := 56) hx hb dX4_minutes_52 (by decide) ?_
            refine xtop (y := bI (bMi s1 a1 b1)) (bI_1 (by unfold bMi; first | (rw [bI_f h_17]; rfl) | (rw [bI_f h_24, Bool.not_false, Bool.true_or, Bool.or_true]) | (rw [bI_f h_32, Bool.not_false, Bool.true_or, Bool.or_true, Bool.or_true]) | (rw [decide_eq_true h_38, Bool.true_or, Bool.or_true, Bool.or_true, Bool.or_true]) | (rw [decide_eq_false h_48, Bool.not_false, Bool.or_true, Bool.or_true, Bool.or_true, Bool.or_true]))) ?_
            exact J56 _ _ hP hD hS ls (lv_sub hl [0, 1, 2, 3, 4] rfl)
          · skip
            have h_38 : ¬ ((b1 : Int32) < (a1 : Int32)) := h_38
            refine lv_iload hx hb dX4_minutes_41 (lv_at hl 4 rfl) ?_
            refine lv_iload_n hx hb dX4_minutes_43 rfl (lv_at hl 3 rfl) ?_
            refine lv_isub hx hb dX4_minutes_44 ?_
            refine lv_sipush (v := nI 2000) hx hb dX4_minutes_45 (by decide) ?_
            refine lv_icmp_le (tgt := 55) hx hb dX4_minutes_48 (by decide) (fun h_48 => ?_) (fun h_48 => ?_)
            · skip
              have h_48 : ((b1) - (a1) : Int32) ≤ (nI 2000 : Int32) := h_48
              refine lv_iconst (v := nI 0) hx hb dX4_minutes_55 (by decide) ?_
              refine xtop (y := bI (bMi s1 a1 b1)) (bI_0 (by unfold bMi; rw [bI_t h_17, bI_t h_24, bI_t h_32, decide_eq_false h_38, decide_eq_true h_48]; rfl)) ?_
              exact J56 _ _ hP hD hS ls (lv_sub hl [0, 1, 2, 3, 4] rfl)
            · skip
              have h_48 : ¬ (((b1) - (a1) : Int32) ≤ (nI 2000 : Int32)) := h_48
              refine lv_iconst (v := nI 1) hx hb dX4_minutes_51 (by decide) ?_
              refine lv_goto (tgt := 56) hx hb dX4_minutes_52 (by decide) ?_
              refine xtop (y := bI (bMi s1 a1 b1)) (bI_1 (by unfold bMi; first | (rw [bI_f h_17]; rfl) | (rw [bI_f h_24, Bool.not_false, Bool.true_or, Bool.or_true]) | (rw [bI_f h_32, Bool.not_false, Bool.true_or, Bool.or_true, Bool.or_true]) | (rw [decide_eq_true h_38, Bool.true_or, Bool.or_true, Bool.or_true, Bool.or_true]) | (rw [decide_eq_false h_48, Bool.not_false, Bool.or_true, Bool.or_true, Bool.or_true, Bool.or_true]))) ?_
              exact J56 _ _ hP hD hS ls (lv_sub hl [0, 1, 2, 3, 4] rfl)
  refine lv_aload_n hx hb dX4_minutes_0 rfl (lv_at hl 0 rfl) ?_
  refine lv_iload_n hx hb dX4_minutes_1 rfl (lv_at hl 1 rfl) ?_
  refine xrS (As := [.int (p1)]) (rest := [.ref (a 0)]) hx hb hml hown ht hN kS_X4_84 (r_X4_isPiece l D p1) ⟨by decide, by decide⟩ (fun k q h => by simp at h) (hK.sub (tys' := []) [] rfl) rfl hl.1 rfl (Nat.le_of_ble_eq_true rfl) dX4_minutes_2 ⟨Nat.zero_le _, Nat.zero_le _⟩ ?_
  refine lv_if_ne (tgt := 12) hx hb dX4_minutes_5 (by decide) (fun h_5 => ?_) (fun h_5 => ?_)
  · skip
    have h_5 : ¬ ((bI (inI p1 (nI 0) (nI 59)) : Int32) = (0 : Int32)) := h_5
    refine lv_iconst (v := nI 0) hx hb dX4_minutes_12 (by decide) ?_
    refine xtop (y := bI (bPc p1)) (bI_0 (by unfold bPc; rw [bI_t h_5]; rfl)) ?_
    exact J13 _ _ hP hD hS ls (lv_sub hl [0, 1, 2, 3, 4] rfl)
  · skip
    have h_5 : (bI (inI p1 (nI 0) (nI 59)) : Int32) = (0 : Int32) := h_5
    refine lv_iconst (v := nI 1) hx hb dX4_minutes_8 (by decide) ?_
    refine lv_goto (tgt := 13) hx hb dX4_minutes_9 (by decide) ?_
    refine xtop (y := bI (bPc p1)) (bI_1 (by unfold bPc; rw [bI_f h_5]; rfl)) ?_
    exact J13 _ _ hP hD hS ls (lv_sub hl [0, 1, 2, 3, 4] rfl)
set_option maxHeartbeats 4000000 in
set_option maxRecDepth 100000 in
theorem r_X4_speed (l : Launch) (D : va_G) (a : Nat → Nat) (cI cZ : ClassId) (M : MS) (hO : mOk (sK M)) (p1 s1 t : Int32) : xWR l yX4_speed cX4_speed 7 (some .int) (xrm 2 42) [.ref (a 0), .int (p1), .int (s1), .int (t)] D (wM a cI cZ M) (tyL cI cZ) (some (.int (speedMr M p1 s1 t))) (wM a cI cZ (closedMs M p1 s1 t)) := by
  refine xWR.of (by decide +kernel) (Nat.le_of_ble_eq_true rfl) ?_
  intro p e s m args below meth cd hx hb hr hml hown hlocks ht hN hP hK hD hS ls hl
  have hl : lv_has ls 7 [(0, .ref (a 0)), (1, .int (p1)), (2, .int (s1)), (3, .int (t))] := hl
  have hown : s.vm.findClass RX4 = some m.cls := hown
  have hn := hO.1
  have L48 : ∀ (n : Nat) (v : Int32) (c : Nat), (mN (sK M) < c + n) → (c ≤ mN (sK M)) → (¬ (bPc p1 || bSt s1 t || false) = true) → (v = minN (fun c => decide (mKd (sK M) c = nI 5) && (isOnM (sK M) c p1 s1 && holdsM (sK M) c t)) (mNu (sK M)) c) → ∀ (H : Heap) (locs : List Loc), va_P D vwCl (wM a cI cZ (closedMs M p1 s1 t)) H → va_D (xA (wM a cI cZ M)) (wM a cI cZ (closedMs M p1 s1 t)) → va_S (xA (wM a cI cZ M)) s.heap H locs → ∀ ls : Array Slot, lv_has ls 7 [(0, .ref (a 0)), (1, .int (p1)), (2, .int (s1)), (3, .int (t)), (4, .int (v)), (5, .int (nI c))] → W p l e (xrm 2 42) s m args below meth cd H locs 0 0 (MQ below (xQw (some (.int (speedMr M p1 s1 t))) D (wM a cI cZ M) (wM a cI cZ (closedMs M p1 s1 t))) args s 0 0 (xA (wM a cI cZ M))) (F0 m 48 ls []) := by
    intro n
    induction n with
    | zero =>
      intro v c hfuel hi hz0 hv
      exact absurd hfuel (by omega)
    | succ n ih48 =>
      intro v c hfuel hi hz0 hv H locs hP hD hS ls hl
      refine lv_iload hx hb dX4_speed_48 (lv_at hl 5 rfl) ?_
      refine lv_aload_n hx hb dX4_speed_50 rfl (lv_at hl 0 rfl) ?_
      refine va_get (D := D) (ci := 4) (v := .int (nI (mN (sK M)))) (C := RX4) (T := TX4) (N := 18) hx hb ht inX4 hown hK hP 0 rfl rfl 2 (by decide) (ht _ wd574) (fun _ h9 => h9) rfl dX4_speed_51 ?_
      refine lv_icmp_ge (tgt := 133) hx hb dX4_speed_54 (by decide) (fun h_54 => ?_) (fun h_54 => ?_)
      · skip
        have h_54 : (nI (mN (sK M)) : Int32) ≤ (nI c : Int32) := h_54
        have h_54 : (mN (sK M)) ≤ c := (nI_leI (by omega) (by omega)).mp h_54
        refine lv_iload hx hb dX4_speed_133 (lv_at hl 4 rfl) ?_
        exact xw_iret (v := v) hx hb hr hlocks hS hP (by rw [speedMr, if_neg hz0, percM, show mN (sK M) = c by omega, ← hv]) dX4_speed_135
      · skip
        have h_54 : ¬ ((nI (mN (sK M)) : Int32) ≤ (nI c : Int32)) := h_54
        have h_54 : ¬ ((mN (sK M)) ≤ c) := fun z => h_54 ((nI_leI (by omega) (by omega)).mpr z)
        refine lv_aload_n hx hb dX4_speed_57 rfl (lv_at hl 0 rfl) ?_
        refine va_get (D := D) (ci := 4) (v := .ref (a 1)) (C := RX4) (T := TX4) (N := 18) hx hb ht inX4 hown hK hP 0 rfl rfl 3 (by decide) (ht _ wd575) (fun _ h9 => h9) rfl dX4_speed_58 ?_
        refine lv_iload hx hb dX4_speed_61 (lv_at hl 5 rfl) ?_
        refine xa_iald hx hb hK hP 1 0 (i := c) rfl rfl (by show c < 100; omega) (by decide) dX4_speed_63 ?_
        refine lv_iconst (v := nI 5) hx hb dX4_speed_64 (by decide) ?_
        refine lv_icmp_ne (tgt := 93) hx hb dX4_speed_65 (by decide) (fun h_65 => ?_) (fun h_65 => ?_)
        · skip
          have h_65 : ¬ (((mKd (sK M)) c : Int32) = (nI 5 : Int32)) := h_65
          refine lv_iconst (v := nI 0) hx hb dX4_speed_93 (by decide) ?_
          refine lv_istore (lv' := [(6, .int (nI 0)), (0, .ref (a 0)), (1, .int (p1)), (2, .int (s1)), (3, .int (t)), (4, .int (v)), (5, .int (nI c))]) hx hb dX4_speed_94 hl (by decide) rfl (fun ls hl => ?_)
          refine lv_iload hx hb dX4_speed_96 (lv_at hl 0 rfl) ?_
          refine lv_if_eq (tgt := 123) hx hb dX4_speed_98 (by decide) (fun h_98 => ?_) (fun h_98 => ?_)
          · skip
            have h_98 : (nI 0 : Int32) = (0 : Int32) := h_98
            refine lv_iload hx hb dX4_speed_123 (lv_at hl 5 rfl) ?_
            refine lv_istore (lv' := [(4, .int (v)), (6, .int (nI 0)), (0, .ref (a 0)), (1, .int (p1)), (2, .int (s1)), (3, .int (t)), (5, .int (nI c))]) hx hb dX4_speed_125 hl (by decide) rfl (fun ls hl => ?_)
            refine lv_iinc (v := nI (c + 1)) (lv' := [(5, .int (nI (c + 1))), (4, .int (v)), (6, .int (nI 0)), (0, .ref (a 0)), (1, .int (p1)), (2, .int (s1)), (3, .int (t))]) hx hb dX4_speed_127 hl (k := 6) rfl (nI_1 _) (by decide) rfl (fun ls hl => ?_)
            refine lv_goto (tgt := 48) hx hb dX4_speed_130 (by decide) ?_
            exact ih48 _ (c + 1) (by omega) (by omega) hz0 (by rw [minN, ← hv]; first | (rw [decide_eq_false h_65]; rfl) | (rw [bI_f h_76, Bool.false_and, Bool.and_false]; rfl) | (rw [bI_f h_86, Bool.and_false, Bool.and_false]; rfl) | (rw [decide_eq_true h_65, bI_t h_76, bI_t h_86, if_pos (show (true && (true && true)) = true from rfl), if_neg (Int32.not_lt.mpr h_110)]) | (rw [decide_eq_true h_65, bI_t h_76, bI_t h_86, if_pos (show (true && (true && true)) = true from rfl), if_pos (Int32.not_le.mp h_110)])) _ _ hP hD hS ls (lv_sub hl [3, 4, 5, 6, 1, 0] rfl)
          · skip
            have h_98 : ¬ ((nI 0 : Int32) = (0 : Int32)) := h_98
            exact absurd h_98 (by decide)
        · skip
          have h_65 : ((mKd (sK M)) c : Int32) = (nI 5 : Int32) := h_65
          refine lv_aload_n hx hb dX4_speed_68 rfl (lv_at hl 0 rfl) ?_
          refine lv_iload hx hb dX4_speed_69 (lv_at hl 5 rfl) ?_
          refine lv_iload_n hx hb dX4_speed_71 rfl (lv_at hl 1 rfl) ?_
          refine lv_iload_n hx hb dX4_speed_72 rfl (lv_at hl 2 rfl) ?_
          refine xrV (As := [.int (nI c), .int (p1), .int (s1)]) (rest := []) hx hb hml hown ht hN kV_X4_65 (r_X4_isOn l D a cI cZ (closedMs M p1 s1 t) hO c (by show c < mN (sK M); omega) p1 s1) ⟨by decide, by decide⟩ hP hK rfl rfl rfl rfl hl.1 rfl (Nat.le_of_ble_eq_true rfl) dX4_speed_73 ⟨Nat.zero_le _, Nat.zero_le _⟩ ?_
          refine lv_if_eq (tgt := 93) hx hb dX4_speed_76 (by decide) (fun h_76 => ?_) (fun h_76 => ?_)
          · skip
            have h_76 : (bI (isOnM (sK M) c p1 s1) : Int32) = (0 : Int32) := h_76
            refine lv_iconst (v := nI 0) hx hb dX4_speed_93 (by decide) ?_
            refine lv_istore (lv' := [(6, .int (nI 0)), (0, .ref (a 0)), (1, .int (p1)), (2, .int (s1)), (3, .int (t)), (4, .int (v)), (5, .int (nI c))]) hx hb dX4_speed_94 hl (by decide) rfl (fun ls hl => ?_)
            refine lv_iload hx hb dX4_speed_96 (lv_at hl 0 rfl) ?_
            refine lv_if_eq (tgt := 123) hx hb dX4_speed_98 (by decide) (fun h_98 => ?_) (fun h_98 => ?_)
            · skip
              have h_98 : (nI 0 : Int32) = (0 : Int32) := h_98
              refine lv_iload hx hb dX4_speed_123 (lv_at hl 5 rfl) ?_
              refine lv_istore (lv' := [(4, .int (v)), (6, .int (nI 0)), (0, .ref (a 0)), (1, .int (p1)), (2, .int (s1)), (3, .int (t)), (5, .int (nI c))]) hx hb dX4_speed_125 hl (by decide) rfl (fun ls hl => ?_)
              refine lv_iinc (v := nI (c + 1)) (lv' := [(5, .int (nI (c + 1))), (4, .int (v)), (6, .int (nI 0)), (0, .ref (a 0)), (1, .int (p1)), (2, .int (s1)), (3, .int (t))]) hx hb dX4_speed_127 hl (k := 6) rfl (nI_1 _) (by decide) rfl (fun ls hl => ?_)
              refine lv_goto (tgt := 48) hx hb dX4_speed_130 (by decide) ?_
              exact ih48 _ (c + 1) (by omega) (by omega) hz0 (by rw [minN, ← hv]; first | (rw [decide_eq_false h_65]; rfl) | (rw [bI_f h_76, Bool.false_and, Bool.and_false]; rfl) | (rw [bI_f h_86, Bool.and_false, Bool.and_false]; rfl) | (rw [decide_eq_true h_65, bI_t h_76, bI_t h_86, if_pos (show (true && (true && true)) = true from rfl), if_neg (Int32.not_lt.mpr h_110)]) | (rw [decide_eq_true h_65, bI_t h_76, bI_t h_86, if_pos (show (true && (true && true)) = true from rfl), if_pos (Int32.not_le.mp h_110)])) _ _ hP hD hS ls (lv_sub hl [3, 4, 5, 6, 1, 0] rfl)
            · skip
              have h_98 : ¬ ((nI 0 : Int32) = (0 : Int32)) := h_98
              exact absurd h_98 (by decide)
          · skip
            have h_76 : ¬ ((bI (isOnM (sK M) c p1 s1) : Int32) = (0 : Int32)) := h_76
            refine lv_aload_n hx hb dX4_speed_79 rfl (lv_at hl 0 rfl) ?_
            refine lv_iload hx hb dX4_speed_80 (lv_at hl 5 rfl) ?_
            refine lv_iload_n hx hb dX4_speed_82 rfl (lv_at hl 3 rfl) ?_
            refine xrV (As := [.int (nI c), .int (t)]) (rest := []) hx hb hml hown ht hN kV_X4_68 (r_X4_holds l D a cI cZ (closedMs M p1 s1 t) hO c (by show c < mN (sK M); omega) t) ⟨by decide, by decide⟩ hP hK rfl rfl rfl rfl hl.1 rfl (Nat.le_of_ble_eq_true rfl) dX4_speed_83 ⟨Nat.zero_le _, Nat.zero_le _⟩ ?_
            refine lv_if_eq (tgt := 93) hx hb dX4_speed_86 (by decide) (fun h_86 => ?_) (fun h_86 => ?_)
            · skip
              have h_86 : (bI (holdsM (sK M) c t) : Int32) = (0 : Int32) := h_86
              refine lv_iconst (v := nI 0) hx hb dX4_speed_93 (by decide) ?_
              refine lv_istore (lv' := [(6, .int (nI 0)), (0, .ref (a 0)), (1, .int (p1)), (2, .int (s1)), (3, .int (t)), (4, .int (v)), (5, .int (nI c))]) hx hb dX4_speed_94 hl (by decide) rfl (fun ls hl => ?_)
              refine lv_iload hx hb dX4_speed_96 (lv_at hl 0 rfl) ?_
              refine lv_if_eq (tgt := 123) hx hb dX4_speed_98 (by decide) (fun h_98 => ?_) (fun h_98 => ?_)
              · skip
                have h_98 : (nI 0 : Int32) = (0 : Int32) := h_98
                refine lv_iload hx hb dX4_speed_123 (lv_at hl 5 rfl) ?_
                refine lv_istore (lv' := [(4, .int (v)), (6, .int (nI 0)), (0, .ref (a 0)), (1, .int (p1)), (2, .int (s1)), (3, .int (t)), (5, .int (nI c))]) hx hb dX4_speed_125 hl (by decide) rfl (fun ls hl => ?_)
                refine lv_iinc (v := nI (c + 1)) (lv' := [(5, .int (nI (c + 1))), (4, .int (v)), (6, .int (nI 0)), (0, .ref (a 0)), (1, .int (p1)), (2, .int (s1)), (3, .int (t))]) hx hb dX4_speed_127 hl (k := 6) rfl (nI_1 _) (by decide) rfl (fun ls hl => ?_)
                refine lv_goto (tgt := 48) hx hb dX4_speed_130 (by decide) ?_
                exact ih48 _ (c + 1) (by omega) (by omega) hz0 (by rw [minN, ← hv]; first | (rw [decide_eq_false h_65]; rfl) | (rw [bI_f h_76, Bool.false_and, Bool.and_false]; rfl) | (rw [bI_f h_86, Bool.and_false, Bool.and_false]; rfl) | (rw [decide_eq_true h_65, bI_t h_76, bI_t h_86, if_pos (show (true && (true && true)) = true from rfl), if_neg (Int32.not_lt.mpr h_110)]) | (rw [decide_eq_true h_65, bI_t h_76, bI_t h_86, if_pos (show (true && (true && true)) = true from rfl), if_pos (Int32.not_le.mp h_110)])) _ _ hP hD hS ls (lv_sub hl [3, 4, 5, 6, 1, 0] rfl)
              · skip
                have h_98 : ¬ ((nI 0 : Int32) = (0 : Int32)) := h_98
                exact absurd h_98 (by decide)
            · skip
              have h_86 : ¬ ((bI (holdsM (sK M) c t) : Int32) = (0 : Int32)) := h_86
              refine lv_iconst (v := nI 1) hx hb dX4_speed_89 (by decide) ?_
              refine lv_goto (tgt := 94) hx hb dX4_speed_90 (by decide) ?_
              refine lv_istore (lv' := [(6, .int (nI 1)), (0, .ref (a 0)), (1, .int (p1)), (2, .int (s1)), (3, .int (t)), (4, .int (v)), (5, .int (nI c))]) hx hb dX4_speed_94 hl (by decide) rfl (fun ls hl => ?_)
              refine lv_iload hx hb dX4_speed_96 (lv_at hl 0 rfl) ?_
              refine lv_if_eq (tgt := 123) hx hb dX4_speed_98 (by decide) (fun h_98 => ?_) (fun h_98 => ?_)
              · skip
                have h_98 : (nI 1 : Int32) = (0 : Int32) := h_98
                exact absurd h_98 (by decide)
              · skip
                have h_98 : ¬ ((nI 1 : Int32) = (0 : Int32)) := h_98
                refine lv_aload_n hx hb dX4_speed_101 rfl (lv_at hl 1 rfl) ?_
                refine va_get (D := D) (ci := 4) (v := .ref (a 6)) (C := RX4) (T := TX4) (N := 18) hx hb ht inX4 hown hK hP 0 rfl rfl 8 (by decide) (ht _ wd580) (fun _ h9 => h9) rfl dX4_speed_102 ?_
                refine lv_iload hx hb dX4_speed_105 (lv_at hl 6 rfl) ?_
                refine xa_iald hx hb hK hP 6 0 (i := c) rfl rfl (by show c < 100; omega) (by decide) dX4_speed_107 ?_
                refine lv_iload hx hb dX4_speed_108 (lv_at hl 5 rfl) ?_
                refine lv_icmp_ge (tgt := 123) hx hb dX4_speed_110 (by decide) (fun h_110 => ?_) (fun h_110 => ?_)
                · skip
                  have h_110 : (v : Int32) ≤ ((mNu (sK M)) c : Int32) := h_110
                  refine lv_iload hx hb dX4_speed_123 (lv_at hl 5 rfl) ?_
                  refine lv_istore (lv' := [(4, .int (v)), (6, .int (nI 1)), (0, .ref (a 0)), (1, .int (p1)), (2, .int (s1)), (3, .int (t)), (5, .int (nI c))]) hx hb dX4_speed_125 hl (by decide) rfl (fun ls hl => ?_)
                  refine lv_iinc (v := nI (c + 1)) (lv' := [(5, .int (nI (c + 1))), (4, .int (v)), (6, .int (nI 1)), (0, .ref (a 0)), (1, .int (p1)), (2, .int (s1)), (3, .int (t))]) hx hb dX4_speed_127 hl (k := 6) rfl (nI_1 _) (by decide) rfl (fun ls hl => ?_)
                  refine lv_goto (tgt := 48) hx hb dX4_speed_130 (by decide) ?_
                  exact ih48 _ (c + 1) (by omega) (by omega) hz0 (by rw [minN, ← hv]; first | (rw [decide_eq_false h_65]; rfl) | (rw [bI_f h_76, Bool.false_and, Bool.and_false]; rfl) | (rw [bI_f h_86, Bool.and_false, Bool.and_false]; rfl) | (rw [decide_eq_true h_65, bI_t h_76, bI_t h_86, if_pos (show (true && (true && true)) = true from rfl), if_neg (Int32.not_lt.mpr h_110)]) | (rw [decide_eq_true h_65, bI_t h_76, bI_t h_86, if_pos (show (true && (true && true)) = true from rfl), if_pos (Int32.not_le.mp h_110)])) _ _ hP hD hS ls (lv_sub hl [3, 4, 5, 6, 1, 0] rfl)
                · skip
                  have h_110 : ¬ ((v : Int32) ≤ ((mNu (sK M)) c : Int32)) := h_110
                  refine lv_aload_n hx hb dX4_speed_113 rfl (lv_at hl 1 rfl) ?_
                  refine va_get (D := D) (ci := 4) (v := .ref (a 6)) (C := RX4) (T := TX4) (N := 18) hx hb ht inX4 hown hK hP 0 rfl rfl 8 (by decide) (ht _ wd580) (fun _ h9 => h9) rfl dX4_speed_114 ?_
                  refine lv_iload hx hb dX4_speed_117 (lv_at hl 6 rfl) ?_
                  refine xa_iald hx hb hK hP 6 0 (i := c) rfl rfl (by show c < 100; omega) (by decide) dX4_speed_119 ?_
                  refine lv_goto (tgt := 125) hx hb dX4_speed_120 (by decide) ?_
                  refine lv_istore (lv' := [(4, .int ((mNu (sK M)) c)), (6, .int (nI 1)), (0, .ref (a 0)), (1, .int (p1)), (2, .int (s1)), (3, .int (t)), (5, .int (nI c))]) hx hb dX4_speed_125 hl (by decide) rfl (fun ls hl => ?_)
                  refine lv_iinc (v := nI (c + 1)) (lv' := [(5, .int (nI (c + 1))), (4, .int ((mNu (sK M)) c)), (6, .int (nI 1)), (0, .ref (a 0)), (1, .int (p1)), (2, .int (s1)), (3, .int (t))]) hx hb dX4_speed_127 hl (k := 6) rfl (nI_1 _) (by decide) rfl (fun ls hl => ?_)
                  refine lv_goto (tgt := 48) hx hb dX4_speed_130 (by decide) ?_
                  exact ih48 _ (c + 1) (by omega) (by omega) hz0 (by rw [minN, ← hv]; first | (rw [decide_eq_false h_65]; rfl) | (rw [bI_f h_76, Bool.false_and, Bool.and_false]; rfl) | (rw [bI_f h_86, Bool.and_false, Bool.and_false]; rfl) | (rw [decide_eq_true h_65, bI_t h_76, bI_t h_86, if_pos (show (true && (true && true)) = true from rfl), if_neg (Int32.not_lt.mpr h_110)]) | (rw [decide_eq_true h_65, bI_t h_76, bI_t h_86, if_pos (show (true && (true && true)) = true from rfl), if_pos (Int32.not_le.mp h_110)])) _ _ hP hD hS ls (lv_sub hl [3, 4, 5, 6, 1, 0] rfl)
  have J32 : ∀ (H : Heap) (locs : List Loc), va_P D vwCl (wM a cI cZ M) H → va_D (xA (wM a cI cZ M)) (wM a cI cZ M) → va_S (xA (wM a cI cZ M)) s.heap H locs → ∀ ls : Array Slot, lv_has ls 7 [(0, .ref (a 0)), (1, .int (p1)), (2, .int (s1)), (3, .int (t))] → W p l e (xrm 2 42) s m args below meth cd H locs 0 0 (MQ below (xQw (some (.int (speedMr M p1 s1 t))) D (wM a cI cZ M) (wM a cI cZ (closedMs M p1 s1 t))) args s 0 0 (xA (wM a cI cZ M))) (F0 m 32 ls [.int (bI (bSt s1 t)), .int (bI (bPc p1)), .ref (a 0)]) := by
    intro H locs hP hD hS ls hl
    refine lv_iconst (v := nI 0) hx hb dX4_speed_32 (by decide) ?_
    refine xwV (As := [.int (bI (bPc p1)), .int (bI (bSt s1 t)), .int (nI 0)]) (rest := []) (wr := []) (ws2 := (wM a cI cZ (closedMs M p1 s1 t))) hx hb hml hown ht hN kV_X4_94 (r_X4_throwing l D a cI cZ M (bPc p1) (bSt s1 t) (false)) ⟨by decide, by decide⟩ hP hD hS hK [0, 1, 2, 3, 4, 5, 6, 7, 8, 9, 10, 11, 12, 13, 14] [] [0, 1, 2, 3, 4, 5, 6, 7, 8, 9, 10, 11, 12, 13, 14] rfl rfl (by decide) (by decide) (by decide) rfl rfl (by decide) rfl rfl rfl rfl hl.1 rfl (Nat.le_of_ble_eq_true rfl) dX4_speed_33 ⟨Nat.zero_le _, Nat.zero_le _⟩ (fun H locs hP hD hS => ?_)
    refine lv_if_eq (tgt := 41) hx hb dX4_speed_36 (by decide) (fun h_36 => ?_) (fun h_36 => ?_)
    · skip
      have h_36 : (bI (bPc p1 || bSt s1 t || false) : Int32) = (0 : Int32) := h_36
      have hz0 : ¬ (bPc p1 || bSt s1 t || false) = true := by rw [bI_f h_36]; decide
      refine lv_bipush (v := nI 100) hx hb dX4_speed_41 (by decide) ?_
      refine lv_istore (lv' := [(4, .int (nI 100)), (0, .ref (a 0)), (1, .int (p1)), (2, .int (s1)), (3, .int (t))]) hx hb dX4_speed_43 hl (by decide) rfl (fun ls hl => ?_)
      refine lv_iconst (v := nI 0) hx hb dX4_speed_45 (by decide) ?_
      refine lv_istore (lv' := [(5, .int (nI 0)), (4, .int (nI 100)), (0, .ref (a 0)), (1, .int (p1)), (2, .int (s1)), (3, .int (t))]) hx hb dX4_speed_46 hl (by decide) rfl (fun ls hl => ?_)
      exact L48 (mN (sK M) + 1) (nI 100) 0 (by omega) (by omega) hz0 rfl _ _ hP hD hS ls (lv_sub hl [2, 3, 4, 5, 1, 0] rfl)
    · skip
      have h_36 : ¬ ((bI (bPc p1 || bSt s1 t || false) : Int32) = (0 : Int32)) := h_36
      refine lv_iconst (v := nI 0) hx hb dX4_speed_39 (by decide) ?_
      exact xw_iret (v := nI 0) hx hb hr hlocks hS hP (by rw [speedMr, if_pos (bI_t h_36)]) dX4_speed_40
  have J13 : ∀ (H : Heap) (locs : List Loc), va_P D vwCl (wM a cI cZ M) H → va_D (xA (wM a cI cZ M)) (wM a cI cZ M) → va_S (xA (wM a cI cZ M)) s.heap H locs → ∀ ls : Array Slot, lv_has ls 7 [(0, .ref (a 0)), (1, .int (p1)), (2, .int (s1)), (3, .int (t))] → W p l e (xrm 2 42) s m args below meth cd H locs 0 0 (MQ below (xQw (some (.int (speedMr M p1 s1 t))) D (wM a cI cZ M) (wM a cI cZ (closedMs M p1 s1 t))) args s 0 0 (xA (wM a cI cZ M))) (F0 m 13 ls [.int (bI (bPc p1)), .ref (a 0)]) := by
    intro H locs hP hD hS ls hl
    refine lv_iload_n hx hb dX4_speed_13 rfl (lv_at hl 2 rfl) ?_
    refine xrS (As := [.int (s1)]) (rest := [.int (bI (bPc p1)), .ref (a 0)]) hx hb hml hown ht hN kS_X4_104 (r_X4_isSide l D s1) ⟨by decide, by decide⟩ (fun k q h => by simp at h) (hK.sub (tys' := []) [] rfl) rfl hl.1 rfl (Nat.le_of_ble_eq_true rfl) dX4_speed_14 ⟨Nat.zero_le _, Nat.zero_le _⟩ ?_
    refine lv_if_eq (tgt := 27) hx hb dX4_speed_17 (by decide) (fun h_17 => ?_) (fun h_17 => ?_)
    · skip
      have h_17 : (bI (inI s1 (nI 1) (nI 2)) : Int32) = (0 : Int32) := h_17
      refine lv_iconst (v := nI 1) hx hb dX4_speed_27 (by decide) ?_
      refine lv_goto (tgt := 32) hx hb dX4_speed_28 (by decide) ?_
      refine xtop (y := bI (bSt s1 t)) (bI_1 (by unfold bSt; first | (rw [bI_f h_17]; rfl) | (rw [bI_f h_24, Bool.not_false, Bool.or_true]))) ?_
      exact J32 _ _ hP hD hS ls (lv_sub hl [0, 1, 2, 3] rfl)
    · skip
      have h_17 : ¬ ((bI (inI s1 (nI 1) (nI 2)) : Int32) = (0 : Int32)) := h_17
      refine lv_iload_n hx hb dX4_speed_20 rfl (lv_at hl 3 rfl) ?_
      refine xrS (As := [.int (t)]) (rest := [.int (bI (bPc p1)), .ref (a 0)]) hx hb hml hown ht hN kS_X4_88 (r_X4_isMinute l D t) ⟨by decide, by decide⟩ (fun k q h => by simp at h) (hK.sub (tys' := []) [] rfl) rfl hl.1 rfl (Nat.le_of_ble_eq_true rfl) dX4_speed_21 ⟨Nat.zero_le _, Nat.zero_le _⟩ ?_
      refine lv_if_ne (tgt := 31) hx hb dX4_speed_24 (by decide) (fun h_24 => ?_) (fun h_24 => ?_)
      · skip
        have h_24 : ¬ ((bI (inI t (nI 0) (nI 99999)) : Int32) = (0 : Int32)) := h_24
        refine lv_iconst (v := nI 0) hx hb dX4_speed_31 (by decide) ?_
        refine xtop (y := bI (bSt s1 t)) (bI_0 (by unfold bSt; rw [bI_t h_17, bI_t h_24]; rfl)) ?_
        exact J32 _ _ hP hD hS ls (lv_sub hl [0, 1, 2, 3] rfl)
      · skip
        have h_24 : (bI (inI t (nI 0) (nI 99999)) : Int32) = (0 : Int32) := h_24
        refine lv_iconst (v := nI 1) hx hb dX4_speed_27 (by decide) ?_
        refine lv_goto (tgt := 32) hx hb dX4_speed_28 (by decide) ?_
        refine xtop (y := bI (bSt s1 t)) (bI_1 (by unfold bSt; first | (rw [bI_f h_17]; rfl) | (rw [bI_f h_24, Bool.not_false, Bool.or_true]))) ?_
        exact J32 _ _ hP hD hS ls (lv_sub hl [0, 1, 2, 3] rfl)
  refine lv_aload_n hx hb dX4_speed_0 rfl (lv_at hl 0 rfl) ?_
  refine lv_iload_n hx hb dX4_speed_1 rfl (lv_at hl 1 rfl) ?_
  refine xrS (As := [.int (p1)]) (rest := [.ref (a 0)]) hx hb hml hown ht hN kS_X4_84 (r_X4_isPiece l D p1) ⟨by decide, by decide⟩ (fun k q h => by simp at h) (hK.sub (tys' := []) [] rfl) rfl hl.1 rfl (Nat.le_of_ble_eq_true rfl) dX4_speed_2 ⟨Nat.zero_le _, Nat.zero_le _⟩ ?_
  refine lv_if_ne (tgt := 12) hx hb dX4_speed_5 (by decide) (fun h_5 => ?_) (fun h_5 => ?_)
  · skip
    have h_5 : ¬ ((bI (inI p1 (nI 0) (nI 59)) : Int32) = (0 : Int32)) := h_5
    refine lv_iconst (v := nI 0) hx hb dX4_speed_12 (by decide) ?_
    refine xtop (y := bI (bPc p1)) (bI_0 (by unfold bPc; rw [bI_t h_5]; rfl)) ?_
    exact J13 _ _ hP hD hS ls (lv_sub hl [0, 1, 2, 3] rfl)
  · skip
    have h_5 : (bI (inI p1 (nI 0) (nI 59)) : Int32) = (0 : Int32) := h_5
    refine lv_iconst (v := nI 1) hx hb dX4_speed_8 (by decide) ?_
    refine lv_goto (tgt := 13) hx hb dX4_speed_9 (by decide) ?_
    refine xtop (y := bI (bPc p1)) (bI_1 (by unfold bPc; rw [bI_f h_5]; rfl)) ?_
    exact J13 _ _ hP hD hS ls (lv_sub hl [0, 1, 2, 3] rfl)
set_option maxHeartbeats 4000000 in
set_option maxRecDepth 100000 in
theorem r_X4_reason (l : Launch) (D : va_G) (a : Nat → Nat) (cI cZ : ClassId) (M : MS) (hO : mOk (sK M)) (p1 s1 t i1 : Int32) : xWR l yX4_reason cX4_reason 9 (some .int) (xrm 2 42) [.ref (a 0), .int (p1), .int (s1), .int (t), .int (i1)] D (wM a cI cZ M) (tyL cI cZ) (some (.int (reasMr M p1 s1 t i1))) (wM a cI cZ (reasMs M p1 s1 t i1)) := by
  refine xWR.of (by decide +kernel) (Nat.le_of_ble_eq_true rfl) ?_
  intro p e s m args below meth cd hx hb hr hml hown hlocks ht hN hP hK hD hS ls hl
  have hl : lv_has ls 9 [(0, .ref (a 0)), (1, .int (p1)), (2, .int (s1)), (3, .int (t)), (4, .int (i1))] := hl
  have hown : s.vm.findClass RX4 = some m.cls := hown
  have hn := hO.1
  have L49 : ∀ (n : Nat) (c : Nat), (mN (sK M) < c + n) → (c ≤ mN (sK M)) → (¬ (bPc p1 || bRe s1 t i1 || false) = true) → (holdingM (sK M) p1 s1 t i1 = fstN (fun c => isOnM (sK M) c p1 s1 && (holdsM (sK M) c t && decide (nI (rankM (sK M) c p1 s1 t) = i1))) c (mN (sK M) - c)) → ∀ (H : Heap) (locs : List Loc), va_P D vwCl (wM a cI cZ (reasMs M p1 s1 t i1)) H → va_D (xA (wM a cI cZ M)) (wM a cI cZ (reasMs M p1 s1 t i1)) → va_S (xA (wM a cI cZ M)) s.heap H locs → ∀ ls : Array Slot, lv_has ls 9 [(0, .ref (a 0)), (1, .int (p1)), (2, .int (s1)), (3, .int (t)), (4, .int (i1)), (5, .int (nI c))] → W p l e (xrm 2 42) s m args below meth cd H locs 0 0 (MQ below (xQw (some (.int (reasMr M p1 s1 t i1))) D (wM a cI cZ M) (wM a cI cZ (reasMs M p1 s1 t i1))) args s 0 0 (xA (wM a cI cZ M))) (F0 m 49 ls []) := by
    intro n
    induction n with
    | zero =>
      intro c hfuel hi hz0 hv
      exact absurd hfuel (by omega)
    | succ n ih49 =>
      intro c hfuel hi hz0 hv H locs hP hD hS ls hl
      have L64 : ∀ (n : Nat) (k : Nat) (d : Nat), (mN (sK M) < d + n) → (d ≤ mN (sK M)) → (c < mN (sK M)) → (k = cntN (fun d => isOnM (sK M) d p1 s1 && (holdsM (sK M) d t && aheadM (sK M) d c)) d) → ∀ (H : Heap) (locs : List Loc), va_P D vwCl (wM a cI cZ (reasMs M p1 s1 t i1)) H → va_D (xA (wM a cI cZ M)) (wM a cI cZ (reasMs M p1 s1 t i1)) → va_S (xA (wM a cI cZ M)) s.heap H locs → ∀ ls : Array Slot, lv_has ls 9 [(0, .ref (a 0)), (1, .int (p1)), (2, .int (s1)), (3, .int (t)), (4, .int (i1)), (5, .int (nI c)), (6, .int (nI k)), (7, .int (nI d))] → W p l e (xrm 2 42) s m args below meth cd H locs 0 0 (MQ below (xQw (some (.int (reasMr M p1 s1 t i1))) D (wM a cI cZ M) (wM a cI cZ (reasMs M p1 s1 t i1))) args s 0 0 (xA (wM a cI cZ M))) (F0 m 64 ls []) := by
        intro n
        induction n with
        | zero =>
          intro k d hfuel hd hc9 hw
          exact absurd hfuel (by omega)
        | succ n ih64 =>
          intro k d hfuel hd hc9 hw H locs hP hD hS ls hl
          refine lv_iload hx hb dX4_reason_64 (lv_at hl 7 rfl) ?_
          refine lv_aload_n hx hb dX4_reason_66 rfl (lv_at hl 0 rfl) ?_
          refine va_get (D := D) (ci := 4) (v := .int (nI (mN (sK M)))) (C := RX4) (T := TX4) (N := 18) hx hb ht inX4 hown hK hP 0 rfl rfl 2 (by decide) (ht _ wd574) (fun _ h9 => h9) rfl dX4_reason_67 ?_
          refine lv_icmp_ge (tgt := 159) hx hb dX4_reason_70 (by decide) (fun h_70 => ?_) (fun h_70 => ?_)
          · skip
            have h_70 : (nI (mN (sK M)) : Int32) ≤ (nI d : Int32) := h_70
            have h_70 : (mN (sK M)) ≤ d := (nI_leI (by omega) (by omega)).mp h_70
            have hrk : k = rankM (sK M) c p1 s1 t := by rw [rankM, show mN (sK M) = d by omega, ← hw]
            have hkb : k ≤ d := by rw [hw]; exact cntN_le _ _
            refine lv_aload_n hx hb dX4_reason_159 rfl (lv_at hl 0 rfl) ?_
            refine lv_iload hx hb dX4_reason_160 (lv_at hl 5 rfl) ?_
            refine lv_iload_n hx hb dX4_reason_162 rfl (lv_at hl 1 rfl) ?_
            refine lv_iload_n hx hb dX4_reason_163 rfl (lv_at hl 2 rfl) ?_
            refine xrV (As := [.int (nI c), .int (p1), .int (s1)]) (rest := []) hx hb hml hown ht hN kV_X4_65 (r_X4_isOn l D a cI cZ (reasMs M p1 s1 t i1) hO c (by show c < mN (sK M); omega) p1 s1) ⟨by decide, by decide⟩ hP hK rfl rfl rfl rfl hl.1 rfl (Nat.le_of_ble_eq_true rfl) dX4_reason_164 ⟨Nat.zero_le _, Nat.zero_le _⟩ ?_
            refine lv_if_eq (tgt := 190) hx hb dX4_reason_167 (by decide) (fun h_167 => ?_) (fun h_167 => ?_)
            · skip
              have h_167 : (bI (isOnM (sK M) c p1 s1) : Int32) = (0 : Int32) := h_167
              refine lv_iinc (v := nI (c + 1)) (lv' := [(5, .int (nI (c + 1))), (0, .ref (a 0)), (1, .int (p1)), (2, .int (s1)), (3, .int (t)), (4, .int (i1)), (6, .int (nI k)), (7, .int (nI d))]) hx hb dX4_reason_190 hl (k := 5) rfl (nI_1 _) (by decide) rfl (fun ls hl => ?_)
              refine lv_goto (tgt := 49) hx hb dX4_reason_193 (by decide) ?_
              exact ih49 (c + 1) (by omega) (by omega) hz0 (by rw [hv, show mN (sK M) - c = (mN (sK M) - (c + 1)) + 1 by omega, fstN]; first | (rw [bI_f h_167]; rfl) | (rw [bI_f h_177, Bool.false_and, Bool.and_false]; rfl) | (rw [decide_eq_false (show ¬ nI (rankM (sK M) c p1 s1 t) = i1 by rw [← hrk]; exact h_184), Bool.and_false, Bool.and_false]; rfl)) _ _ hP hD hS ls (lv_sub hl [1, 2, 3, 4, 5, 0] rfl)
            · skip
              have h_167 : ¬ ((bI (isOnM (sK M) c p1 s1) : Int32) = (0 : Int32)) := h_167
              refine lv_aload_n hx hb dX4_reason_170 rfl (lv_at hl 0 rfl) ?_
              refine lv_iload hx hb dX4_reason_171 (lv_at hl 5 rfl) ?_
              refine lv_iload_n hx hb dX4_reason_173 rfl (lv_at hl 3 rfl) ?_
              refine xrV (As := [.int (nI c), .int (t)]) (rest := []) hx hb hml hown ht hN kV_X4_68 (r_X4_holds l D a cI cZ (reasMs M p1 s1 t i1) hO c (by show c < mN (sK M); omega) t) ⟨by decide, by decide⟩ hP hK rfl rfl rfl rfl hl.1 rfl (Nat.le_of_ble_eq_true rfl) dX4_reason_174 ⟨Nat.zero_le _, Nat.zero_le _⟩ ?_
              refine lv_if_eq (tgt := 190) hx hb dX4_reason_177 (by decide) (fun h_177 => ?_) (fun h_177 => ?_)
              · skip
                have h_177 : (bI (holdsM (sK M) c t) : Int32) = (0 : Int32) := h_177
                refine lv_iinc (v := nI (c + 1)) (lv' := [(5, .int (nI (c + 1))), (0, .ref (a 0)), (1, .int (p1)), (2, .int (s1)), (3, .int (t)), (4, .int (i1)), (6, .int (nI k)), (7, .int (nI d))]) hx hb dX4_reason_190 hl (k := 5) rfl (nI_1 _) (by decide) rfl (fun ls hl => ?_)
                refine lv_goto (tgt := 49) hx hb dX4_reason_193 (by decide) ?_
                exact ih49 (c + 1) (by omega) (by omega) hz0 (by rw [hv, show mN (sK M) - c = (mN (sK M) - (c + 1)) + 1 by omega, fstN]; first | (rw [bI_f h_167]; rfl) | (rw [bI_f h_177, Bool.false_and, Bool.and_false]; rfl) | (rw [decide_eq_false (show ¬ nI (rankM (sK M) c p1 s1 t) = i1 by rw [← hrk]; exact h_184), Bool.and_false, Bool.and_false]; rfl)) _ _ hP hD hS ls (lv_sub hl [1, 2, 3, 4, 5, 0] rfl)
              · skip
                have h_177 : ¬ ((bI (holdsM (sK M) c t) : Int32) = (0 : Int32)) := h_177
                refine lv_iload hx hb dX4_reason_180 (lv_at hl 6 rfl) ?_
                refine lv_iload hx hb dX4_reason_182 (lv_at hl 4 rfl) ?_
                refine lv_icmp_ne (tgt := 190) hx hb dX4_reason_184 (by decide) (fun h_184 => ?_) (fun h_184 => ?_)
                · skip
                  have h_184 : ¬ ((nI k : Int32) = (i1 : Int32)) := h_184
                  refine lv_iinc (v := nI (c + 1)) (lv' := [(5, .int (nI (c + 1))), (0, .ref (a 0)), (1, .int (p1)), (2, .int (s1)), (3, .int (t)), (4, .int (i1)), (6, .int (nI k)), (7, .int (nI d))]) hx hb dX4_reason_190 hl (k := 5) rfl (nI_1 _) (by decide) rfl (fun ls hl => ?_)
                  refine lv_goto (tgt := 49) hx hb dX4_reason_193 (by decide) ?_
                  exact ih49 (c + 1) (by omega) (by omega) hz0 (by rw [hv, show mN (sK M) - c = (mN (sK M) - (c + 1)) + 1 by omega, fstN]; first | (rw [bI_f h_167]; rfl) | (rw [bI_f h_177, Bool.false_and, Bool.and_false]; rfl) | (rw [decide_eq_false (show ¬ nI (rankM (sK M) c p1 s1 t) = i1 by rw [← hrk]; exact h_184), Bool.and_false, Bool.and_false]; rfl)) _ _ hP hD hS ls (lv_sub hl [1, 2, 3, 4, 5, 0] rfl)
                · skip
                  have h_184 : (nI k : Int32) = (i1 : Int32) := h_184
                  refine lv_iload hx hb dX4_reason_187 (lv_at hl 5 rfl) ?_
                  exact xw_iret (v := nI c) hx hb hr hlocks hS hP (by rw [reasMr, if_neg hz0, hv, show mN (sK M) - c = (mN (sK M) - (c + 1)) + 1 by omega, fstN, bI_t h_167, bI_t h_177, decide_eq_true (show nI (rankM (sK M) c p1 s1 t) = i1 by rw [← hrk]; exact h_184)]; rfl) dX4_reason_189
          · skip
            have h_70 : ¬ ((nI (mN (sK M)) : Int32) ≤ (nI d : Int32)) := h_70
            have h_70 : ¬ ((mN (sK M)) ≤ d) := fun z => h_70 ((nI_leI (by omega) (by omega)).mpr z)
            refine lv_aload_n hx hb dX4_reason_73 rfl (lv_at hl 0 rfl) ?_
            refine lv_iload hx hb dX4_reason_74 (lv_at hl 7 rfl) ?_
            refine xrV (As := [.int (nI d)]) (rest := []) hx hb hml hown ht hN kV_X4_108 (r_X4_endOf l D a cI cZ (reasMs M p1 s1 t i1) hO d (by show d < mN (sK M); omega)) ⟨by decide, by decide⟩ hP hK rfl rfl rfl rfl hl.1 rfl (Nat.le_of_ble_eq_true rfl) dX4_reason_76 ⟨Nat.zero_le _, Nat.zero_le _⟩ ?_
            refine lv_aload_n hx hb dX4_reason_79 rfl (lv_at hl 0 rfl) ?_
            refine lv_iload hx hb dX4_reason_80 (lv_at hl 5 rfl) ?_
            refine xrV (As := [.int (nI c)]) (rest := [.int (endM (sK M) d)]) hx hb hml hown ht hN kV_X4_108 (r_X4_endOf l D a cI cZ (reasMs M p1 s1 t i1) hO c (by show c < mN (sK M); omega)) ⟨by decide, by decide⟩ hP hK rfl rfl rfl rfl hl.1 rfl (Nat.le_of_ble_eq_true rfl) dX4_reason_82 ⟨Nat.zero_le _, Nat.zero_le _⟩ ?_
            refine lv_icmp_lt (tgt := 110) hx hb dX4_reason_85 (by decide) (fun h_85 => ?_) (fun h_85 => ?_)
            · skip
              have h_85 : (endM (sK M) d : Int32) < (endM (sK M) c : Int32) := h_85
              refine lv_iconst (v := nI 1) hx hb dX4_reason_110 (by decide) ?_
              refine lv_goto (tgt := 115) hx hb dX4_reason_111 (by decide) ?_
              refine lv_istore (lv' := [(8, .int (nI 1)), (0, .ref (a 0)), (1, .int (p1)), (2, .int (s1)), (3, .int (t)), (4, .int (i1)), (5, .int (nI c)), (6, .int (nI k)), (7, .int (nI d))]) hx hb dX4_reason_115 hl (by decide) rfl (fun ls hl => ?_)
              refine lv_iload hx hb dX4_reason_117 (lv_at hl 7 rfl) ?_
              refine lv_aload_n hx hb dX4_reason_119 rfl (lv_at hl 1 rfl) ?_
              refine lv_iload hx hb dX4_reason_120 (lv_at hl 8 rfl) ?_
              refine lv_iload_n hx hb dX4_reason_122 rfl (lv_at hl 2 rfl) ?_
              refine lv_iload_n hx hb dX4_reason_123 rfl (lv_at hl 3 rfl) ?_
              refine xrV (As := [.int (nI d), .int (p1), .int (s1)]) (rest := [.int (nI k)]) hx hb hml hown ht hN kV_X4_65 (r_X4_isOn l D a cI cZ (reasMs M p1 s1 t i1) hO d (by show d < mN (sK M); omega) p1 s1) ⟨by decide, by decide⟩ hP hK rfl rfl rfl rfl hl.1 rfl (Nat.le_of_ble_eq_true rfl) dX4_reason_124 ⟨Nat.zero_le _, Nat.zero_le _⟩ ?_
              refine lv_if_eq (tgt := 149) hx hb dX4_reason_127 (by decide) (fun h_127 => ?_) (fun h_127 => ?_)
              · skip
                have h_127 : (bI (isOnM (sK M) d p1 s1) : Int32) = (0 : Int32) := h_127
                refine lv_iconst (v := nI 0) hx hb dX4_reason_149 (by decide) ?_
                refine lv_iadd hx hb dX4_reason_150 ?_
                refine xtop (y := nI (k + 0)) (nI_add _ _) ?_
                refine lv_istore (lv' := [(6, .int (nI (k + 0))), (8, .int (nI 1)), (0, .ref (a 0)), (1, .int (p1)), (2, .int (s1)), (3, .int (t)), (4, .int (i1)), (5, .int (nI c)), (7, .int (nI d))]) hx hb dX4_reason_151 hl (by decide) rfl (fun ls hl => ?_)
                refine lv_iinc (v := nI (d + 1)) (lv' := [(7, .int (nI (d + 1))), (6, .int (nI (k + 0))), (8, .int (nI 1)), (0, .ref (a 0)), (1, .int (p1)), (2, .int (s1)), (3, .int (t)), (4, .int (i1)), (5, .int (nI c))]) hx hb dX4_reason_153 hl (k := 8) rfl (nI_1 _) (by decide) rfl (fun ls hl => ?_)
                refine lv_goto (tgt := 64) hx hb dX4_reason_156 (by decide) ?_
                exact ih64 (k + 0) (d + 1) (by omega) (by omega) hc9 (by rw [cntN, ← hw]; first | (rw [bI_f h_127]; rfl) | (rw [bI_f h_137, Bool.false_and, Bool.and_false]; rfl) | (rw [bI_t h_127, bI_t h_137, show aheadM (sK M) d c = true from (by unfold aheadM; first | (rw [if_pos h_85]; done) | (rw [if_neg h_85, decide_eq_true h_100, decide_eq_true (show d < c by omega)]; rfl))]; rfl) | (rw [show aheadM (sK M) d c = false from (by unfold aheadM; rw [if_neg h_85]; first | (rw [decide_eq_false h_100]; rfl) | (rw [decide_eq_false (show ¬ d < c by omega), Bool.and_false])), Bool.and_false, Bool.and_false]; rfl)) _ _ hP hD hS ls (lv_sub hl [3, 4, 5, 6, 7, 8, 1, 0] rfl)
              · skip
                have h_127 : ¬ ((bI (isOnM (sK M) d p1 s1) : Int32) = (0 : Int32)) := h_127
                refine lv_aload_n hx hb dX4_reason_130 rfl (lv_at hl 1 rfl) ?_
                refine lv_iload hx hb dX4_reason_131 (lv_at hl 8 rfl) ?_
                refine lv_iload_n hx hb dX4_reason_133 rfl (lv_at hl 4 rfl) ?_
                refine xrV (As := [.int (nI d), .int (t)]) (rest := [.int (nI k)]) hx hb hml hown ht hN kV_X4_68 (r_X4_holds l D a cI cZ (reasMs M p1 s1 t i1) hO d (by show d < mN (sK M); omega) t) ⟨by decide, by decide⟩ hP hK rfl rfl rfl rfl hl.1 rfl (Nat.le_of_ble_eq_true rfl) dX4_reason_134 ⟨Nat.zero_le _, Nat.zero_le _⟩ ?_
                refine lv_if_eq (tgt := 149) hx hb dX4_reason_137 (by decide) (fun h_137 => ?_) (fun h_137 => ?_)
                · skip
                  have h_137 : (bI (holdsM (sK M) d t) : Int32) = (0 : Int32) := h_137
                  refine lv_iconst (v := nI 0) hx hb dX4_reason_149 (by decide) ?_
                  refine lv_iadd hx hb dX4_reason_150 ?_
                  refine xtop (y := nI (k + 0)) (nI_add _ _) ?_
                  refine lv_istore (lv' := [(6, .int (nI (k + 0))), (8, .int (nI 1)), (0, .ref (a 0)), (1, .int (p1)), (2, .int (s1)), (3, .int (t)), (4, .int (i1)), (5, .int (nI c)), (7, .int (nI d))]) hx hb dX4_reason_151 hl (by decide) rfl (fun ls hl => ?_)
                  refine lv_iinc (v := nI (d + 1)) (lv' := [(7, .int (nI (d + 1))), (6, .int (nI (k + 0))), (8, .int (nI 1)), (0, .ref (a 0)), (1, .int (p1)), (2, .int (s1)), (3, .int (t)), (4, .int (i1)), (5, .int (nI c))]) hx hb dX4_reason_153 hl (k := 8) rfl (nI_1 _) (by decide) rfl (fun ls hl => ?_)
                  refine lv_goto (tgt := 64) hx hb dX4_reason_156 (by decide) ?_
                  exact ih64 (k + 0) (d + 1) (by omega) (by omega) hc9 (by rw [cntN, ← hw]; first | (rw [bI_f h_127]; rfl) | (rw [bI_f h_137, Bool.false_and, Bool.and_false]; rfl) | (rw [bI_t h_127, bI_t h_137, show aheadM (sK M) d c = true from (by unfold aheadM; first | (rw [if_pos h_85]; done) | (rw [if_neg h_85, decide_eq_true h_100, decide_eq_true (show d < c by omega)]; rfl))]; rfl) | (rw [show aheadM (sK M) d c = false from (by unfold aheadM; rw [if_neg h_85]; first | (rw [decide_eq_false h_100]; rfl) | (rw [decide_eq_false (show ¬ d < c by omega), Bool.and_false])), Bool.and_false, Bool.and_false]; rfl)) _ _ hP hD hS ls (lv_sub hl [3, 4, 5, 6, 7, 8, 1, 0] rfl)
                · skip
                  have h_137 : ¬ ((bI (holdsM (sK M) d t) : Int32) = (0 : Int32)) := h_137
                  refine lv_iload hx hb dX4_reason_140 (lv_at hl 0 rfl) ?_
                  refine lv_if_eq (tgt := 149) hx hb dX4_reason_142 (by decide) (fun h_142 => ?_) (fun h_142 => ?_)
                  · skip
                    have h_142 : (nI 1 : Int32) = (0 : Int32) := h_142
                    exact absurd h_142 (by decide)
                  · skip
                    have h_142 : ¬ ((nI 1 : Int32) = (0 : Int32)) := h_142
                    refine lv_iconst (v := nI 1) hx hb dX4_reason_145 (by decide) ?_
                    refine lv_goto (tgt := 150) hx hb dX4_reason_146 (by decide) ?_
                    refine lv_iadd hx hb dX4_reason_150 ?_
                    refine xtop (y := nI (k + 1)) (nI_add _ _) ?_
                    refine lv_istore (lv' := [(6, .int (nI (k + 1))), (8, .int (nI 1)), (0, .ref (a 0)), (1, .int (p1)), (2, .int (s1)), (3, .int (t)), (4, .int (i1)), (5, .int (nI c)), (7, .int (nI d))]) hx hb dX4_reason_151 hl (by decide) rfl (fun ls hl => ?_)
                    refine lv_iinc (v := nI (d + 1)) (lv' := [(7, .int (nI (d + 1))), (6, .int (nI (k + 1))), (8, .int (nI 1)), (0, .ref (a 0)), (1, .int (p1)), (2, .int (s1)), (3, .int (t)), (4, .int (i1)), (5, .int (nI c))]) hx hb dX4_reason_153 hl (k := 8) rfl (nI_1 _) (by decide) rfl (fun ls hl => ?_)
                    refine lv_goto (tgt := 64) hx hb dX4_reason_156 (by decide) ?_
                    exact ih64 (k + 1) (d + 1) (by omega) (by omega) hc9 (by rw [cntN, ← hw]; first | (rw [bI_f h_127]; rfl) | (rw [bI_f h_137, Bool.false_and, Bool.and_false]; rfl) | (rw [bI_t h_127, bI_t h_137, show aheadM (sK M) d c = true from (by unfold aheadM; first | (rw [if_pos h_85]; done) | (rw [if_neg h_85, decide_eq_true h_100, decide_eq_true (show d < c by omega)]; rfl))]; rfl) | (rw [show aheadM (sK M) d c = false from (by unfold aheadM; rw [if_neg h_85]; first | (rw [decide_eq_false h_100]; rfl) | (rw [decide_eq_false (show ¬ d < c by omega), Bool.and_false])), Bool.and_false, Bool.and_false]; rfl)) _ _ hP hD hS ls (lv_sub hl [3, 4, 5, 6, 7, 8, 1, 0] rfl)
            · skip
              have h_85 : ¬ ((endM (sK M) d : Int32) < (endM (sK M) c : Int32)) := h_85
              refine lv_aload_n hx hb dX4_reason_88 rfl (lv_at hl 0 rfl) ?_
              refine lv_iload hx hb dX4_reason_89 (lv_at hl 7 rfl) ?_
              refine xrV (As := [.int (nI d)]) (rest := []) hx hb hml hown ht hN kV_X4_108 (r_X4_endOf l D a cI cZ (reasMs M p1 s1 t i1) hO d (by show d < mN (sK M); omega)) ⟨by decide, by decide⟩ hP hK rfl rfl rfl rfl hl.1 rfl (Nat.le_of_ble_eq_true rfl) dX4_reason_91 ⟨Nat.zero_le _, Nat.zero_le _⟩ ?_
              refine lv_aload_n hx hb dX4_reason_94 rfl (lv_at hl 0 rfl) ?_
              refine lv_iload hx hb dX4_reason_95 (lv_at hl 5 rfl) ?_
              refine xrV (As := [.int (nI c)]) (rest := [.int (endM (sK M) d)]) hx hb hml hown ht hN kV_X4_108 (r_X4_endOf l D a cI cZ (reasMs M p1 s1 t i1) hO c (by show c < mN (sK M); omega)) ⟨by decide, by decide⟩ hP hK rfl rfl rfl rfl hl.1 rfl (Nat.le_of_ble_eq_true rfl) dX4_reason_97 ⟨Nat.zero_le _, Nat.zero_le _⟩ ?_
              refine lv_icmp_ne (tgt := 114) hx hb dX4_reason_100 (by decide) (fun h_100 => ?_) (fun h_100 => ?_)
              · skip
                have h_100 : ¬ ((endM (sK M) d : Int32) = (endM (sK M) c : Int32)) := h_100
                refine lv_iconst (v := nI 0) hx hb dX4_reason_114 (by decide) ?_
                refine lv_istore (lv' := [(8, .int (nI 0)), (0, .ref (a 0)), (1, .int (p1)), (2, .int (s1)), (3, .int (t)), (4, .int (i1)), (5, .int (nI c)), (6, .int (nI k)), (7, .int (nI d))]) hx hb dX4_reason_115 hl (by decide) rfl (fun ls hl => ?_)
                refine lv_iload hx hb dX4_reason_117 (lv_at hl 7 rfl) ?_
                refine lv_aload_n hx hb dX4_reason_119 rfl (lv_at hl 1 rfl) ?_
                refine lv_iload hx hb dX4_reason_120 (lv_at hl 8 rfl) ?_
                refine lv_iload_n hx hb dX4_reason_122 rfl (lv_at hl 2 rfl) ?_
                refine lv_iload_n hx hb dX4_reason_123 rfl (lv_at hl 3 rfl) ?_
                refine xrV (As := [.int (nI d), .int (p1), .int (s1)]) (rest := [.int (nI k)]) hx hb hml hown ht hN kV_X4_65 (r_X4_isOn l D a cI cZ (reasMs M p1 s1 t i1) hO d (by show d < mN (sK M); omega) p1 s1) ⟨by decide, by decide⟩ hP hK rfl rfl rfl rfl hl.1 rfl (Nat.le_of_ble_eq_true rfl) dX4_reason_124 ⟨Nat.zero_le _, Nat.zero_le _⟩ ?_
                refine lv_if_eq (tgt := 149) hx hb dX4_reason_127 (by decide) (fun h_127 => ?_) (fun h_127 => ?_)
                · skip
                  have h_127 : (bI (isOnM (sK M) d p1 s1) : Int32) = (0 : Int32) := h_127
                  refine lv_iconst (v := nI 0) hx hb dX4_reason_149 (by decide) ?_
                  refine lv_iadd hx hb dX4_reason_150 ?_
                  refine xtop (y := nI (k + 0)) (nI_add _ _) ?_
                  refine lv_istore (lv' := [(6, .int (nI (k + 0))), (8, .int (nI 0)), (0, .ref (a 0)), (1, .int (p1)), (2, .int (s1)), (3, .int (t)), (4, .int (i1)), (5, .int (nI c)), (7, .int (nI d))]) hx hb dX4_reason_151 hl (by decide) rfl (fun ls hl => ?_)
                  refine lv_iinc (v := nI (d + 1)) (lv' := [(7, .int (nI (d + 1))), (6, .int (nI (k + 0))), (8, .int (nI 0)), (0, .ref (a 0)), (1, .int (p1)), (2, .int (s1)), (3, .int (t)), (4, .int (i1)), (5, .int (nI c))]) hx hb dX4_reason_153 hl (k := 8) rfl (nI_1 _) (by decide) rfl (fun ls hl => ?_)
                  refine lv_goto (tgt := 64) hx hb dX4_reason_156 (by decide) ?_
                  exact ih64 (k + 0) (d + 1) (by omega) (by omega) hc9 (by rw [cntN, ← hw]; first | (rw [bI_f h_127]; rfl) | (rw [bI_f h_137, Bool.false_and, Bool.and_false]; rfl) | (rw [bI_t h_127, bI_t h_137, show aheadM (sK M) d c = true from (by unfold aheadM; first | (rw [if_pos h_85]; done) | (rw [if_neg h_85, decide_eq_true h_100, decide_eq_true (show d < c by omega)]; rfl))]; rfl) | (rw [show aheadM (sK M) d c = false from (by unfold aheadM; rw [if_neg h_85]; first | (rw [decide_eq_false h_100]; rfl) | (rw [decide_eq_false (show ¬ d < c by omega), Bool.and_false])), Bool.and_false, Bool.and_false]; rfl)) _ _ hP hD hS ls (lv_sub hl [3, 4, 5, 6, 7, 8, 1, 0] rfl)
                · skip
                  have h_127 : ¬ ((bI (isOnM (sK M) d p1 s1) : Int32) = (0 : Int32)) := h_127
                  refine lv_aload_n hx hb dX4_reason_130 rfl (lv_at hl 1 rfl) ?_
                  refine lv_iload hx hb dX4_reason_131 (lv_at hl 8 rfl) ?_
                  refine lv_iload_n hx hb dX4_reason_133 rfl (lv_at hl 4 rfl) ?_
                  refine xrV (As := [.int (nI d), .int (t)]) (rest := [.int (nI k)]) hx hb hml hown ht hN kV_X4_68 (r_X4_holds l D a cI cZ (reasMs M p1 s1 t i1) hO d (by show d < mN (sK M); omega) t) ⟨by decide, by decide⟩ hP hK rfl rfl rfl rfl hl.1 rfl (Nat.le_of_ble_eq_true rfl) dX4_reason_134 ⟨Nat.zero_le _, Nat.zero_le _⟩ ?_
                  refine lv_if_eq (tgt := 149) hx hb dX4_reason_137 (by decide) (fun h_137 => ?_) (fun h_137 => ?_)
                  · skip
                    have h_137 : (bI (holdsM (sK M) d t) : Int32) = (0 : Int32) := h_137
                    refine lv_iconst (v := nI 0) hx hb dX4_reason_149 (by decide) ?_
                    refine lv_iadd hx hb dX4_reason_150 ?_
                    refine xtop (y := nI (k + 0)) (nI_add _ _) ?_
                    refine lv_istore (lv' := [(6, .int (nI (k + 0))), (8, .int (nI 0)), (0, .ref (a 0)), (1, .int (p1)), (2, .int (s1)), (3, .int (t)), (4, .int (i1)), (5, .int (nI c)), (7, .int (nI d))]) hx hb dX4_reason_151 hl (by decide) rfl (fun ls hl => ?_)
                    refine lv_iinc (v := nI (d + 1)) (lv' := [(7, .int (nI (d + 1))), (6, .int (nI (k + 0))), (8, .int (nI 0)), (0, .ref (a 0)), (1, .int (p1)), (2, .int (s1)), (3, .int (t)), (4, .int (i1)), (5, .int (nI c))]) hx hb dX4_reason_153 hl (k := 8) rfl (nI_1 _) (by decide) rfl (fun ls hl => ?_)
                    refine lv_goto (tgt := 64) hx hb dX4_reason_156 (by decide) ?_
                    exact ih64 (k + 0) (d + 1) (by omega) (by omega) hc9 (by rw [cntN, ← hw]; first | (rw [bI_f h_127]; rfl) | (rw [bI_f h_137, Bool.false_and, Bool.and_false]; rfl) | (rw [bI_t h_127, bI_t h_137, show aheadM (sK M) d c = true from (by unfold aheadM; first | (rw [if_pos h_85]; done) | (rw [if_neg h_85, decide_eq_true h_100, decide_eq_true (show d < c by omega)]; rfl))]; rfl) | (rw [show aheadM (sK M) d c = false from (by unfold aheadM; rw [if_neg h_85]; first | (rw [decide_eq_false h_100]; rfl) | (rw [decide_eq_false (show ¬ d < c by omega), Bool.and_false])), Bool.and_false, Bool.and_false]; rfl)) _ _ hP hD hS ls (lv_sub hl [3, 4, 5, 6, 7, 8, 1, 0] rfl)
                  · skip
                    have h_137 : ¬ ((bI (holdsM (sK M) d t) : Int32) = (0 : Int32)) := h_137
                    refine lv_iload hx hb dX4_reason_140 (lv_at hl 0 rfl) ?_
                    refine lv_if_eq (tgt := 149) hx hb dX4_reason_142 (by decide) (fun h_142 => ?_) (fun h_142 => ?_)
                    · skip
                      have h_142 : (nI 0 : Int32) = (0 : Int32) := h_142
                      refine lv_iconst (v := nI 0) hx hb dX4_reason_149 (by decide) ?_
                      refine lv_iadd hx hb dX4_reason_150 ?_
                      refine xtop (y := nI (k + 0)) (nI_add _ _) ?_
                      refine lv_istore (lv' := [(6, .int (nI (k + 0))), (8, .int (nI 0)), (0, .ref (a 0)), (1, .int (p1)), (2, .int (s1)), (3, .int (t)), (4, .int (i1)), (5, .int (nI c)), (7, .int (nI d))]) hx hb dX4_reason_151 hl (by decide) rfl (fun ls hl => ?_)
                      refine lv_iinc (v := nI (d + 1)) (lv' := [(7, .int (nI (d + 1))), (6, .int (nI (k + 0))), (8, .int (nI 0)), (0, .ref (a 0)), (1, .int (p1)), (2, .int (s1)), (3, .int (t)), (4, .int (i1)), (5, .int (nI c))]) hx hb dX4_reason_153 hl (k := 8) rfl (nI_1 _) (by decide) rfl (fun ls hl => ?_)
                      refine lv_goto (tgt := 64) hx hb dX4_reason_156 (by decide) ?_
                      exact ih64 (k + 0) (d + 1) (by omega) (by omega) hc9 (by rw [cntN, ← hw]; first | (rw [bI_f h_127]; rfl) | (rw [bI_f h_137, Bool.false_and, Bool.and_false]; rfl) | (rw [bI_t h_127, bI_t h_137, show aheadM (sK M) d c = true from (by unfold aheadM; first | (rw [if_pos h_85]; done) | (rw [if_neg h_85, decide_eq_true h_100, decide_eq_true (show d < c by omega)]; rfl))]; rfl) | (rw [show aheadM (sK M) d c = false from (by unfold aheadM; rw [if_neg h_85]; first | (rw [decide_eq_false h_100]; rfl) | (rw [decide_eq_false (show ¬ d < c by omega), Bool.and_false])), Bool.and_false, Bool.and_false]; rfl)) _ _ hP hD hS ls (lv_sub hl [3, 4, 5, 6, 7, 8, 1, 0] rfl)
                    · skip
                      have h_142 : ¬ ((nI 0 : Int32) = (0 : Int32)) := h_142
                      exact absurd h_142 (by decide)
              · skip
                have h_100 : (endM (sK M) d : Int32) = (endM (sK M) c : Int32) := h_100
                refine lv_iload hx hb dX4_reason_103 (lv_at hl 7 rfl) ?_
                refine lv_iload hx hb dX4_reason_105 (lv_at hl 5 rfl) ?_
                refine lv_icmp_ge (tgt := 114) hx hb dX4_reason_107 (by decide) (fun h_107 => ?_) (fun h_107 => ?_)
                · skip
                  have h_107 : (nI c : Int32) ≤ (nI d : Int32) := h_107
                  have h_107 : c ≤ d := (nI_leI (by omega) (by omega)).mp h_107
                  refine lv_iconst (v := nI 0) hx hb dX4_reason_114 (by decide) ?_
                  refine lv_istore (lv' := [(8, .int (nI 0)), (0, .ref (a 0)), (1, .int (p1)), (2, .int (s1)), (3, .int (t)), (4, .int (i1)), (5, .int (nI c)), (6, .int (nI k)), (7, .int (nI d))]) hx hb dX4_reason_115 hl (by decide) rfl (fun ls hl => ?_)
                  refine lv_iload hx hb dX4_reason_117 (lv_at hl 7 rfl) ?_
                  refine lv_aload_n hx hb dX4_reason_119 rfl (lv_at hl 1 rfl) ?_
                  refine lv_iload hx hb dX4_reason_120 (lv_at hl 8 rfl) ?_
                  refine lv_iload_n hx hb dX4_reason_122 rfl (lv_at hl 2 rfl) ?_
                  refine lv_iload_n hx hb dX4_reason_123 rfl (lv_at hl 3 rfl) ?_
                  refine xrV (As := [.int (nI d), .int (p1), .int (s1)]) (rest := [.int (nI k)]) hx hb hml hown ht hN kV_X4_65 (r_X4_isOn l D a cI cZ (reasMs M p1 s1 t i1) hO d (by show d < mN (sK M); omega) p1 s1) ⟨by decide, by decide⟩ hP hK rfl rfl rfl rfl hl.1 rfl (Nat.le_of_ble_eq_true rfl) dX4_reason_124 ⟨Nat.zero_le _, Nat.zero_le _⟩ ?_
                  refine lv_if_eq (tgt := 149) hx hb dX4_reason_127 (by decide) (fun h_127 => ?_) (fun h_127 => ?_)
                  · skip
                    have h_127 : (bI (isOnM (sK M) d p1 s1) : Int32) = (0 : Int32) := h_127
                    refine lv_iconst (v := nI 0) hx hb dX4_reason_149 (by decide) ?_
                    refine lv_iadd hx hb dX4_reason_150 ?_
                    refine xtop (y := nI (k + 0)) (nI_add _ _) ?_
                    refine lv_istore (lv' := [(6, .int (nI (k + 0))), (8, .int (nI 0)), (0, .ref (a 0)), (1, .int (p1)), (2, .int (s1)), (3, .int (t)), (4, .int (i1)), (5, .int (nI c)), (7, .int (nI d))]) hx hb dX4_reason_151 hl (by decide) rfl (fun ls hl => ?_)
                    refine lv_iinc (v := nI (d + 1)) (lv' := [(7, .int (nI (d + 1))), (6, .int (nI (k + 0))), (8, .int (nI 0)), (0, .ref (a 0)), (1, .int (p1)), (2, .int (s1)), (3, .int (t)), (4, .int (i1)), (5, .int (nI c))]) hx hb dX4_reason_153 hl (k := 8) rfl (nI_1 _) (by decide) rfl (fun ls hl => ?_)
                    refine lv_goto (tgt := 64) hx hb dX4_reason_156 (by decide) ?_
                    exact ih64 (k + 0) (d + 1) (by omega) (by omega) hc9 (by rw [cntN, ← hw]; first | (rw [bI_f h_127]; rfl) | (rw [bI_f h_137, Bool.false_and, Bool.and_false]; rfl) | (rw [bI_t h_127, bI_t h_137, show aheadM (sK M) d c = true from (by unfold aheadM; first | (rw [if_pos h_85]; done) | (rw [if_neg h_85, decide_eq_true h_100, decide_eq_true (show d < c by omega)]; rfl))]; rfl) | (rw [show aheadM (sK M) d c = false from (by unfold aheadM; rw [if_neg h_85]; first | (rw [decide_eq_false h_100]; rfl) | (rw [decide_eq_false (show ¬ d < c by omega), Bool.and_false])), Bool.and_false, Bool.and_false]; rfl)) _ _ hP hD hS ls (lv_sub hl [3, 4, 5, 6, 7, 8, 1, 0] rfl)
                  · skip
                    have h_127 : ¬ ((bI (isOnM (sK M) d p1 s1) : Int32) = (0 : Int32)) := h_127
                    refine lv_aload_n hx hb dX4_reason_130 rfl (lv_at hl 1 rfl) ?_
                    refine lv_iload hx hb dX4_reason_131 (lv_at hl 8 rfl) ?_
                    refine lv_iload_n hx hb dX4_reason_133 rfl (lv_at hl 4 rfl) ?_
                    refine xrV (As := [.int (nI d), .int (t)]) (rest := [.int (nI k)]) hx hb hml hown ht hN kV_X4_68 (r_X4_holds l D a cI cZ (reasMs M p1 s1 t i1) hO d (by show d < mN (sK M); omega) t) ⟨by decide, by decide⟩ hP hK rfl rfl rfl rfl hl.1 rfl (Nat.le_of_ble_eq_true rfl) dX4_reason_134 ⟨Nat.zero_le _, Nat.zero_le _⟩ ?_
                    refine lv_if_eq (tgt := 149) hx hb dX4_reason_137 (by decide) (fun h_137 => ?_) (fun h_137 => ?_)
                    · skip
                      have h_137 : (bI (holdsM (sK M) d t) : Int32) = (0 : Int32) := h_137
                      refine lv_iconst (v := nI 0) hx hb dX4_reason_149 (by decide) ?_
                      refine lv_iadd hx hb dX4_reason_150 ?_
                      refine xtop (y := nI (k + 0)) (nI_add _ _) ?_
                      refine lv_istore (lv' := [(6, .int (nI (k + 0))), (8, .int (nI 0)), (0, .ref (a 0)), (1, .int (p1)), (2, .int (s1)), (3, .int (t)), (4, .int (i1)), (5, .int (nI c)), (7, .int (nI d))]) hx hb dX4_reason_151 hl (by decide) rfl (fun ls hl => ?_)
                      refine lv_iinc (v := nI (d + 1)) (lv' := [(7, .int (nI (d + 1))), (6, .int (nI (k + 0))), (8, .int (nI 0)), (0, .ref (a 0)), (1, .int (p1)), (2, .int (s1)), (3, .int (t)), (4, .int (i1)), (5, .int (nI c))]) hx hb dX4_reason_153 hl (k := 8) rfl (nI_1 _) (by decide) rfl (fun ls hl => ?_)
                      refine lv_goto (tgt := 64) hx hb dX4_reason_156 (by decide) ?_
                      exact ih64 (k + 0) (d + 1) (by omega) (by omega) hc9 (by rw [cntN, ← hw]; first | (rw [bI_f h_127]; rfl) | (rw [bI_f h_137, Bool.false_and, Bool.and_false]; rfl) | (rw [bI_t h_127, bI_t h_137, show aheadM (sK M) d c = true from (by unfold aheadM; first | (rw [if_pos h_85]; done) | (rw [if_neg h_85, decide_eq_true h_100, decide_eq_true (show d < c by omega)]; rfl))]; rfl) | (rw [show aheadM (sK M) d c = false from (by unfold aheadM; rw [if_neg h_85]; first | (rw [decide_eq_false h_100]; rfl) | (rw [decide_eq_false (show ¬ d < c by omega), Bool.and_false])), Bool.and_false, Bool.and_false]; rfl)) _ _ hP hD hS ls (lv_sub hl [3, 4, 5, 6, 7, 8, 1, 0] rfl)
                    · skip
                      have h_137 : ¬ ((bI (holdsM (sK M) d t) : Int32) = (0 : Int32)) := h_137
                      refine lv_iload hx hb dX4_reason_140 (lv_at hl 0 rfl) ?_
                      refine lv_if_eq (tgt := 149) hx hb dX4_reason_142 (by decide) (fun h_142 => ?_) (fun h_142 => ?_)
                      · skip
                        have h_142 : (nI 0 : Int32) = (0 : Int32) := h_142
                        refine lv_iconst (v := nI 0) hx hb dX4_reason_149 (by decide) ?_
                        refine lv_iadd hx hb dX4_reason_150 ?_
                        refine xtop (y := nI (k + 0)) (nI_add _ _) ?_
                        refine lv_istore (lv' := [(6, .int (nI (k + 0))), (8, .int (nI 0)), (0, .ref (a 0)), (1, .int (p1)), (2, .int (s1)), (3, .int (t)), (4, .int (i1)), (5, .int (nI c)), (7, .int (nI d))]) hx hb dX4_reason_151 hl (by decide) rfl (fun ls hl => ?_)
                        refine lv_iinc (v := nI (d + 1)) (lv' := [(7, .int (nI (d + 1))), (6, .int (nI (k + 0))), (8, .int (nI 0)), (0, .ref (a 0)), (1, .int (p1)), (2, .int (s1)), (3, .int (t)), (4, .int (i1)), (5, .int (nI c))]) hx hb dX4_reason_153 hl (k := 8) rfl (nI_1 _) (by decide) rfl (fun ls hl => ?_)
                        refine lv_goto (tgt := 64) hx hb dX4_reason_156 (by decide) ?_
                        exact ih64 (k + 0) (d + 1) (by omega) (by omega) hc9 (by rw [cntN, ← hw]; first | (rw [bI_f h_127]; rfl) | (rw [bI_f h_137, Bool.false_and, Bool.and_false]; rfl) | (rw [bI_t h_127, bI_t h_137, show aheadM (sK M) d c = true from (by unfold aheadM; first | (rw [if_pos h_85]; done) | (rw [if_neg h_85, decide_eq_true h_100, decide_eq_true (show d < c by omega)]; rfl))]; rfl) | (rw [show aheadM (sK M) d c = false from (by unfold aheadM; rw [if_neg h_85]; first | (rw [decide_eq_false h_100]; rfl) | (rw [decide_eq_false (show ¬ d < c by omega), Bool.and_false])), Bool.and_false, Bool.and_false]; rfl)) _ _ hP hD hS ls (lv_sub hl [3, 4, 5, 6, 7, 8, 1, 0] rfl)
                      · skip
                        have h_142 : ¬ ((nI 0 : Int32) = (0 : Int32)) := h_142
                        exact absurd h_142 (by decide)
                · skip
                  have h_107 : ¬ ((nI c : Int32) ≤ (nI d : Int32)) := h_107
                  have h_107 : ¬ (c ≤ d) := fun z => h_107 ((nI_leI (by omega) (by omega)).mpr z)
                  refine lv_iconst (v := nI 1) hx hb dX4_reason_110 (by decide) ?_
                  refine lv_goto (tgt := 115) hx hb dX4_reason_111 (by decide) ?_
                  refine lv_istore (lv' := [(8, .int (nI 1)), (0, .ref (a 0)), (1, .int (p1)), (2, .int (s1)), (3, .int (t)), (4, .int (i1)), (5, .int (nI c)), (6, .int (nI k)), (7, .int (nI d))]) hx hb dX4_reason_115 hl (by decide) rfl (fun ls hl => ?_)
                  refine lv_iload hx hb dX4_reason_117 (lv_at hl 7 rfl) ?_
                  refine lv_aload_n hx hb dX4_reason_119 rfl (lv_at hl 1 rfl) ?_
                  refine lv_iload hx hb dX4_reason_120 (lv_at hl 8 rfl) ?_
                  refine lv_iload_n hx hb dX4_reason_122 rfl (lv_at hl 2 rfl) ?_
                  refine lv_iload_n hx hb dX4_reason_123 rfl (lv_at hl 3 rfl) ?_
                  refine xrV (As := [.int (nI d), .int (p1), .int (s1)]) (rest := [.int (nI k)]) hx hb hml hown ht hN kV_X4_65 (r_X4_isOn l D a cI cZ (reasMs M p1 s1 t i1) hO d (by show d < mN (sK M); omega) p1 s1) ⟨by decide, by decide⟩ hP hK rfl rfl rfl rfl hl.1 rfl (Nat.le_of_ble_eq_true rfl) dX4_reason_124 ⟨Nat.zero_le _, Nat.zero_le _⟩ ?_
                  refine lv_if_eq (tgt := 149) hx hb dX4_reason_127 (by decide) (fun h_127 => ?_) (fun h_127 => ?_)
                  · skip
                    have h_127 : (bI (isOnM (sK M) d p1 s1) : Int32) = (0 : Int32) := h_127
                    refine lv_iconst (v := nI 0) hx hb dX4_reason_149 (by decide) ?_
                    refine lv_iadd hx hb dX4_reason_150 ?_
                    refine xtop (y := nI (k + 0)) (nI_add _ _) ?_
                    refine lv_istore (lv' := [(6, .int (nI (k + 0))), (8, .int (nI 1)), (0, .ref (a 0)), (1, .int (p1)), (2, .int (s1)), (3, .int (t)), (4, .int (i1)), (5, .int (nI c)), (7, .int (nI d))]) hx hb dX4_reason_151 hl (by decide) rfl (fun ls hl => ?_)
                    refine lv_iinc (v := nI (d + 1)) (lv' := [(7, .int (nI (d + 1))), (6, .int (nI (k + 0))), (8, .int (nI 1)), (0, .ref (a 0)), (1, .int (p1)), (2, .int (s1)), (3, .int (t)), (4, .int (i1)), (5, .int (nI c))]) hx hb dX4_reason_153 hl (k := 8) rfl (nI_1 _) (by decide) rfl (fun ls hl => ?_)
                    refine lv_goto (tgt := 64) hx hb dX4_reason_156 (by decide) ?_
                    exact ih64 (k + 0) (d + 1) (by omega) (by omega) hc9 (by rw [cntN, ← hw]; first | (rw [bI_f h_127]; rfl) | (rw [bI_f h_137, Bool.false_and, Bool.and_false]; rfl) | (rw [bI_t h_127, bI_t h_137, show aheadM (sK M) d c = true from (by unfold aheadM; first | (rw [if_pos h_85]; done) | (rw [if_neg h_85, decide_eq_true h_100, decide_eq_true (show d < c by omega)]; rfl))]; rfl) | (rw [show aheadM (sK M) d c = false from (by unfold aheadM; rw [if_neg h_85]; first | (rw [decide_eq_false h_100]; rfl) | (rw [decide_eq_false (show ¬ d < c by omega), Bool.and_false])), Bool.and_false, Bool.and_false]; rfl)) _ _ hP hD hS ls (lv_sub hl [3, 4, 5, 6, 7, 8, 1, 0] rfl)
                  · skip
                    have h_127 : ¬ ((bI (isOnM (sK M) d p1 s1) : Int32) = (0 : Int32)) := h_127
                    refine lv_aload_n hx hb dX4_reason_130 rfl (lv_at hl 1 rfl) ?_
                    refine lv_iload hx hb dX4_reason_131 (lv_at hl 8 rfl) ?_
                    refine lv_iload_n hx hb dX4_reason_133 rfl (lv_at hl 4 rfl) ?_
                    refine xrV (As := [.int (nI d), .int (t)]) (rest := [.int (nI k)]) hx hb hml hown ht hN kV_X4_68 (r_X4_holds l D a cI cZ (reasMs M p1 s1 t i1) hO d (by show d < mN (sK M); omega) t) ⟨by decide, by decide⟩ hP hK rfl rfl rfl rfl hl.1 rfl (Nat.le_of_ble_eq_true rfl) dX4_reason_134 ⟨Nat.zero_le _, Nat.zero_le _⟩ ?_
                    refine lv_if_eq (tgt := 149) hx hb dX4_reason_137 (by decide) (fun h_137 => ?_) (fun h_137 => ?_)
                    · skip
                      have h_137 : (bI (holdsM (sK M) d t) : Int32) = (0 : Int32) := h_137
                      refine lv_iconst (v := nI 0) hx hb dX4_reason_149 (by decide) ?_
                      refine lv_iadd hx hb dX4_reason_150 ?_
                      refine xtop (y := nI (k + 0)) (nI_add _ _) ?_
                      refine lv_istore (lv' := [(6, .int (nI (k + 0))), (8, .int (nI 1)), (0, .ref (a 0)), (1, .int (p1)), (2, .int (s1)), (3, .int (t)), (4, .int (i1)), (5, .int (nI c)), (7, .int (nI d))]) hx hb dX4_reason_151 hl (by decide) rfl (fun ls hl => ?_)
                      refine lv_iinc (v := nI (d + 1)) (lv' := [(7, .int (nI (d + 1))), (6, .int (nI (k + 0))), (8, .int (nI 1)), (0, .ref (a 0)), (1, .int (p1)), (2, .int (s1)), (3, .int (t)), (4, .int (i1)), (5, .int (nI c))]) hx hb dX4_reason_153 hl (k := 8) rfl (nI_1 _) (by decide) rfl (fun ls hl => ?_)
                      refine lv_goto (tgt := 64) hx hb dX4_reason_156 (by decide) ?_
                      exact ih64 (k + 0) (d + 1) (by omega) (by omega) hc9 (by rw [cntN, ← hw]; first | (rw [bI_f h_127]; rfl) | (rw [bI_f h_137, Bool.false_and, Bool.and_false]; rfl) | (rw [bI_t h_127, bI_t h_137, show aheadM (sK M) d c = true from (by unfold aheadM; first | (rw [if_pos h_85]; done) | (rw [if_neg h_85, decide_eq_true h_100, decide_eq_true (show d < c by omega)]; rfl))]; rfl) | (rw [show aheadM (sK M) d c = false from (by unfold aheadM; rw [if_neg h_85]; first | (rw [decide_eq_false h_100]; rfl) | (rw [decide_eq_false (show ¬ d < c by omega), Bool.and_false])), Bool.and_false, Bool.and_false]; rfl)) _ _ hP hD hS ls (lv_sub hl [3, 4, 5, 6, 7, 8, 1, 0] rfl)
                    · skip
                      have h_137 : ¬ ((bI (holdsM (sK M) d t) : Int32) = (0 : Int32)) := h_137
                      refine lv_iload hx hb dX4_reason_140 (lv_at hl 0 rfl) ?_
                      refine lv_if_eq (tgt := 149) hx hb dX4_reason_142 (by decide) (fun h_142 => ?_) (fun h_142 => ?_)
                      · skip
                        have h_142 : (nI 1 : Int32) = (0 : Int32) := h_142
                        exact absurd h_142 (by decide)
                      · skip
                        have h_142 : ¬ ((nI 1 : Int32) = (0 : Int32)) := h_142
                        refine lv_iconst (v := nI 1) hx hb dX4_reason_145 (by decide) ?_
                        refine lv_goto (tgt := 150) hx hb dX4_reason_146 (by decide) ?_
                        refine lv_iadd hx hb dX4_reason_150 ?_
                        refine xtop (y := nI (k + 1)) (nI_add _ _) ?_
                        refine lv_istore (lv' := [(6, .int (nI (k + 1))), (8, .int (nI 1)), (0, .ref (a 0)), (1, .int (p1)), (2, .int (s1)), (3, .int (t)), (4, .int (i1)), (5, .int (nI c)), (7, .int (nI d))]) hx hb dX4_reason_151 hl (by decide) rfl (fun ls hl => ?_)
                        refine lv_iinc (v := nI (d + 1)) (lv' := [(7, .int (nI (d + 1))), (6, .int (nI (k + 1))), (8, .int (nI 1)), (0, .ref (a 0)), (1, .int (p1)), (2, .int (s1)), (3, .int (t)), (4, .int (i1)), (5, .int (nI c))]) hx hb dX4_reason_153 hl (k := 8) rfl (nI_1 _) (by decide) rfl (fun ls hl => ?_)
                        refine lv_goto (tgt := 64) hx hb dX4_reason_156 (by decide) ?_
                        exact ih64 (k + 1) (d + 1) (by omega) (by omega) hc9 (by rw [cntN, ← hw]; first | (rw [bI_f h_127]; rfl) | (rw [bI_f h_137, Bool.false_and, Bool.and_false]; rfl) | (rw [bI_t h_127, bI_t h_137, show aheadM (sK M) d c = true from (by unfold aheadM; first | (rw [if_pos h_85]; done) | (rw [if_neg h_85, decide_eq_true h_100, decide_eq_true (show d < c by omega)]; rfl))]; rfl) | (rw [show aheadM (sK M) d c = false from (by unfold aheadM; rw [if_neg h_85]; first | (rw [decide_eq_false h_100]; rfl) | (rw [decide_eq_false (show ¬ d < c by omega), Bool.and_false])), Bool.and_false, Bool.and_false]; rfl)) _ _ hP hD hS ls (lv_sub hl [3, 4, 5, 6, 7, 8, 1, 0] rfl)
      refine lv_iload hx hb dX4_reason_49 (lv_at hl 5 rfl) ?_
      refine lv_aload_n hx hb dX4_reason_51 rfl (lv_at hl 0 rfl) ?_
      refine va_get (D := D) (ci := 4) (v := .int (nI (mN (sK M)))) (C := RX4) (T := TX4) (N := 18) hx hb ht inX4 hown hK hP 0 rfl rfl 2 (by decide) (ht _ wd574) (fun _ h9 => h9) rfl dX4_reason_52 ?_
      refine lv_icmp_ge (tgt := 196) hx hb dX4_reason_55 (by decide) (fun h_55 => ?_) (fun h_55 => ?_)
      · skip
        have h_55 : (nI (mN (sK M)) : Int32) ≤ (nI c : Int32) := h_55
        have h_55 : (mN (sK M)) ≤ c := (nI_leI (by omega) (by omega)).mp h_55
        refine lv_iconst (v := (-1 : Int32)) hx hb dX4_reason_196 (by decide) ?_
        exact xw_iret (v := (-1 : Int32)) hx hb hr hlocks hS hP (by rw [reasMr, if_neg hz0, hv, show mN (sK M) - c = 0 by omega]; rfl) dX4_reason_197
      · skip
        have h_55 : ¬ ((nI (mN (sK M)) : Int32) ≤ (nI c : Int32)) := h_55
        have h_55 : ¬ ((mN (sK M)) ≤ c) := fun z => h_55 ((nI_leI (by omega) (by omega)).mpr z)
        refine lv_iconst (v := nI 0) hx hb dX4_reason_58 (by decide) ?_
        refine lv_istore (lv' := [(6, .int (nI 0)), (0, .ref (a 0)), (1, .int (p1)), (2, .int (s1)), (3, .int (t)), (4, .int (i1)), (5, .int (nI c))]) hx hb dX4_reason_59 hl (by decide) rfl (fun ls hl => ?_)
        refine lv_iconst (v := nI 0) hx hb dX4_reason_61 (by decide) ?_
        refine lv_istore (lv' := [(7, .int (nI 0)), (6, .int (nI 0)), (0, .ref (a 0)), (1, .int (p1)), (2, .int (s1)), (3, .int (t)), (4, .int (i1)), (5, .int (nI c))]) hx hb dX4_reason_62 hl (by decide) rfl (fun ls hl => ?_)
        exact L64 (mN (sK M) + 1) 0 0 (by omega) (by omega) (by omega) rfl _ _ hP hD hS ls (lv_sub hl [2, 3, 4, 5, 6, 7, 1, 0] rfl)
  have J37 : ∀ (H : Heap) (locs : List Loc), va_P D vwCl (wM a cI cZ M) H → va_D (xA (wM a cI cZ M)) (wM a cI cZ M) → va_S (xA (wM a cI cZ M)) s.heap H locs → ∀ ls : Array Slot, lv_has ls 9 [(0, .ref (a 0)), (1, .int (p1)), (2, .int (s1)), (3, .int (t)), (4, .int (i1))] → W p l e (xrm 2 42) s m args below meth cd H locs 0 0 (MQ below (xQw (some (.int (reasMr M p1 s1 t i1))) D (wM a cI cZ M) (wM a cI cZ (reasMs M p1 s1 t i1))) args s 0 0 (xA (wM a cI cZ M))) (F0 m 37 ls [.int (bI (bRe s1 t i1)), .int (bI (bPc p1)), .ref (a 0)]) := by
    intro H locs hP hD hS ls hl
    refine lv_iconst (v := nI 0) hx hb dX4_reason_37 (by decide) ?_
    refine xwV (As := [.int (bI (bPc p1)), .int (bI (bRe s1 t i1)), .int (nI 0)]) (rest := []) (wr := []) (ws2 := (wM a cI cZ (reasMs M p1 s1 t i1))) hx hb hml hown ht hN kV_X4_94 (r_X4_throwing l D a cI cZ M (bPc p1) (bRe s1 t i1) (false)) ⟨by decide, by decide⟩ hP hD hS hK [0, 1, 2, 3, 4, 5, 6, 7, 8, 9, 10, 11, 12, 13, 14] [] [0, 1, 2, 3, 4, 5, 6, 7, 8, 9, 10, 11, 12, 13, 14] rfl rfl (by decide) (by decide) (by decide) rfl rfl (by decide) rfl rfl rfl rfl hl.1 rfl (Nat.le_of_ble_eq_true rfl) dX4_reason_38 ⟨Nat.zero_le _, Nat.zero_le _⟩ (fun H locs hP hD hS => ?_)
    refine lv_if_eq (tgt := 46) hx hb dX4_reason_41 (by decide) (fun h_41 => ?_) (fun h_41 => ?_)
    · skip
      have h_41 : (bI (bPc p1 || bRe s1 t i1 || false) : Int32) = (0 : Int32) := h_41
      have hz0 : ¬ (bPc p1 || bRe s1 t i1 || false) = true := by rw [bI_f h_41]; decide
      refine lv_iconst (v := nI 0) hx hb dX4_reason_46 (by decide) ?_
      refine lv_istore (lv' := [(5, .int (nI 0)), (0, .ref (a 0)), (1, .int (p1)), (2, .int (s1)), (3, .int (t)), (4, .int (i1))]) hx hb dX4_reason_47 hl (by decide) rfl (fun ls hl => ?_)
      exact L49 (mN (sK M) + 1) 0 (by omega) (by omega) hz0 rfl _ _ hP hD hS ls (lv_sub hl [1, 2, 3, 4, 5, 0] rfl)
    · skip
      have h_41 : ¬ ((bI (bPc p1 || bRe s1 t i1 || false) : Int32) = (0 : Int32)) := h_41
      refine lv_iconst (v := nI 0) hx hb dX4_reason_44 (by decide) ?_
      exact xw_iret (v := nI 0) hx hb hr hlocks hS hP (by rw [reasMr, if_pos (bI_t h_41)]) dX4_reason_45
  have J13 : ∀ (H : Heap) (locs : List Loc), va_P D vwCl (wM a cI cZ M) H → va_D (xA (wM a cI cZ M)) (wM a cI cZ M) → va_S (xA (wM a cI cZ M)) s.heap H locs → ∀ ls : Array Slot, lv_has ls 9 [(0, .ref (a 0)), (1, .int (p1)), (2, .int (s1)), (3, .int (t)), (4, .int (i1))] → W p l e (xrm 2 42) s m args below meth cd H locs 0 0 (MQ below (xQw (some (.int (reasMr M p1 s1 t i1))) D (wM a cI cZ M) (wM a cI cZ (reasMs M p1 s1 t i1))) args s 0 0 (xA (wM a cI cZ M))) (F0 m 13 ls [.int (bI (bPc p1)), .ref (a 0)]) := by
    intro H locs hP hD hS ls hl
    refine lv_iload_n hx hb dX4_reason_13 rfl (lv_at hl 2 rfl) ?_
    refine xrS (As := [.int (s1)]) (rest := [.int (bI (bPc p1)), .ref (a 0)]) hx hb hml hown ht hN kS_X4_104 (r_X4_isSide l D s1) ⟨by decide, by decide⟩ (fun k q h => by simp at h) (hK.sub (tys' := []) [] rfl) rfl hl.1 rfl (Nat.le_of_ble_eq_true rfl) dX4_reason_14 ⟨Nat.zero_le _, Nat.zero_le _⟩ ?_
    refine lv_if_eq (tgt := 32) hx hb dX4_reason_17 (by decide) (fun h_17 => ?_) (fun h_17 => ?_)
    · skip
      have h_17 : (bI (inI s1 (nI 1) (nI 2)) : Int32) = (0 : Int32) := h_17
      refine lv_iconst (v := nI 1) hx hb dX4_reason_32 (by decide) ?_
      refine lv_goto (tgt := 37) hx hb dX4_reason_33 (by decide) ?_
      refine xtop (y := bI (bRe s1 t i1)) (bI_1 (by unfold bRe; first | (rw [bI_f h_17]; rfl) | (rw [bI_f h_24, Bool.not_false, Bool.true_or, Bool.or_true]) | (rw [decide_eq_true (Int32.not_le.mp h_29), Bool.or_true, Bool.or_true]))) ?_
      exact J37 _ _ hP hD hS ls (lv_sub hl [0, 1, 2, 3, 4] rfl)
    · skip
      have h_17 : ¬ ((bI (inI s1 (nI 1) (nI 2)) : Int32) = (0 : Int32)) := h_17
      refine lv_iload_n hx hb dX4_reason_20 rfl (lv_at hl 3 rfl) ?_
      refine xrS (As := [.int (t)]) (rest := [.int (bI (bPc p1)), .ref (a 0)]) hx hb hml hown ht hN kS_X4_88 (r_X4_isMinute l D t) ⟨by decide, by decide⟩ (fun k q h => by simp at h) (hK.sub (tys' := []) [] rfl) rfl hl.1 rfl (Nat.le_of_ble_eq_true rfl) dX4_reason_21 ⟨Nat.zero_le _, Nat.zero_le _⟩ ?_
      refine lv_if_eq (tgt := 32) hx hb dX4_reason_24 (by decide) (fun h_24 => ?_) (fun h_24 => ?_)
      · skip
        have h_24 : (bI (inI t (nI 0) (nI 99999)) : Int32) = (0 : Int32) := h_24
        refine lv_iconst (v := nI 1) hx hb dX4_reason_32 (by decide) ?_
        refine lv_goto (tgt := 37) hx hb dX4_reason_33 (by decide) ?_
        refine xtop (y := bI (bRe s1 t i1)) (bI_1 (by unfold bRe; first | (rw [bI_f h_17]; rfl) | (rw [bI_f h_24, Bool.not_false, Bool.true_or, Bool.or_true]) | (rw [decide_eq_true (Int32.not_le.mp h_29), Bool.or_true, Bool.or_true]))) ?_
        exact J37 _ _ hP hD hS ls (lv_sub hl [0, 1, 2, 3, 4] rfl)
      · skip
        have h_24 : ¬ ((bI (inI t (nI 0) (nI 99999)) : Int32) = (0 : Int32)) := h_24
        refine lv_iload hx hb dX4_reason_27 (lv_at hl 4 rfl) ?_
        refine lv_if_ge (tgt := 36) hx hb dX4_reason_29 (by decide) (fun h_29 => ?_) (fun h_29 => ?_)
        · skip
          have h_29 : (0 : Int32) ≤ (i1 : Int32) := h_29
          refine lv_iconst (v := nI 0) hx hb dX4_reason_36 (by decide) ?_
          refine xtop (y := bI (bRe s1 t i1)) (bI_0 (by unfold bRe; rw [bI_t h_17, bI_t h_24, decide_eq_false (Int32.not_lt.mpr h_29)]; rfl)) ?_
          exact J37 _ _ hP hD hS ls (lv_sub hl [0, 1, 2, 3, 4] rfl)
        · skip
          have h_29 : ¬ ((0 : Int32) ≤ (i1 : Int32)) := h_29
          refine lv_iconst (v := nI 1) hx hb dX4_reason_32 (by decide) ?_
          refine lv_goto (tgt := 37) hx hb dX4_reason_33 (by decide) ?_
          refine xtop (y := bI (bRe s1 t i1)) (bI_1 (by unfold bRe; first | (rw [bI_f h_17]; rfl) | (rw [bI_f h_24, Bool.not_false, Bool.true_or, Bool.or_true]) | (rw [decide_eq_true (Int32.not_le.mp h_29), Bool.or_true, Bool.or_true]))) ?_
          exact J37 _ _ hP hD hS ls (lv_sub hl [0, 1, 2, 3, 4] rfl)
  refine lv_aload_n hx hb dX4_reason_0 rfl (lv_at hl 0 rfl) ?_
  refine lv_iload_n hx hb dX4_reason_1 rfl (lv_at hl 1 rfl) ?_
  refine xrS (As := [.int (p1)]) (rest := [.ref (a 0)]) hx hb hml hown ht hN kS_X4_84 (r_X4_isPiece l D p1) ⟨by decide, by decide⟩ (fun k q h => by simp at h) (hK.sub (tys' := []) [] rfl) rfl hl.1 rfl (Nat.le_of_ble_eq_true rfl) dX4_reason_2 ⟨Nat.zero_le _, Nat.zero_le _⟩ ?_
  refine lv_if_ne (tgt := 12) hx hb dX4_reason_5 (by decide) (fun h_5 => ?_) (fun h_5 => ?_)
  · skip
    have h_5 : ¬ ((bI (inI p1 (nI 0) (nI 59)) : Int32) = (0 : Int32)) := h_5
    refine lv_iconst (v := nI 0) hx hb dX4_reason_12 (by decide) ?_
    refine xtop (y := bI (bPc p1)) (bI_0 (by unfold bPc; rw [bI_t h_5]; rfl)) ?_
    exact J13 _ _ hP hD hS ls (lv_sub hl [0, 1, 2, 3, 4] rfl)
  · skip
    have h_5 : (bI (inI p1 (nI 0) (nI 59)) : Int32) = (0 : Int32) := h_5
    refine lv_iconst (v := nI 1) hx hb dX4_reason_8 (by decide) ?_
    refine lv_goto (tgt := 13) hx hb dX4_reason_9 (by decide) ?_
    refine xtop (y := bI (bPc p1)) (bI_1 (by unfold bPc; rw [bI_f h_5]; rfl)) ?_
    exact J13 _ _ hP hD hS ls (lv_sub hl [0, 1, 2, 3, 4] rfl)
set_option maxHeartbeats 4000000 in
set_option maxRecDepth 100000 in
theorem r_X4_clock (l : Launch) (D : va_G) (a : Nat → Nat) (cI cZ : ClassId) (M : MS) : xWR l yX4_clock cX4_clock 1 (some .int) (xrm 0 0) [.ref (a 0)] D (wM a cI cZ M) (tyL cI cZ) (some (.int (nI (sC M)))) (wM a cI cZ (setE M (nI 0))) := by
  refine xWR.of (by decide +kernel) (Nat.le_of_ble_eq_true rfl) ?_
  intro p e s m args below meth cd hx hb hr hml hown hlocks ht hN hP hK hD hS ls hl
  have hl : lv_has ls 1 [(0, .ref (a 0))] := hl
  have hown : s.vm.findClass RX4 = some m.cls := hown
  refine lv_aload_n hx hb dX4_clock_0 rfl (lv_at hl 0 rfl) ?_
  refine lv_iconst (v := nI 0) hx hb dX4_clock_1 (by decide) ?_
  refine va_put (D := D) (ci := 4) (v := .int (nI 0)) (ty := .int) (C := RX4) (T := TX4) (N := 18) hx hb ht inX4 tyX4 tyX4_ok nmX4 hown hK hP hD hS 0 rfl rfl 0 (by decide) (ht _ wd572) (fun _ h9 => h9) rfl (by decide +kernel) rfl rfl (Nat.le_of_ble_eq_true rfl) dX4_clock_2 (fun H locs hP hD hS => ?_)
  have hP : va_P D vwCl [(a 0, .inr (4, [.int (nI 0), .int (nI (sC M)), .int (nI (mN (sK M))), .ref (a 1), .ref (a 2), .ref (a 3), .ref (a 4), .ref (a 5), .ref (a 6), .ref (a 7), .ref (a 8), .ref (a 9), .ref (a 10), .ref (a 11), .ref (a 12), .ref (a 13), .int (nI (nT (sN M))), .ref (a 14)])), (a 1, .inl (cI, 100, .inl (mKd (sK M)))), (a 2, .inl (cI, 100, .inl (mPc (sK M)))), (a 3, .inl (cI, 100, .inl (mSd (sK M)))), (a 4, .inl (cI, 100, .inl (mFr (sK M)))), (a 5, .inl (cI, 100, .inl (mTo (sK M)))), (a 6, .inl (cI, 100, .inl (mNu (sK M)))), (a 7, .inl (cI, 100, .inl (mAn (sK M)))), (a 8, .inl (cI, 100, .inl (mLi (sK M)))), (a 9, .inl (cI, 100, .inl (mWd (sK M)))), (a 10, .inl (cZ, 20, .inl (mOp (sK M)))), (a 11, .inl (cI, 10, .inl (nF (rL (sR M))))), (a 12, .inl (cI, 120, .inl (nF (rP (sR M))))), (a 13, .inl (cZ, 120, .inl (bF (sW M)))), (a 14, .inl (cI, 500, .inl (nRw (sN M))))] H := hP
  have hD : va_D (xA (wM a cI cZ M)) [(a 0, .inr (4, [.int (nI 0), .int (nI (sC M)), .int (nI (mN (sK M))), .ref (a 1), .ref (a 2), .ref (a 3), .ref (a 4), .ref (a 5), .ref (a 6), .ref (a 7), .ref (a 8), .ref (a 9), .ref (a 10), .ref (a 11), .ref (a 12), .ref (a 13), .int (nI (nT (sN M))), .ref (a 14)])), (a 1, .inl (cI, 100, .inl (mKd (sK M)))), (a 2, .inl (cI, 100, .inl (mPc (sK M)))), (a 3, .inl (cI, 100, .inl (mSd (sK M)))), (a 4, .inl (cI, 100, .inl (mFr (sK M)))), (a 5, .inl (cI, 100, .inl (mTo (sK M)))), (a 6, .inl (cI, 100, .inl (mNu (sK M)))), (a 7, .inl (cI, 100, .inl (mAn (sK M)))), (a 8, .inl (cI, 100, .inl (mLi (sK M)))), (a 9, .inl (cI, 100, .inl (mWd (sK M)))), (a 10, .inl (cZ, 20, .inl (mOp (sK M)))), (a 11, .inl (cI, 10, .inl (nF (rL (sR M))))), (a 12, .inl (cI, 120, .inl (nF (rP (sR M))))), (a 13, .inl (cZ, 120, .inl (bF (sW M)))), (a 14, .inl (cI, 500, .inl (nRw (sN M))))] := hD
  refine lv_aload_n hx hb dX4_clock_5 rfl (lv_at hl 0 rfl) ?_
  refine va_get (D := D) (ci := 4) (v := .int (nI (sC M))) (C := RX4) (T := TX4) (N := 18) hx hb ht inX4 hown hK hP 0 rfl rfl 1 (by decide) (ht _ wd573) (fun _ h9 => h9) rfl dX4_clock_6 ?_
  exact xw_iret (v := nI (sC M)) hx hb hr hlocks hS hP (rfl) dX4_clock_9
