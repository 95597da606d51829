theorem kV_X3_194 : xcV RX3 RX3 194 yX3_tellUnits cX3_tellUnits 3 none 1 := ⟨wd315, wd312, wd314, wd5, wd21, rfl, ⟨by decide +kernel, by decide +kernel, by decide +kernel⟩⟩
theorem kV_X3_190 : xcV RX3 RX0 190 yX0_markClosed cX0_markClosed 4 none 2 := ⟨wd294, wd291, wd292, wd293, wd22, rfl, ⟨by decide +kernel, by decide +kernel, by decide +kernel⟩⟩
set_option maxHeartbeats 4000000 in
set_option maxRecDepth 100000 in
theorem r_X3_tellChanges (l : Launch) (D : va_G) (a : Nat → Nat) (cI cZ : ClassId) (C : CS) (hO : kOk (cK C)) (hR : rOk (cR C)) (hT : nT (cN C) + 1200 < 2 ^ 31) : xWR l yX3_tellChanges cX3_tellChanges 2 none (xrm 4 89) [.ref (a 17)] D (wC a cI cZ C) (tyL cI cZ) none (wC a cI cZ (tellC C)) := by
  refine xWR.of (by decide +kernel) (Nat.le_of_ble_eq_true rfl) ?_
  intro p e s m args below meth cd hx hb hr hml hown hlocks ht hN hP hK hD hS ls hl
  have hl : lv_has ls 2 [(0, .ref (a 17))] := hl
  have hown : s.vm.findClass RX3 = some m.cls := hown
  have L17 : ∀ (n : Nat) (i : Nat), 120 < i + n → i ≤ 120 → ∀ (H : Heap) (locs : List Loc), va_P D vwCl (wC a cI cZ (tellCi C i)) H → va_D (xA (wC a cI cZ C)) (wC a cI cZ (tellCi C i)) → va_S (xA (wC a cI cZ C)) s.heap H locs → ∀ ls : Array Slot, lv_has ls 2 [(0, .ref (a 17)), (1, .int (nI i))] → W p l e (xrm 4 89) s m args below meth cd H locs 0 0 (MQ below (xQw none D (wC a cI cZ C) (wC a cI cZ (tellC C))) args s 0 0 (xA (wC a cI cZ C))) (F0 m 17 ls []) := by
    intro n
    induction n with
    | zero =>
      intro i hfuel hi
      exact absurd hfuel (by omega)
    | succ n ih17 =>
      intro i hfuel hi H locs hP hD hS ls hl
      have hle := (lookN_le (cR C) (cW C) (clB (cK C) (cT C)) (nI (cT C)) (cN C) i).2
      refine lv_iload_n hx hb dX3_tellChanges_17 rfl (lv_at hl 1 rfl) ?_
      refine lv_bipush (v := nI 120) hx hb dX3_tellChanges_18 (by decide) ?_
      refine lv_icmp_ge (tgt := 61) hx hb dX3_tellChanges_20 (by decide) (fun h_20 => ?_) (fun h_20 => ?_)
      · skip
        have h_20 : 120 ≤ i := (nI_leI (by omega) (by omega)).mp h_20
        exact xw_vret hx hb hr hlocks hS (by rw [show i = 120 by omega] at hP; exact hP) dX3_tellChanges_61
      · skip
        have h_20 : ¬ (120 ≤ i) := fun z => h_20 ((nI_leI (by omega) (by omega)).mpr z)
        refine lv_aload_n hx hb dX3_tellChanges_23 rfl (lv_at hl 0 rfl) ?_
        refine va_get (D := D) (ci := 3) (v := .ref (a 15)) (C := RX3) (T := TX3) (N := 6) hx hb ht inX3 hown hK hP 0 rfl rfl 3 (by decide) (ht _ wd110) (fun _ h9 => h9) rfl dX3_tellChanges_24 ?_
        refine lv_iload_n hx hb dX3_tellChanges_27 rfl (lv_at hl 1 rfl) ?_
        refine xa_zald hx hb hK hP 16 1 (i := i) rfl rfl (by omega) (by decide) dX3_tellChanges_28 ?_
        refine lv_aload_n hx hb dX3_tellChanges_29 rfl (lv_at hl 0 rfl) ?_
        refine va_get (D := D) (ci := 3) (v := .ref (a 16)) (C := RX3) (T := TX3) (N := 6) hx hb ht inX3 hown hK hP 0 rfl rfl 4 (by decide) (ht _ wd111) (fun _ h9 => h9) rfl dX3_tellChanges_30 ?_
        refine lv_iload_n hx hb dX3_tellChanges_33 rfl (lv_at hl 1 rfl) ?_
        refine xa_zald hx hb hK hP 17 1 (i := i) rfl rfl (by omega) (by decide) dX3_tellChanges_34 ?_
        refine lv_icmp_eq (tgt := 55) hx hb dX3_tellChanges_35 (by decide) (fun h_35 => ?_) (fun h_35 => ?_)
        · skip
          refine lv_iinc (v := nI (i + 1)) (lv' := [(1, .int (nI (i + 1))), (0, .ref (a 17))]) hx hb dX3_tellChanges_55 hl (k := 1) rfl (nI_1 _) (by decide) rfl (fun ls hl => ?_)
          refine lv_goto (tgt := 17) hx hb dX3_tellChanges_58 (by decide) ?_
          exact ih17 (i + 1) (by omega) (by omega) _ _ (by first | (rw [tellCi_e h_35] at hP; exact hP) | (rw [tellCi_n h_35] at hP; exact hP)) (xD_addr hD rfl) hS ls (lv_sub hl [1, 0] rfl)
        · skip
          refine lv_aload_n hx hb dX3_tellChanges_38 rfl (lv_at hl 0 rfl) ?_
          refine va_get (D := D) (ci := 3) (v := .ref (a 15)) (C := RX3) (T := TX3) (N := 6) hx hb ht inX3 hown hK hP 0 rfl rfl 3 (by decide) (ht _ wd110) (fun _ h9 => h9) rfl dX3_tellChanges_39 ?_
          refine lv_iload_n hx hb dX3_tellChanges_42 rfl (lv_at hl 1 rfl) ?_
          refine lv_aload_n hx hb dX3_tellChanges_43 rfl (lv_at hl 0 rfl) ?_
          refine va_get (D := D) (ci := 3) (v := .ref (a 16)) (C := RX3) (T := TX3) (N := 6) hx hb ht inX3 hown hK hP 0 rfl rfl 4 (by decide) (ht _ wd111) (fun _ h9 => h9) rfl dX3_tellChanges_44 ?_
          refine lv_iload_n hx hb dX3_tellChanges_47 rfl (lv_at hl 1 rfl) ?_
          refine xa_zald hx hb hK hP 17 1 (i := i) rfl rfl (by omega) (by decide) dX3_tellChanges_48 ?_
          refine xa_zast hx hb hK hP hD hS 16 1 (i := i) (x := bI (cM (tellCi C i) i)) rfl rfl (by omega) (by decide) (by first | rfl | exact bI_vp _) dX3_tellChanges_49 (fun H locs hP hD hS => ?_)
          have hP : va_P D vwCl [(a 17, .inr (3, [.ref (a 0), .ref (a 10), .ref (a 13), .ref (a 15), .ref (a 16), .int (nI (cT (tellCi C i)))])), (a 0, .inr (0, [.ref (a 1), .ref (a 2), .ref (a 3), .ref (a 4), .ref (a 5), .ref (a 6), .ref (a 7), .ref (a 8), .ref (a 9), .int (nI (kN (cK (tellCi C i))))])), (a 1, .inl (cI, 100, .inl (kKd (cK (tellCi C i))))), (a 2, .inl (cI, 100, .inl (kPc (cK (tellCi C i))))), (a 3, .inl (cI, 100, .inl (kSd (cK (tellCi C i))))), (a 4, .inl (cI, 100, .inl (kSt (cK (tellCi C i))))), (a 5, .inl (cI, 100, .inl (kEn (cK (tellCi C i))))), (a 6, .inl (cI, 100, .inl (kXs (cK (tellCi C i))))), (a 7, .inl (cI, 100, .inl (kAn (cK (tellCi C i))))), (a 8, .inl (cI, 100, .inl (kWd (cK (tellCi C i))))), (a 9, .inl (cZ, 20, .inl (kIc (cK (tellCi C i))))), (a 10, .inr (2, [.ref (a 11), .ref (a 12)])), (a 11, .inl (cI, 120, .inl (nF (rP (cR (tellCi C i)))))), (a 12, .inl (cI, 10, .inl (nF (rL (cR (tellCi C i)))))), (a 13, .inr (1, [.ref (a 14), .int (nI (nT (cN (tellCi C i))))])), (a 14, .inl (cI, 500, .inl (nRw (cN (tellCi C i))))), (a 15, .inl (cZ, 120, .inl (upd (bF (cW (tellCi C i))) i (bI (cM (tellCi C i) i))))), (a 16, .inl (cZ, 120, .inl (bF (cM (tellCi C i)))))] H := hP
          have hD : va_D (xA (wC a cI cZ C)) [(a 17, .inr (3, [.ref (a 0), .ref (a 10), .ref (a 13), .ref (a 15), .ref (a 16), .int (nI (cT (tellCi C i)))])), (a 0, .inr (0, [.ref (a 1), .ref (a 2), .ref (a 3), .ref (a 4), .ref (a 5), .ref (a 6), .ref (a 7), .ref (a 8), .ref (a 9), .int (nI (kN (cK (tellCi C i))))])), (a 1, .inl (cI, 100, .inl (kKd (cK (tellCi C i))))), (a 2, .inl (cI, 100, .inl (kPc (cK (tellCi C i))))), (a 3, .inl (cI, 100, .inl (kSd (cK (tellCi C i))))), (a 4, .inl (cI, 100, .inl (kSt (cK (tellCi C i))))), (a 5, .inl (cI, 100, .inl (kEn (cK (tellCi C i))))), (a 6, .inl (cI, 100, .inl (kXs (cK (tellCi C i))))), (a 7, .inl (cI, 100, .inl (kAn (cK (tellCi C i))))), (a 8, .inl (cI, 100, .inl (kWd (cK (tellCi C i))))), (a 9, .inl (cZ, 20, .inl (kIc (cK (tellCi C i))))), (a 10, .inr (2, [.ref (a 11), .ref (a 12)])), (a 11, .inl (cI, 120, .inl (nF (rP (cR (tellCi C i)))))), (a 12, .inl (cI, 10, .inl (nF (rL (cR (tellCi C i)))))), (a 13, .inr (1, [.ref (a 14), .int (nI (nT (cN (tellCi C i))))])), (a 14, .inl (cI, 500, .inl (nRw (cN (tellCi C i))))), (a 15, .inl (cZ, 120, .inl (upd (bF (cW (tellCi C i))) i (bI (cM (tellCi C i) i))))), (a 16, .inl (cZ, 120, .inl (bF (cM (tellCi C i)))))] := hD
          rw [bF_upd] at hP
          replace hD := xD_addr (w2 := (wC a cI cZ (tellCb C i))) hD rfl
          have hP : va_P D vwCl (wC a cI cZ (tellCb C i)) H := hP
          have hD : va_D (xA (wC a cI cZ C)) (wC a cI cZ (tellCb C i)) := hD
          refine lv_aload_n hx hb dX3_tellChanges_50 rfl (lv_at hl 0 rfl) ?_
          refine lv_iload_n hx hb dX3_tellChanges_51 rfl (lv_at hl 1 rfl) ?_
          refine xwV (As := [.int (nI i)]) (rest := []) (wr := []) (ws2 := (wC a cI cZ (setCN (tellCb C i) (tellN (cR (tellCb C i)) i (cM (tellCb C i) i) (nI (cT (tellCb C i))) (cN (tellCb C i)) 10)))) hx hb hml hown ht hN kV_X3_194 (r_X3_tellUnits l D a cI cZ (tellCb C i) hR i (by omega) (by show nT (lookN (cR C) (cW C) (clB (cK C) (cT C)) (nI (cT C)) (cN C) i) + 10 < 2 ^ 31; omega)) ⟨by decide, by decide⟩ hP hD hS hK [0, 1, 2, 3, 4, 5, 6, 7, 8, 9, 10, 11, 12, 13, 14, 15, 16, 17] [] [0, 1, 2, 3, 4, 5, 6, 7, 8, 9, 10, 11, 12, 13, 14, 15, 16, 17] rfl rfl (by decide) (by decide) (by decide) rfl rfl (by decide) rfl rfl rfl rfl hl.1 rfl (Nat.le_of_ble_eq_true rfl) dX3_tellChanges_52 ⟨Nat.zero_le _, Nat.zero_le _⟩ (fun H locs hP hD hS => ?_)
          refine lv_iinc (v := nI (i + 1)) (lv' := [(1, .int (nI (i + 1))), (0, .ref (a 17))]) hx hb dX3_tellChanges_55 hl (k := 1) rfl (nI_1 _) (by decide) rfl (fun ls hl => ?_)
          refine lv_goto (tgt := 17) hx hb dX3_tellChanges_58 (by decide) ?_
          exact ih17 (i + 1) (by omega) (by omega) _ _ (by first | (rw [tellCi_e h_35] at hP; exact hP) | (rw [tellCi_n h_35] at hP; exact hP)) (xD_addr hD rfl) hS ls (lv_sub hl [1, 0] rfl)
  refine lv_aload_n hx hb dX3_tellChanges_0 rfl (lv_at hl 0 rfl) ?_
  refine va_get (D := D) (ci := 3) (v := .ref (a 0)) (C := RX3) (T := TX3) (N := 6) hx hb ht inX3 hown hK hP 0 rfl rfl 0 (by decide) (ht _ wd107) (fun _ h9 => h9) rfl dX3_tellChanges_1 ?_
  refine lv_aload_n hx hb dX3_tellChanges_4 rfl (lv_at hl 0 rfl) ?_
  refine va_get (D := D) (ci := 3) (v := .ref (a 16)) (C := RX3) (T := TX3) (N := 6) hx hb ht inX3 hown hK hP 0 rfl rfl 4 (by decide) (ht _ wd111) (fun _ h9 => h9) rfl dX3_tellChanges_5 ?_
  refine lv_aload_n hx hb dX3_tellChanges_8 rfl (lv_at hl 0 rfl) ?_
  refine va_get (D := D) (ci := 3) (v := .int (nI (cT C))) (C := RX3) (T := TX3) (N := 6) hx hb ht inX3 hown hK hP 0 rfl rfl 5 (by decide) (ht _ wd112) (fun _ h9 => h9) rfl dX3_tellChanges_9 ?_
  refine xwV (As := [.ref (a 16), .int (nI (cT C))]) (rest := []) (wr := [(a 17, .inr (3, [.ref (a 0), .ref (a 10), .ref (a 13), .ref (a 15), .ref (a 16), .int (nI (cT C))])), (a 10, .inr (2, [.ref (a 11), .ref (a 12)])), (a 11, .inl (cI, 120, .inl (nF (rP (cR C))))), (a 12, .inl (cI, 10, .inl (nF (rL (cR C))))), (a 13, .inr (1, [.ref (a 14), .int (nI (nT (cN C)))])), (a 14, .inl (cI, 500, .inl (nRw (cN C)))), (a 15, .inl (cZ, 120, .inl (bF (cW C))))]) (ws2 := (wC a cI cZ (setCM C (clB (cK C) (cT C))))) hx hb hml hown ht hN kV_X3_190 (r_X0_markClosed l D a cI cZ (cK C) hO (a 16) (bF (cM C)) (nI (cT C))) ⟨by decide, by decide⟩ hP hD hS hK [1, 2, 3, 4, 5, 6, 7, 8, 9, 10, 17] [0, 11, 12, 13, 14, 15, 16] [0, 7, 8, 9, 10, 11, 12, 13, 14, 15, 16, 1, 2, 3, 4, 5, 6, 17] rfl rfl (by decide) (by decide) (by decide) rfl rfl (by decide) rfl rfl rfl rfl hl.1 rfl (Nat.le_of_ble_eq_true rfl) dX3_tellChanges_12 ⟨Nat.zero_le _, Nat.zero_le _⟩ (fun H locs hP hD hS => ?_)
  refine lv_iconst (v := nI 0) hx hb dX3_tellChanges_15 (by decide) ?_
  refine lv_istore_n (lv' := [(1, .int (nI 0)), (0, .ref (a 17))]) hx hb dX3_tellChanges_16 rfl hl (by decide) rfl (fun ls hl => ?_)
  exact L17 121 0 (by omega) (by omega) _ _ hP (xD_addr hD rfl) hS ls (lv_sub hl [1, 0] rfl)
