theorem kV_X3_197 : xcV RX3 RX2 197 yX2_leadsOver cX2_leadsOver 4 (some .boolean) 2 := ⟨wd319, wd316, wd317, wd318, wd23, rfl, ⟨by decide +kernel, by decide +kernel, by decide +kernel⟩⟩
theorem kV_X3_200 : xcV RX3 RX1 200 yX1_add cX1_add 6 none 4 := ⟨wd327, wd324, wd325, wd326, wd24, rfl, ⟨by decide +kernel, by decide +kernel, by decide +kernel⟩⟩
set_option maxHeartbeats 4000000 in
set_option maxRecDepth 100000 in
theorem r_X3_tellUnits (l : Launch) (D : va_G) (a : Nat → Nat) (cI cZ : ClassId) (C : CS) (hR : rOk (cR C)) (pl : Nat) (hp : pl < 120) (hT : nT (cN C) + 10 < 2 ^ 31) : xWR l yX3_tellUnits cX3_tellUnits 3 none (xrm 3 67) [.ref (a 17), .int (nI pl)] D (wC a cI cZ C) (tyL cI cZ) none (wC a cI cZ (setCN C (tellN (cR C) pl (cM C pl) (nI (cT C)) (cN C) 10))) := by
  refine xWR.of (by decide +kernel) (Nat.le_of_ble_eq_true rfl) ?_
  intro p e s m args below meth cd hx hb hr hml hown hlocks ht hN hP hK hD hS ls hl
  have hl : lv_has ls 3 [(0, .ref (a 17)), (1, .int (nI pl))] := hl
  have hown : s.vm.findClass RX3 = some m.cls := hown
  have L2 : ∀ (n : Nat) (u : Nat), 10 < u + n → u ≤ 10 → ∀ (H : Heap) (locs : List Loc), va_P D vwCl (wC a cI cZ (setCN C (tellN (cR C) pl (cM C pl) (nI (cT C)) (cN C) u))) H → va_D (xA (wC a cI cZ C)) (wC a cI cZ (setCN C (tellN (cR C) pl (cM C pl) (nI (cT C)) (cN C) u))) → va_S (xA (wC a cI cZ C)) s.heap H locs → ∀ ls : Array Slot, lv_has ls 3 [(0, .ref (a 17)), (1, .int (nI pl)), (2, .int (nI u))] → W p l e (xrm 3 67) s m args below meth cd H locs 0 0 (MQ below (xQw none D (wC a cI cZ C) (wC a cI cZ (setCN C (tellN (cR C) pl (cM C pl) (nI (cT C)) (cN C) 10)))) args s 0 0 (xA (wC a cI cZ C))) (F0 m 2 ls []) := by
    intro n
    induction n with
    | zero =>
      intro u hfuel hi
      exact absurd hfuel (by omega)
    | succ n ih2 =>
      intro u hfuel hi H locs hP hD hS ls hl
      have hle := (tellN_le (cR C) pl (cM C pl) (nI (cT C)) (cN C) u).2
      refine lv_iload_n hx hb dX3_tellUnits_2 rfl (lv_at hl 2 rfl) ?_
      refine lv_bipush (v := nI 10) hx hb dX3_tellUnits_3 (by decide) ?_
      refine lv_icmp_ge (tgt := 45) hx hb dX3_tellUnits_5 (by decide) (fun h_5 => ?_) (fun h_5 => ?_)
      · skip
        have h_5 : 10 ≤ u := (nI_leI (by omega) (by omega)).mp h_5
        exact xw_vret hx hb hr hlocks hS (by rw [show u = 10 by omega] at hP; exact hP) dX3_tellUnits_45
      · skip
        have h_5 : ¬ (10 ≤ u) := fun z => h_5 ((nI_leI (by omega) (by omega)).mpr z)
        refine lv_aload_n hx hb dX3_tellUnits_8 rfl (lv_at hl 0 rfl) ?_
        refine va_get (D := D) (ci := 3) (v := .ref (a 10)) (C := RX3) (T := TX3) (N := 6) hx hb ht inX3 hown hK hP 0 rfl rfl 1 (by decide) (ht _ wd108) (fun _ h9 => h9) rfl dX3_tellUnits_9 ?_
        refine lv_iload_n hx hb dX3_tellUnits_12 rfl (lv_at hl 2 rfl) ?_
        refine lv_iload_n hx hb dX3_tellUnits_13 rfl (lv_at hl 1 rfl) ?_
        refine xrV (As := [.int (nI u), .int (nI pl)]) (rest := []) hx hb hml hown ht hN kV_X3_197 (r_X2_leadsOver l D (fun i => a (10 + i)) cI cZ (cR C) hR u (by omega) pl hp) ⟨by decide, by decide⟩ (hP.sub (ws' := (wR (fun i => a (10 + i)) cI (cR C))) [11, 12, 13] rfl) hK rfl rfl rfl rfl hl.1 rfl (Nat.le_of_ble_eq_true rfl) dX3_tellUnits_14 ⟨Nat.zero_le _, Nat.zero_le _⟩ ?_
        refine lv_if_eq (tgt := 39) hx hb dX3_tellUnits_17 (by decide) (fun h_17 => ?_) (fun h_17 => ?_)
        · skip
          refine lv_iinc (v := nI (u + 1)) (lv' := [(2, .int (nI (u + 1))), (0, .ref (a 17)), (1, .int (nI pl))]) hx hb dX3_tellUnits_39 hl (k := 2) rfl (nI_1 _) (by decide) rfl (fun ls hl => ?_)
          refine lv_goto (tgt := 2) hx hb dX3_tellUnits_42 (by decide) ?_
          exact ih2 (u + 1) (by omega) (by omega) _ _ (by rw [tellN]; first | (rw [if_pos (bI_t h_17)]; exact hP) | (rw [if_neg (by rw [bI_f h_17]; decide)]; exact hP)) (xD_addr hD rfl) hS ls (lv_sub hl [1, 2, 0] rfl)
        · skip
          refine lv_aload_n hx hb dX3_tellUnits_20 rfl (lv_at hl 0 rfl) ?_
          refine va_get (D := D) (ci := 3) (v := .ref (a 13)) (C := RX3) (T := TX3) (N := 6) hx hb ht inX3 hown hK hP 0 rfl rfl 2 (by decide) (ht _ wd109) (fun _ h9 => h9) rfl dX3_tellUnits_21 ?_
          refine lv_iload_n hx hb dX3_tellUnits_24 rfl (lv_at hl 2 rfl) ?_
          refine lv_iload_n hx hb dX3_tellUnits_25 rfl (lv_at hl 1 rfl) ?_
          refine lv_aload_n hx hb dX3_tellUnits_26 rfl (lv_at hl 0 rfl) ?_
          refine va_get (D := D) (ci := 3) (v := .ref (a 16)) (C := RX3) (T := TX3) (N := 6) hx hb ht inX3 hown hK hP 0 rfl rfl 4 (by decide) (ht _ wd111) (fun _ h9 => h9) rfl dX3_tellUnits_27 ?_
          refine lv_iload_n hx hb dX3_tellUnits_30 rfl (lv_at hl 1 rfl) ?_
          refine xa_zald hx hb hK hP 17 1 (i := pl) rfl rfl (by omega) (by decide) dX3_tellUnits_31 ?_
          refine lv_aload_n hx hb dX3_tellUnits_32 rfl (lv_at hl 0 rfl) ?_
          refine va_get (D := D) (ci := 3) (v := .int (nI (cT (setCN C (tellN (cR C) pl (cM C pl) (nI (cT C)) (cN (setCN C (tellN (cR C) pl (cM C pl) (nI (cT C)) (cN C) u))) u))))) (C := RX3) (T := TX3) (N := 6) hx hb ht inX3 hown hK hP 0 rfl rfl 5 (by decide) (ht _ wd112) (fun _ h9 => h9) rfl dX3_tellUnits_33 ?_
          refine xwV (As := [.int (nI u), .int (nI pl), .int (bI ((cM (setCN C (tellN (cR C) pl (cM C pl) (nI (cT C)) (cN C) u))) pl)), .int (nI (cT (setCN C (tellN (cR C) pl (cM C pl) (nI (cT C)) (cN (setCN C (tellN (cR C) pl (cM C pl) (nI (cT C)) (cN C) u))) u))))]) (rest := []) (wr := [(a 17, .inr (3, [.ref (a 0), .ref (a 10), .ref (a 13), .ref (a 15), .ref (a 16), .int (nI (cT (setCN C (tellN (cR C) pl (cM C pl) (nI (cT C)) (cN (setCN C (tellN (cR C) pl (cM C pl) (nI (cT C)) (cN C) u))) u))))])), (a 0, .inr (0, [.ref (a 1), .ref (a 2), .ref (a 3), .ref (a 4), .ref (a 5), .ref (a 6), .ref (a 7), .ref (a 8), .ref (a 9), .int (nI (kN (cK (setCN C (tellN (cR C) pl (cM C pl) (nI (cT C)) (cN (setCN C (tellN (cR C) pl (cM C pl) (nI (cT C)) (cN C) u))) u)))))])), (a 1, .inl (cI, 100, .inl (kKd (cK (setCN C (tellN (cR C) pl (cM C pl) (nI (cT C)) (cN C) u)))))), (a 2, .inl (cI, 100, .inl (kPc (cK (setCN C (tellN (cR C) pl (cM C pl) (nI (cT C)) (cN C) u)))))), (a 3, .inl (cI, 100, .inl (kSd (cK (setCN C (tellN (cR C) pl (cM C pl) (nI (cT C)) (cN C) u)))))), (a 4, .inl (cI, 100, .inl (kSt (cK (setCN C (tellN (cR C) pl (cM C pl) (nI (cT C)) (cN C) u)))))), (a 5, .inl (cI, 100, .inl (kEn (cK (setCN C (tellN (cR C) pl (cM C pl) (nI (cT C)) (cN C) u)))))), (a 6, .inl (cI, 100, .inl (kXs (cK (setCN C (tellN (cR C) pl (cM C pl) (nI (cT C)) (cN C) u)))))), (a 7, .inl (cI, 100, .inl (kAn (cK (setCN C (tellN (cR C) pl (cM C pl) (nI (cT C)) (cN C) u)))))), (a 8, .inl (cI, 100, .inl (kWd (cK (setCN C (tellN (cR C) pl (cM C pl) (nI (cT C)) (cN C) u)))))), (a 9, .inl (cZ, 20, .inl (kIc (cK (setCN C (tellN (cR C) pl (cM C pl) (nI (cT C)) (cN C) u)))))), (a 10, .inr (2, [.ref (a 11), .ref (a 12)])), (a 11, .inl (cI, 120, .inl (nF (rP (cR (setCN C (tellN (cR C) pl (cM C pl) (nI (cT C)) (cN C) u))))))), (a 12, .inl (cI, 10, .inl (nF (rL (cR (setCN C (tellN (cR C) pl (cM C pl) (nI (cT C)) (cN C) u))))))), (a 15, .inl (cZ, 120, .inl (bF (cW (setCN C (tellN (cR C) pl (cM C pl) (nI (cT C)) (cN C) u)))))), (a 16, .inl (cZ, 120, .inl (bF (cM (setCN C (tellN (cR C) pl (cM C pl) (nI (cT C)) (cN C) u))))))]) (ws2 := (wC a cI cZ (setCN C (noteN (tellN (cR C) pl (cM C pl) (nI (cT C)) (cN C) u) u pl (cM C pl) (nI (cT C)))))) hx hb hml hown ht hN kV_X3_200 (r_X1_add l D (fun i => a (13 + i)) cI cZ (tellN (cR C) pl (cM C pl) (nI (cT C)) (cN C) u) (by omega) u pl hp (cM C pl) (nI (cT C))) ⟨by decide, by decide⟩ hP hD hS hK [14, 15] [0, 1, 2, 3, 4, 5, 6, 7, 8, 9, 10, 11, 12, 13, 16, 17] [0, 1, 2, 3, 4, 5, 6, 7, 8, 9, 10, 11, 12, 13, 16, 17, 14, 15] rfl rfl (by decide) (by decide) (by decide) rfl rfl (by decide) rfl rfl rfl rfl hl.1 rfl (Nat.le_of_ble_eq_true rfl) dX3_tellUnits_36 ⟨Nat.zero_le _, Nat.zero_le _⟩ (fun H locs hP hD hS => ?_)
          refine lv_iinc (v := nI (u + 1)) (lv' := [(2, .int (nI (u + 1))), (0, .ref (a 17)), (1, .int (nI pl))]) hx hb dX3_tellUnits_39 hl (k := 2) rfl (nI_1 _) (by decide) rfl (fun ls hl => ?_)
          refine lv_goto (tgt := 2) hx hb dX3_tellUnits_42 (by decide) ?_
          exact ih2 (u + 1) (by omega) (by omega) _ _ (by rw [tellN]; first | (rw [if_pos (bI_t h_17)]; exact hP) | (rw [if_neg (by rw [bI_f h_17]; decide)]; exact hP)) (xD_addr hD rfl) hS ls (lv_sub hl [1, 2, 0] rfl)
  refine lv_iconst (v := nI 0) hx hb dX3_tellUnits_0 (by decide) ?_
  refine lv_istore_n (lv' := [(2, .int (nI 0)), (0, .ref (a 17)), (1, .int (nI pl))]) hx hb dX3_tellUnits_1 rfl hl (by decide) rfl (fun ls hl => ?_)
  exact L2 11 0 (by omega) (by omega) _ _ hP (xD_addr hD rfl) hS ls (lv_sub hl [1, 2, 0] rfl)
