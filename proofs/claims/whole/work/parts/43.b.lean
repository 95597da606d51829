theorem kV_X3_146 : xcV RX3 RX1 146 yX1_total cX1_total 1 (some .int) 0 := ⟨wd453, wd450, wd451, wd452, wd24, rfl, ⟨by decide +kernel, by decide +kernel, by decide +kernel⟩⟩
theorem kV_X3_150 : xcV RX3 RX0 150 yX0_nextChange cX0_nextChange 4 (some .int) 1 := ⟨wd457, wd454, wd455, wd456, wd22, rfl, ⟨by decide +kernel, by decide +kernel, by decide +kernel⟩⟩
theorem kV_X3_159 : xcV RX3 RX0 159 yX0_nextChangeOn cX0_nextChangeOn 5 (some .int) 2 := ⟨wd498, wd495, wd496, wd497, wd22, rfl, ⟨by decide +kernel, by decide +kernel, by decide +kernel⟩⟩
set_option maxHeartbeats 4000000 in
set_option maxRecDepth 100000 in
theorem r_X3_tick (l : Launch) (D : va_G) (hl9 : l.stackTraces = false) (h0 : Nat) (a : Nat → Nat) (cI cZ : ClassId) (C : CS) (hC : cOk C) (v1 : Int32) : xTP l yX3_tick cX3_tick 5 (some .int) (xrt 6 110) [.ref (a 17), .int (v1)] D h0 (wC a cI cZ C) (tyL cI cZ) (some (.int (tickCr C v1))) (wC a cI cZ (tkS C (ix v1)).1) (ok3 (bTk (cT C) v1) (false) (false)) (fl3 eIO eIA eIS (bTk (cT C) v1) (false) (false)) := by
  refine xTP.of (by decide +kernel) (Nat.le_of_ble_eq_true rfl) ?_
  intro p e s m args below meth cd hx hb hr hml hown hlocks htab ht hN hT9 hP hK hD hS ls hl
  have hl : lv_has ls 5 [(0, .ref (a 17)), (1, .int (v1))] := hl
  have hown : s.vm.findClass RX3 = some m.cls := hown
  have hO := hC.1
  have hR := hC.2.1
  have hT0 := hC.2.2
  have hn := hO.1
  have L56 : ∀ (n : Nat) (Ck : CS) (ch : Int32) (k : Nat), (ix v1 < k + n) → (k ≤ ix v1) → (v1 = nI (ix v1)) → (ix v1 ≤ 2000) → (bTk (cT C) v1 = false) → ((Ck, ch) = tkS C k) → ∀ (H : Heap) (locs : List Loc), va_P D vwCl (wC a cI cZ (Ck)) H → va_D (xA (wC a cI cZ C)) (wC a cI cZ (Ck)) → va_S (xA (wC a cI cZ C)) s.heap H locs → ∀ ls : Array Slot, lv_has ls 5 [(0, .ref (a 17)), (1, .int (v1)), (2, .int (nI (nT (cN C)))), (3, .int (ch)), (4, .int (nI k))] → W p l e (xrt 6 110) s m args below meth cd H locs 0 0 (vx_MQ below (xQp (some (.int (tickCr C v1))) (ok3 (bTk (cT C) v1) (false) (false)) D (wC a cI cZ C) (wC a cI cZ (tkS C (ix v1)).1)) (xXv (fl3 eIO eIA eIS (bTk (cT C) v1) (false) (false))) args s 1 6 (xA (wC a cI cZ C))) (F0 m 56 ls []) := by
    intro n
    induction n with
    | zero =>
      intro Ck ch k hfuel hi ev hv9 hbt hst
      exact absurd hfuel (by omega)
    | succ n ih56 =>
      intro Ck ch k hfuel hi ev hv9 hbt hst H locs hP hD hS ls hl
      obtain ⟨hK1, hK2, hK3, hK4⟩ := tkS_K C k
      rw [← hst] at hK1 hK2 hK3 hK4
      have hO1 : kOk (cK Ck) := by rw [show cK Ck = cK C from hK1]; exact hO
      have hR1 : rOk (cR Ck) := by rw [show cR Ck = cR C from hK2]; exact hR
      have hK5 : nT (cN Ck) ≤ nT (cN C) + 1200 * k := hK4
      refine lv_iload hx hb dX3_tick_56 (lv_at hl 4 rfl) ?_
      refine lv_iload_n hx hb dX3_tick_58 rfl (lv_at hl 1 rfl) ?_
      refine xtop (y := nI (ix v1)) ev ?_
      refine lv_icmp_ge (tgt := 102) hx hb dX3_tick_59 (by decide) (fun h_59 => ?_) (fun h_59 => ?_)
      · skip
        have h_59 : (nI (ix v1) : Int32) ≤ (nI k : Int32) := h_59
        have h_59 : (ix v1) ≤ k := (nI_leI (by omega) (by omega)).mp h_59
        refine lv_aload_n hx hb dX3_tick_102 rfl (lv_at hl 0 rfl) ?_
        refine va_get (D := D) (ci := 3) (v := .ref (a 13)) (C := RX3) (T := TX3) (N := 6) hx hb ht inX3 hown hK hP 0 rfl rfl 2 (by decide) (ht _ wd109) (fun _ h9 => h9) rfl dX3_tick_103 ?_
        refine xrV (As := []) (rest := []) hx hb hml hown ht hN kV_X3_146 (r_X1_total l D (fun i => a (13 + i)) cI cZ (cN Ck)) ⟨by decide, by decide⟩ (hP.sub (ws' := (wNt (fun i => a (13 + i)) cI (cN Ck))) [14, 15] rfl) hK rfl rfl rfl rfl hl.1 rfl (Nat.le_of_ble_eq_true rfl) dX3_tick_106 ⟨Nat.zero_le _, Nat.zero_le _⟩ ?_
        refine lv_iload_n hx hb dX3_tick_109 rfl (lv_at hl 2 rfl) ?_
        refine lv_isub hx hb dX3_tick_110 ?_
        exact xp_iret (v := (nI (nT (cN Ck))) - (nI (nT (cN C)))) hx hb hr hlocks hS (by rw [show ix v1 = k by omega, ← hst]; exact hP) (by rw [tickCr, show ix v1 = k by omega, ← hst]) (⟨hbt, rfl, rfl⟩) dX3_tick_111
      · skip
        have h_59 : ¬ ((nI (ix v1) : Int32) ≤ (nI k : Int32)) := h_59
        have h_59 : ¬ ((ix v1) ≤ k) := fun z => h_59 ((nI_leI (by omega) (by omega)).mpr z)
        refine lv_aload_n hx hb dX3_tick_62 rfl (lv_at hl 0 rfl) ?_
        refine lv_dup hx hb dX3_tick_63 rfl ?_
        refine va_get (D := D) (ci := 3) (v := .int (nI (cT (Ck)))) (C := RX3) (T := TX3) (N := 6) hx hb ht inX3 hown hK hP 0 rfl rfl 5 (by decide) (ht _ wd112) (fun _ h9 => h9) rfl dX3_tick_64 ?_
        refine lv_iconst (v := nI 1) hx hb dX3_tick_67 (by decide) ?_
        refine lv_iadd hx hb dX3_tick_68 ?_
        refine xtop (y := nI ((cT (Ck)) + 1)) (nI_add _ _) ?_
        refine va_put (D := D) (ci := 3) (v := .int (nI ((cT (Ck)) + 1))) (ty := .int) (C := RX3) (T := TX3) (N := 6) hx hb ht inX3 tyX3 tyX3_ok nmX3 hown hK hP hD hS 0 rfl rfl 5 (by decide) (ht _ wd112) (fun _ h9 => h9) rfl (by decide +kernel) rfl rfl (Nat.le_of_ble_eq_true rfl) dX3_tick_69 (fun H locs hP hD hS => ?_)
        have hP : va_P D vwCl [(a 17, .inr (3, [.ref (a 0), .ref (a 10), .ref (a 13), .ref (a 15), .ref (a 16), .int (nI ((cT (Ck)) + 1))])), (a 0, .inr (0, [.ref (a 1), .ref (a 2), .ref (a 3), .ref (a 4), .ref (a 5), .ref (a 6), .ref (a 7), .ref (a 8), .ref (a 9), .int (nI (kN (cK (Ck))))])), (a 1, .inl (cI, 100, .inl (kKd (cK (Ck))))), (a 2, .inl (cI, 100, .inl (kPc (cK (Ck))))), (a 3, .inl (cI, 100, .inl (kSd (cK (Ck))))), (a 4, .inl (cI, 100, .inl (kSt (cK (Ck))))), (a 5, .inl (cI, 100, .inl (kEn (cK (Ck))))), (a 6, .inl (cI, 100, .inl (kXs (cK (Ck))))), (a 7, .inl (cI, 100, .inl (kAn (cK (Ck))))), (a 8, .inl (cI, 100, .inl (kWd (cK (Ck))))), (a 9, .inl (cZ, 20, .inl (kIc (cK (Ck))))), (a 10, .inr (2, [.ref (a 11), .ref (a 12)])), (a 11, .inl (cI, 120, .inl (nF (rP (cR (Ck)))))), (a 12, .inl (cI, 10, .inl (nF (rL (cR (Ck)))))), (a 13, .inr (1, [.ref (a 14), .int (nI (nT (cN (Ck))))])), (a 14, .inl (cI, 500, .inl (nRw (cN (Ck))))), (a 15, .inl (cZ, 120, .inl (bF (cW (Ck))))), (a 16, .inl (cZ, 120, .inl (bF (cM (Ck)))))] H := hP
        have hD : va_D (xA (wC a cI cZ C)) [(a 17, .inr (3, [.ref (a 0), .ref (a 10), .ref (a 13), .ref (a 15), .ref (a 16), .int (nI ((cT (Ck)) + 1))])), (a 0, .inr (0, [.ref (a 1), .ref (a 2), .ref (a 3), .ref (a 4), .ref (a 5), .ref (a 6), .ref (a 7), .ref (a 8), .ref (a 9), .int (nI (kN (cK (Ck))))])), (a 1, .inl (cI, 100, .inl (kKd (cK (Ck))))), (a 2, .inl (cI, 100, .inl (kPc (cK (Ck))))), (a 3, .inl (cI, 100, .inl (kSd (cK (Ck))))), (a 4, .inl (cI, 100, .inl (kSt (cK (Ck))))), (a 5, .inl (cI, 100, .inl (kEn (cK (Ck))))), (a 6, .inl (cI, 100, .inl (kXs (cK (Ck))))), (a 7, .inl (cI, 100, .inl (kAn (cK (Ck))))), (a 8, .inl (cI, 100, .inl (kWd (cK (Ck))))), (a 9, .inl (cZ, 20, .inl (kIc (cK (Ck))))), (a 10, .inr (2, [.ref (a 11), .ref (a 12)])), (a 11, .inl (cI, 120, .inl (nF (rP (cR (Ck)))))), (a 12, .inl (cI, 10, .inl (nF (rL (cR (Ck)))))), (a 13, .inr (1, [.ref (a 14), .int (nI (nT (cN (Ck))))])), (a 14, .inl (cI, 500, .inl (nRw (cN (Ck))))), (a 15, .inl (cZ, 120, .inl (bF (cW (Ck))))), (a 16, .inl (cZ, 120, .inl (bF (cM (Ck)))))] := hD
        refine lv_aload_n hx hb dX3_tick_72 rfl (lv_at hl 0 rfl) ?_
        refine va_get (D := D) (ci := 3) (v := .int (nI ((cT (Ck)) + 1))) (C := RX3) (T := TX3) (N := 6) hx hb ht inX3 hown hK hP 0 rfl rfl 5 (by decide) (ht _ wd112) (fun _ h9 => h9) rfl dX3_tick_73 ?_
        refine lv_iload_n hx hb dX3_tick_76 rfl (lv_at hl 3 rfl) ?_
        refine lv_icmp_lt (tgt := 96) hx hb dX3_tick_77 (by decide) (fun h_77 => ?_) (fun h_77 => ?_)
        · skip
          have h_77 : (nI ((cT (Ck)) + 1) : Int32) < (ch : Int32) := h_77
          refine lv_iinc (v := nI (k + 1)) (lv' := [(4, .int (nI (k + 1))), (0, .ref (a 17)), (1, .int (v1)), (2, .int (nI (nT (cN C)))), (3, .int (ch))]) hx hb dX3_tick_96 hl (k := 4) rfl (nI_1 _) (by decide) rfl (fun ls hl => ?_)
          refine lv_goto (tgt := 56) hx hb dX3_tick_99 (by decide) ?_
          exact ih56 (setCT Ck (cT Ck + 1)) _ (k + 1) (by omega) (by omega) ev hv9 hbt (tkS_l hst h_77) _ _ hP (xD_addr hD rfl) hS ls (lv_sub hl [1, 2, 3, 4, 0] rfl)
        · skip
          have h_77 : ¬ ((nI ((cT (Ck)) + 1) : Int32) < (ch : Int32)) := h_77
          refine lv_aload_n hx hb dX3_tick_80 rfl (lv_at hl 0 rfl) ?_
          refine xwV (As := []) (rest := []) (wr := []) (ws2 := (wC a cI cZ (tellC (setCT Ck (cT Ck + 1))))) hx hb hml hown ht hN kV_X3_84 (r_X3_tellChanges l D a cI cZ (setCT Ck (cT Ck + 1)) hO1 hR1 (show nT (cN Ck) + 1200 < 2 ^ 31 by omega)) ⟨by decide, by decide⟩ hP hD hS hK [0, 1, 2, 3, 4, 5, 6, 7, 8, 9, 10, 11, 12, 13, 14, 15, 16, 17] [] [0, 1, 2, 3, 4, 5, 6, 7, 8, 9, 10, 11, 12, 13, 14, 15, 16, 17] rfl rfl (by decide) (by decide) (by decide) rfl rfl (by decide) rfl rfl rfl rfl hl.1 rfl (Nat.le_of_ble_eq_true rfl) dX3_tick_81 ⟨Nat.zero_le _, Nat.zero_le _⟩ (fun H locs hP hD hS => ?_)
          refine lv_aload_n hx hb dX3_tick_84 rfl (lv_at hl 0 rfl) ?_
          refine va_get (D := D) (ci := 3) (v := .ref (a 0)) (C := RX3) (T := TX3) (N := 6) hx hb ht inX3 hown hK hP 0 rfl rfl 0 (by decide) (ht _ wd107) (fun _ h9 => h9) rfl dX3_tick_85 ?_
          refine lv_aload_n hx hb dX3_tick_88 rfl (lv_at hl 0 rfl) ?_
          refine va_get (D := D) (ci := 3) (v := .int (nI (cT (tellC (setCT Ck (cT Ck + 1)))))) (C := RX3) (T := TX3) (N := 6) hx hb ht inX3 hown hK hP 0 rfl rfl 5 (by decide) (ht _ wd112) (fun _ h9 => h9) rfl dX3_tick_89 ?_
          refine xrV (As := [.int (nI (cT (tellC (setCT Ck (cT Ck + 1)))))]) (rest := []) hx hb hml hown ht hN kV_X3_150 (r_X0_nextChange l D a cI cZ (cK Ck) hO1 (nI (cT Ck + 1))) ⟨by decide, by decide⟩ (hP.sub (ws' := (wK a cI cZ (cK Ck))) [1, 2, 3, 4, 5, 6, 7, 8, 9, 10] rfl) hK rfl rfl rfl rfl hl.1 rfl (Nat.le_of_ble_eq_true rfl) dX3_tick_92 ⟨Nat.zero_le _, Nat.zero_le _⟩ ?_
          refine lv_istore_n (lv' := [(3, .int (nextK (cK Ck) (nI (cT Ck + 1)) (kN (cK Ck)))), (0, .ref (a 17)), (1, .int (v1)), (2, .int (nI (nT (cN C)))), (4, .int (nI k))]) hx hb dX3_tick_95 rfl hl (by decide) rfl (fun ls hl => ?_)
          refine lv_iinc (v := nI (k + 1)) (lv' := [(4, .int (nI (k + 1))), (3, .int (nextK (cK Ck) (nI (cT Ck + 1)) (kN (cK Ck)))), (0, .ref (a 17)), (1, .int (v1)), (2, .int (nI (nT (cN C))))]) hx hb dX3_tick_96 hl (k := 4) rfl (nI_1 _) (by decide) rfl (fun ls hl => ?_)
          refine lv_goto (tgt := 56) hx hb dX3_tick_99 (by decide) ?_
          exact ih56 (tellC (setCT Ck (cT Ck + 1))) _ (k + 1) (by omega) (by omega) ev hv9 hbt (tkS_g hst h_77) _ _ hP (xD_addr hD rfl) hS ls (lv_sub hl [2, 3, 4, 1, 0] rfl)
  refine lv_iload_n hx hb dX3_tick_0 rfl (lv_at hl 1 rfl) ?_
  refine lv_iconst (v := nI 1) hx hb dX3_tick_1 (by decide) ?_
  refine lv_icmp_lt (tgt := 23) hx hb dX3_tick_2 (by decide) (fun h_2 => ?_) (fun h_2 => ?_)
  · skip
    have h_2 : (v1 : Int32) < (nI 1 : Int32) := h_2
    exact xt_throw hx hb hl9 hml hown ht hT9 kT_IOE_144 hl.1 dX3_tick_23 dX3_tick_26 dX3_tick_27 dX3_tick_29 dX3_tick_32 htab hlocks (by decide) (Nat.le_of_ble_eq_true rfl) ⟨by decide, by decide⟩ (Or.inl ⟨rfl, by unfold bTk; first | (rw [inI_lo h_2]; rfl) | (rw [inI_hi h_9]; rfl) | (rw [decide_eq_true (Int32.not_le.mp h_20), Bool.or_true])⟩)
  · skip
    have h_2 : ¬ ((v1 : Int32) < (nI 1 : Int32)) := h_2
    refine lv_iload_n hx hb dX3_tick_5 rfl (lv_at hl 1 rfl) ?_
    refine lv_sipush (v := nI 2000) hx hb dX3_tick_6 (by decide) ?_
    refine lv_icmp_gt (tgt := 23) hx hb dX3_tick_9 (by decide) (fun h_9 => ?_) (fun h_9 => ?_)
    · skip
      have h_9 : (nI 2000 : Int32) < (v1 : Int32) := h_9
      exact xt_throw hx hb hl9 hml hown ht hT9 kT_IOE_144 hl.1 dX3_tick_23 dX3_tick_26 dX3_tick_27 dX3_tick_29 dX3_tick_32 htab hlocks (by decide) (Nat.le_of_ble_eq_true rfl) ⟨by decide, by decide⟩ (Or.inl ⟨rfl, by unfold bTk; first | (rw [inI_lo h_2]; rfl) | (rw [inI_hi h_9]; rfl) | (rw [decide_eq_true (Int32.not_le.mp h_20), Bool.or_true])⟩)
    · skip
      have h_9 : ¬ ((nI 2000 : Int32) < (v1 : Int32)) := h_9
      refine lv_iload_n hx hb dX3_tick_12 rfl (lv_at hl 1 rfl) ?_
      refine lv_ldc (v := nI 99999) hx hb hown (ht _ wd239) dX3_tick_13 ?_
      refine lv_aload_n hx hb dX3_tick_15 rfl (lv_at hl 0 rfl) ?_
      refine va_get (D := D) (ci := 3) (v := .int (nI (cT C))) (C := RX3) (T := TX3) (N := 6) hx hb ht inX3 hown hK hP 0 rfl rfl 5 (by decide) (ht _ wd112) (fun _ h9 => h9) rfl dX3_tick_16 ?_
      refine lv_isub hx hb dX3_tick_19 ?_
      refine lv_icmp_le (tgt := 33) hx hb dX3_tick_20 (by decide) (fun h_20 => ?_) (fun h_20 => ?_)
      · skip
        have h_20 : (v1 : Int32) ≤ ((nI 99999) - (nI (cT C)) : Int32) := h_20
        have hin : inI v1 (nI 1) (nI 2000) = true := inI_t h_2 h_9
        obtain ⟨ev, -, hv9⟩ := ix_in (by decide) (by decide) hin
        have hbt : bTk (cT C) v1 = false := by unfold bTk; rw [hin, decide_eq_false (Int32.not_lt.mpr h_20)]; rfl
        refine lv_aload_n hx hb dX3_tick_33 rfl (lv_at hl 0 rfl) ?_
        refine va_get (D := D) (ci := 3) (v := .ref (a 13)) (C := RX3) (T := TX3) (N := 6) hx hb ht inX3 hown hK hP 0 rfl rfl 2 (by decide) (ht _ wd109) (fun _ h9 => h9) rfl dX3_tick_34 ?_
        refine xrV (As := []) (rest := []) hx hb hml hown ht hN kV_X3_146 (r_X1_total l D (fun i => a (13 + i)) cI cZ (cN C)) ⟨by decide, by decide⟩ (hP.sub (ws' := (wNt (fun i => a (13 + i)) cI (cN C))) [14, 15] rfl) hK rfl rfl rfl rfl hl.1 rfl (Nat.le_of_ble_eq_true rfl) dX3_tick_37 ⟨Nat.zero_le _, Nat.zero_le _⟩ ?_
        refine lv_istore_n (lv' := [(2, .int (nI (nT (cN C)))), (0, .ref (a 17)), (1, .int (v1))]) hx hb dX3_tick_40 rfl hl (by decide) rfl (fun ls hl => ?_)
        refine lv_aload_n hx hb dX3_tick_41 rfl (lv_at hl 1 rfl) ?_
        refine va_get (D := D) (ci := 3) (v := .ref (a 0)) (C := RX3) (T := TX3) (N := 6) hx hb ht inX3 hown hK hP 0 rfl rfl 0 (by decide) (ht _ wd107) (fun _ h9 => h9) rfl dX3_tick_42 ?_
        refine lv_aload_n hx hb dX3_tick_45 rfl (lv_at hl 1 rfl) ?_
        refine va_get (D := D) (ci := 3) (v := .int (nI (cT C))) (C := RX3) (T := TX3) (N := 6) hx hb ht inX3 hown hK hP 0 rfl rfl 5 (by decide) (ht _ wd112) (fun _ h9 => h9) rfl dX3_tick_46 ?_
        refine xrV (As := [.int (nI (cT C))]) (rest := []) hx hb hml hown ht hN kV_X3_150 (r_X0_nextChange l D a cI cZ (cK C) hO (nI (cT C))) ⟨by decide, by decide⟩ (hP.sub (ws' := (wK a cI cZ (cK C))) [1, 2, 3, 4, 5, 6, 7, 8, 9, 10] rfl) hK rfl rfl rfl rfl hl.1 rfl (Nat.le_of_ble_eq_true rfl) dX3_tick_49 ⟨Nat.zero_le _, Nat.zero_le _⟩ ?_
        refine lv_istore_n (lv' := [(3, .int (nextK (cK C) (nI (cT C)) (kN (cK C)))), (2, .int (nI (nT (cN C)))), (0, .ref (a 17)), (1, .int (v1))]) hx hb dX3_tick_52 rfl hl (by decide) rfl (fun ls hl => ?_)
        refine lv_iconst (v := nI 0) hx hb dX3_tick_53 (by decide) ?_
        refine lv_istore (lv' := [(4, .int (nI 0)), (3, .int (nextK (cK C) (nI (cT C)) (kN (cK C)))), (2, .int (nI (nT (cN C)))), (0, .ref (a 17)), (1, .int (v1))]) hx hb dX3_tick_54 hl (by decide) rfl (fun ls hl => ?_)
        exact L56 (ix v1 + 1) C _ 0 (by omega) (by omega) ev hv9 hbt (tkS_0 C) _ _ hP (xD_addr hD rfl) hS ls (lv_sub hl [3, 4, 2, 1, 0] rfl)
      · skip
        have h_20 : ¬ ((v1 : Int32) ≤ ((nI 99999) - (nI (cT C)) : Int32)) := h_20
        exact xt_throw hx hb hl9 hml hown ht hT9 kT_IOE_144 hl.1 dX3_tick_23 dX3_tick_26 dX3_tick_27 dX3_tick_29 dX3_tick_32 htab hlocks (by decide) (Nat.le_of_ble_eq_true rfl) ⟨by decide, by decide⟩ (Or.inl ⟨rfl, by unfold bTk; first | (rw [inI_lo h_2]; rfl) | (rw [inI_hi h_9]; rfl) | (rw [decide_eq_true (Int32.not_le.mp h_20), Bool.or_true])⟩)
set_option maxHeartbeats 4000000 in
set_option maxRecDepth 100000 in
theorem r_X3_minutes (l : Launch) (D : va_G) (hl9 : l.stackTraces = false) (h0 : Nat) (a : Nat → Nat) (cI cZ : ClassId) (C : CS) (hC : cOk C) (hseg : segOn (cK C)) (p1 s1 a1 b1 : Int32) : xTP l yX3_minutes cX3_minutes 10 (some .int) (xrt 8 131) [.ref (a 17), .int (p1), .int (s1), .int (a1), .int (b1)] D h0 (wC a cI cZ C) (tyL cI cZ) (some (.int (minCr C p1 s1 a1 b1))) (wC a cI cZ C) (ok3 (bPc p1) (bMi s1 a1 b1) (false)) (fl3 eIA eIO eIS (bPc p1) (bMi s1 a1 b1) (false)) := by
  refine xTP.of (by decide +kernel) (Nat.le_of_ble_eq_true rfl) ?_
  intro p e s m args below meth cd hx hb hr hml hown hlocks htab ht hN hT9 hP hK hD hS ls hl
  have hl : lv_has ls 10 [(0, .ref (a 17)), (1, .int (p1)), (2, .int (s1)), (3, .int (a1)), (4, .int (b1))] := hl
  have hown : s.vm.findClass RX3 = some m.cls := hown
  have hO := hC.1
  have hR := hC.2.1
  have hT0 := hC.2.2
  have hn := hO.1
  have L54 : ∀ (n : Nat) (n1 : Nat) (ch : Int32) (sh : Bool) (k : Nat), (ix b1 < k + n) → (ix a1 ≤ k) → (k ≤ ix b1) → (b1 = nI (ix b1)) → (ix b1 ≤ 99999) → (bPc p1 = false) → (bMi s1 a1 b1 = false) → (plI p1 s1 < 120) → (n1 = sumN (fun k => closedK (cK C) (plI p1 s1) (nI k)) (ix a1) (k - ix a1)) → (n1 ≤ k) → (∀ m, k ≤ m → m < 100000 → nI m < ch → sh = closedK (cK C) (plI p1 s1) (nI m)) → ∀ (H : Heap) (locs : List Loc), va_P D vwCl (wC a cI cZ C) H → va_D (xA (wC a cI cZ C)) (wC a cI cZ C) → va_S (xA (wC a cI cZ C)) s.heap H locs → ∀ ls : Array Slot, lv_has ls 10 [(0, .ref (a 17)), (4, .int (b1)), (5, .int (nI (plI p1 s1))), (6, .int (nI n1)), (7, .int (ch)), (8, .int (bI sh)), (9, .int (nI k))] → W p l e (xrt 8 131) s m args below meth cd H locs 0 0 (vx_MQ below (xQp (some (.int (minCr C p1 s1 a1 b1))) (ok3 (bPc p1) (bMi s1 a1 b1) (false)) D (wC a cI cZ C) (wC a cI cZ C)) (xXv (fl3 eIA eIO eIS (bPc p1) (bMi s1 a1 b1) (false))) args s 1 6 (xA (wC a cI cZ C))) (F0 m 54 ls []) := by
    intro n
    induction n with
    | zero =>
      intro n1 ch sh k hfuel hk1 hk2 eb hb9 hpb hbm hpl hv hnb hq
      exact absurd hfuel (by omega)
    | succ n ih54 =>
      intro n1 ch sh k hfuel hk1 hk2 eb hb9 hpb hbm hpl hv hnb hq H locs hP hD hS ls hl
      refine lv_iload hx hb dX3_minutes_54 (lv_at hl 6 rfl) ?_
      refine lv_iload hx hb dX3_minutes_56 (lv_at hl 1 rfl) ?_
      refine xtop (y := nI (ix b1)) eb ?_
      refine lv_icmp_ge (tgt := 108) hx hb dX3_minutes_58 (by decide) (fun h_58 => ?_) (fun h_58 => ?_)
      · skip
        have h_58 : (nI (ix b1) : Int32) ≤ (nI k : Int32) := h_58
        have h_58 : (ix b1) ≤ k := (nI_leI (by omega) (by omega)).mp h_58
        refine lv_iload hx hb dX3_minutes_108 (lv_at hl 3 rfl) ?_
        exact xp_iret (v := nI n1) hx hb hr hlocks hS hP (by rw [minCr, show ix b1 - ix a1 = k - ix a1 by omega, ← hv]) (⟨hpb, hbm, rfl⟩) dX3_minutes_110
      · skip
        have h_58 : ¬ ((nI (ix b1) : Int32) ≤ (nI k : Int32)) := h_58
        have h_58 : ¬ ((ix b1) ≤ k) := fun z => h_58 ((nI_leI (by omega) (by omega)).mpr z)
        refine lv_iload hx hb dX3_minutes_61 (lv_at hl 6 rfl) ?_
        refine lv_iload hx hb dX3_minutes_63 (lv_at hl 4 rfl) ?_
        refine lv_icmp_lt (tgt := 94) hx hb dX3_minutes_65 (by decide) (fun h_65 => ?_) (fun h_65 => ?_)
        · skip
          have h_65 : (nI k : Int32) < (ch : Int32) := h_65
          have hsh := hq k (by omega) (by omega) h_65
          refine lv_iload hx hb dX3_minutes_94 (lv_at hl 5 rfl) ?_
          refine lv_if_eq (tgt := 102) hx hb dX3_minutes_96 (by decide) (fun h_96 => ?_) (fun h_96 => ?_)
          · skip
            have h_96 : (bI sh : Int32) = (0 : Int32) := h_96
            refine lv_iinc (v := nI (k + 1)) (lv' := [(9, .int (nI (k + 1))), (0, .ref (a 17)), (4, .int (b1)), (5, .int (nI (plI p1 s1))), (6, .int (nI n1)), (7, .int (ch)), (8, .int (bI sh))]) hx hb dX3_minutes_102 hl (k := 6) rfl (nI_1 _) (by decide) rfl (fun ls hl => ?_)
            refine lv_goto (tgt := 54) hx hb dX3_minutes_105 (by decide) ?_
            exact ih54 (n1) _ (sh) (k + 1) (by omega) (by omega) (by omega) eb hb9 hpb hbm hpl (by rw [show k + 1 - ix a1 = (k - ix a1) + 1 by omega, sumN, ← hv, show ix a1 + (k - ix a1) = k by omega]; first | (rw [if_pos (show closedK (cK C) (plI p1 s1) (nI k) = true by first | exact bI_t h_96 | (rw [← hsh]; exact bI_t h_96))]; done) | (rw [if_neg (show ¬ closedK (cK C) (plI p1 s1) (nI k) = true by first | (rw [bI_f h_96]; decide) | (rw [← hsh, bI_f h_96]; decide))]; rfl)) (by omega) (fun m h1 h2 h3 => hq m (by omega) h2 h3) _ _ hP hD hS ls (lv_sub hl [1, 2, 3, 4, 5, 6, 0] rfl)
          · skip
            have h_96 : ¬ ((bI sh : Int32) = (0 : Int32)) := h_96
            refine lv_iinc (v := nI (n1 + 1)) (lv' := [(6, .int (nI (n1 + 1))), (0, .ref (a 17)), (4, .int (b1)), (5, .int (nI (plI p1 s1))), (7, .int (ch)), (8, .int (bI sh)), (9, .int (nI k))]) hx hb dX3_minutes_99 hl (k := 3) rfl (nI_1 _) (by decide) rfl (fun ls hl => ?_)
            refine lv_iinc (v := nI (k + 1)) (lv' := [(9, .int (nI (k + 1))), (6, .int (nI (n1 + 1))), (0, .ref (a 17)), (4, .int (b1)), (5, .int (nI (plI p1 s1))), (7, .int (ch)), (8, .int (bI sh))]) hx hb dX3_minutes_102 hl (k := 6) rfl (nI_1 _) (by decide) rfl (fun ls hl => ?_)
            refine lv_goto (tgt := 54) hx hb dX3_minutes_105 (by decide) ?_
            exact ih54 (n1 + 1) _ (sh) (k + 1) (by omega) (by omega) (by omega) eb hb9 hpb hbm hpl (by rw [show k + 1 - ix a1 = (k - ix a1) + 1 by omega, sumN, ← hv, show ix a1 + (k - ix a1) = k by omega]; first | (rw [if_pos (show closedK (cK C) (plI p1 s1) (nI k) = true by first | exact bI_t h_96 | (rw [← hsh]; exact bI_t h_96))]; done) | (rw [if_neg (show ¬ closedK (cK C) (plI p1 s1) (nI k) = true by first | (rw [bI_f h_96]; decide) | (rw [← hsh, bI_f h_96]; decide))]; rfl)) (by omega) (fun m h1 h2 h3 => hq m (by omega) h2 h3) _ _ hP hD hS ls (lv_sub hl [2, 3, 4, 1, 5, 6, 0] rfl)
        · skip
          have h_65 : ¬ ((nI k : Int32) < (ch : Int32)) := h_65
          refine lv_aload_n hx hb dX3_minutes_68 rfl (lv_at hl 0 rfl) ?_
          refine va_get (D := D) (ci := 3) (v := .ref (a 0)) (C := RX3) (T := TX3) (N := 6) hx hb ht inX3 hown hK hP 0 rfl rfl 0 (by decide) (ht _ wd107) (fun _ h9 => h9) rfl dX3_minutes_69 ?_
          refine lv_iload hx hb dX3_minutes_72 (lv_at hl 2 rfl) ?_
          refine lv_iload hx hb dX3_minutes_74 (lv_at hl 6 rfl) ?_
          refine xrV (As := [.int (nI (plI p1 s1)), .int (nI k)]) (rest := []) hx hb hml hown ht hN kV_X3_154 (r_X0_isClosedAt l D a cI cZ (cK C) hO (plI p1 s1) hpl (nI k)) ⟨by decide, by decide⟩ (hP.sub (ws' := (wK a cI cZ (cK C))) [1, 2, 3, 4, 5, 6, 7, 8, 9, 10] rfl) hK rfl rfl rfl rfl hl.1 rfl (Nat.le_of_ble_eq_true rfl) dX3_minutes_76 ⟨Nat.zero_le _, Nat.zero_le _⟩ ?_
          refine lv_istore (lv' := [(8, .int (bI (closedK (cK C) (plI p1 s1) (nI k)))), (0, .ref (a 17)), (4, .int (b1)), (5, .int (nI (plI p1 s1))), (6, .int (nI n1)), (7, .int (ch)), (9, .int (nI k))]) hx hb dX3_minutes_79 hl (by decide) rfl (fun ls hl => ?_)
          refine lv_aload_n hx hb dX3_minutes_81 rfl (lv_at hl 1 rfl) ?_
          refine va_get (D := D) (ci := 3) (v := .ref (a 0)) (C := RX3) (T := TX3) (N := 6) hx hb ht inX3 hown hK hP 0 rfl rfl 0 (by decide) (ht _ wd107) (fun _ h9 => h9) rfl dX3_minutes_82 ?_
          refine lv_iload hx hb dX3_minutes_85 (lv_at hl 3 rfl) ?_
          refine lv_iload hx hb dX3_minutes_87 (lv_at hl 6 rfl) ?_
          refine xrV (As := [.int (nI (plI p1 s1)), .int (nI k)]) (rest := []) hx hb hml hown ht hN kV_X3_159 (r_X0_nextChangeOn l D a cI cZ (cK C) hO (plI p1 s1) hpl (nI k)) ⟨by decide, by decide⟩ (hP.sub (ws' := (wK a cI cZ (cK C))) [1, 2, 3, 4, 5, 6, 7, 8, 9, 10] rfl) hK rfl rfl rfl rfl hl.1 rfl (Nat.le_of_ble_eq_true rfl) dX3_minutes_89 ⟨Nat.zero_le _, Nat.zero_le _⟩ ?_
          refine lv_istore (lv' := [(7, .int (nextOnK (cK C) (plI p1 s1) (nI k) (kN (cK C)))), (8, .int (bI (closedK (cK C) (plI p1 s1) (nI k)))), (0, .ref (a 17)), (4, .int (b1)), (5, .int (nI (plI p1 s1))), (6, .int (nI n1)), (9, .int (nI k))]) hx hb dX3_minutes_92 hl (by decide) rfl (fun ls hl => ?_)
          refine lv_iload hx hb dX3_minutes_94 (lv_at hl 1 rfl) ?_
          refine lv_if_eq (tgt := 102) hx hb dX3_minutes_96 (by decide) (fun h_96 => ?_) (fun h_96 => ?_)
          · skip
            have h_96 : (bI (closedK (cK C) (plI p1 s1) (nI k)) : Int32) = (0 : Int32) := h_96
            refine lv_iinc (v := nI (k + 1)) (lv' := [(9, .int (nI (k + 1))), (7, .int (nextOnK (cK C) (plI p1 s1) (nI k) (kN (cK C)))), (8, .int (bI (closedK (cK C) (plI p1 s1) (nI k)))), (0, .ref (a 17)), (4, .int (b1)), (5, .int (nI (plI p1 s1))), (6, .int (nI n1))]) hx hb dX3_minutes_102 hl (k := 6) rfl (nI_1 _) (by decide) rfl (fun ls hl => ?_)
            refine lv_goto (tgt := 54) hx hb dX3_minutes_105 (by decide) ?_
            exact ih54 (n1) _ (closedK (cK C) (plI p1 s1) (nI k)) (k + 1) (by omega) (by omega) (by omega) eb hb9 hpb hbm hpl (by rw [show k + 1 - ix a1 = (k - ix a1) + 1 by omega, sumN, ← hv, show ix a1 + (k - ix a1) = k by omega]; first | (rw [if_pos (show closedK (cK C) (plI p1 s1) (nI k) = true by first | exact bI_t h_96 | (rw [← hsh]; exact bI_t h_96))]; done) | (rw [if_neg (show ¬ closedK (cK C) (plI p1 s1) (nI k) = true by first | (rw [bI_f h_96]; decide) | (rw [← hsh, bI_f h_96]; decide))]; rfl)) (by omega) (fun m h1 h2 h3 => (hseg (plI p1 s1) k m hpl (by omega) h2 h3).symm) _ _ hP hD hS ls (lv_sub hl [3, 4, 5, 6, 1, 2, 0] rfl)
          · skip
            have h_96 : ¬ ((bI (closedK (cK C) (plI p1 s1) (nI k)) : Int32) = (0 : Int32)) := h_96
            refine lv_iinc (v := nI (n1 + 1)) (lv' := [(6, .int (nI (n1 + 1))), (7, .int (nextOnK (cK C) (plI p1 s1) (nI k) (kN (cK C)))), (8, .int (bI (closedK (cK C) (plI p1 s1) (nI k)))), (0, .ref (a 17)), (4, .int (b1)), (5, .int (nI (plI p1 s1))), (9, .int (nI k))]) hx hb dX3_minutes_99 hl (k := 5) rfl (nI_1 _) (by decide) rfl (fun ls hl => ?_)
            refine lv_iinc (v := nI (k + 1)) (lv' := [(9, .int (nI (k + 1))), (6, .int (nI (n1 + 1))), (7, .int (nextOnK (cK C) (plI p1 s1) (nI k) (kN (cK C)))), (8, .int (bI (closedK (cK C) (plI p1 s1) (nI k)))), (0, .ref (a 17)), (4, .int (b1)), (5, .int (nI (plI p1 s1)))]) hx hb dX3_minutes_102 hl (k := 6) rfl (nI_1 _) (by decide) rfl (fun ls hl => ?_)
            refine lv_goto (tgt := 54) hx hb dX3_minutes_105 (by decide) ?_
            exact ih54 (n1 + 1) _ (closedK (cK C) (plI p1 s1) (nI k)) (k + 1) (by omega) (by omega) (by omega) eb hb9 hpb hbm hpl (by rw [show k + 1 - ix a1 = (k - ix a1) + 1 by omega, sumN, ← hv, show ix a1 + (k - ix a1) = k by omega]; first | (rw [if_pos (show closedK (cK C) (plI p1 s1) (nI k) = true by first | exact bI_t h_96 | (rw [← hsh]; exact bI_t h_96))]; done) | (rw [if_neg (show ¬ closedK (cK C) (plI p1 s1) (nI k) = true by first | (rw [bI_f h_96]; decide) | (rw [← hsh, bI_f h_96]; decide))]; rfl)) (by omega) (fun m h1 h2 h3 => (hseg (plI p1 s1) k m hpl (by omega) h2 h3).symm) _ _ hP hD hS ls (lv_sub hl [4, 5, 6, 1, 2, 3, 0] rfl)
  refine lv_iload_n hx hb dX3_minutes_0 rfl (lv_at hl 1 rfl) ?_
  refine lv_iload_n hx hb dX3_minutes_1 rfl (lv_at hl 2 rfl) ?_
  refine xtS (As := [.int (p1), .int (s1)]) (rest := []) hx hb hml hown ht hN hT9 kS_X3_133 (r_X3_needPlace l D hl9 h0 p1 s1) ⟨by decide, by decide⟩ (fun k q h => by simp at h) (hK.sub (tys' := []) [] rfl) rfl hl.1 rfl (Nat.le_of_ble_eq_true rfl) dX3_minutes_2 ⟨by decide, by decide⟩ (fun E ce q9 H1 hF hz hk hce hcv hcl => xt_out htab hlocks (fl_place (t := a1) hF (fun z => by unfold bMi; rw [z]; rfl)) hz hk hce hcv hcl) (fun hp_2 => ?_)
  refine lv_istore (lv' := [(5, .int (nI (plI p1 s1))), (0, .ref (a 17)), (1, .int (p1)), (2, .int (s1)), (3, .int (a1)), (4, .int (b1))]) hx hb dX3_minutes_5 hl (by decide) rfl (fun ls hl => ?_)
  refine lv_iload_n hx hb dX3_minutes_7 rfl (lv_at hl 4 rfl) ?_
  refine xtS (As := [.int (a1)]) (rest := []) hx hb hml hown ht hN hT9 kS_X3_56 (r_X3_needMinute l D hl9 h0 a1) ⟨by decide, by decide⟩ (fun k q h => by simp at h) (hK.sub (tys' := []) [] rfl) rfl hl.1 rfl (Nat.le_of_ble_eq_true rfl) dX3_minutes_8 ⟨by decide, by decide⟩ (fun E ce q9 H1 hF hz hk hce hcv hcl => xt_out htab hlocks (Or.inr (Or.inl ⟨hF.1, hp_2.1, by unfold bMi; rw [hF.2, Bool.not_false, Bool.true_or, Bool.or_true]⟩)) hz hk hce hcv hcl) (fun hp_8 => ?_)
  refine lv_iload hx hb dX3_minutes_11 (lv_at hl 5 rfl) ?_
  refine xtS (As := [.int (b1)]) (rest := []) hx hb hml hown ht hN hT9 kS_X3_56 (r_X3_needMinute l D hl9 h0 b1) ⟨by decide, by decide⟩ (fun k q h => by simp at h) (hK.sub (tys' := []) [] rfl) rfl hl.1 rfl (Nat.le_of_ble_eq_true rfl) dX3_minutes_13 ⟨by decide, by decide⟩ (fun E ce q9 H1 hF hz hk hce hcv hcl => xt_out htab hlocks (Or.inr (Or.inl ⟨hF.1, hp_2.1, by unfold bMi; rw [hF.2, Bool.not_false, Bool.true_or, Bool.or_true, Bool.or_true]⟩)) hz hk hce hcv hcl) (fun hp_13 => ?_)
  refine lv_iload hx hb dX3_minutes_16 (lv_at hl 5 rfl) ?_
  refine lv_iload_n hx hb dX3_minutes_18 rfl (lv_at hl 4 rfl) ?_
  refine lv_icmp_lt (tgt := 32) hx hb dX3_minutes_19 (by decide) (fun h_19 => ?_) (fun h_19 => ?_)
  · skip
    have h_19 : (b1 : Int32) < (a1 : Int32) := h_19
    exact xt_throw hx hb hl9 hml hown ht hT9 kT_IOE_157 hl.1 dX3_minutes_32 dX3_minutes_35 dX3_minutes_36 dX3_minutes_38 dX3_minutes_41 htab hlocks (by decide) (Nat.le_of_ble_eq_true rfl) ⟨by decide, by decide⟩ (Or.inr (Or.inl ⟨rfl, hp_2.1, by unfold bMi; first | (rw [decide_eq_true h_19, Bool.true_or, Bool.or_true, Bool.or_true, Bool.or_true]) | (rw [decide_eq_false h_29, Bool.not_false, Bool.or_true, Bool.or_true, Bool.or_true, Bool.or_true])⟩))
  · skip
    have h_19 : ¬ ((b1 : Int32) < (a1 : Int32)) := h_19
    refine lv_iload hx hb dX3_minutes_22 (lv_at hl 5 rfl) ?_
    refine lv_iload_n hx hb dX3_minutes_24 rfl (lv_at hl 4 rfl) ?_
    refine lv_isub hx hb dX3_minutes_25 ?_
    refine lv_sipush (v := nI 2000) hx hb dX3_minutes_26 (by decide) ?_
    refine lv_icmp_le (tgt := 42) hx hb dX3_minutes_29 (by decide) (fun h_29 => ?_) (fun h_29 => ?_)
    · skip
      have h_29 : ((b1) - (a1) : Int32) ≤ (nI 2000 : Int32) := h_29
      have hbm : bMi s1 a1 b1 = false := by unfold bMi; rw [hp_2.2, hp_8, hp_13, decide_eq_false h_19, decide_eq_true h_29]; rfl
      obtain ⟨ea, -, ha9⟩ := ix_in (by decide) (by decide) hp_8
      obtain ⟨eb, -, hb9⟩ := ix_in (by decide) (by decide) hp_13
      have hab : ix a1 ≤ ix b1 := Nat.le_of_not_lt (fun w => h_19 (by rw [ea, eb]; exact nI_lt w (by omega)))
      have hpl := (plI_lt hp_2.1 hp_2.2).1
      refine lv_iconst (v := nI 0) hx hb dX3_minutes_42 (by decide) ?_
      refine lv_istore (lv' := [(6, .int (nI 0)), (5, .int (nI (plI p1 s1))), (0, .ref (a 17)), (1, .int (p1)), (2, .int (s1)), (3, .int (a1)), (4, .int (b1))]) hx hb dX3_minutes_43 hl (by decide) rfl (fun ls hl => ?_)
      refine lv_iload_n hx hb dX3_minutes_45 rfl (lv_at hl 5 rfl) ?_
      refine xtop (y := nI (ix a1)) ea ?_
      refine lv_istore (lv' := [(7, .int (nI (ix a1))), (6, .int (nI 0)), (5, .int (nI (plI p1 s1))), (0, .ref (a 17)), (1, .int (p1)), (2, .int (s1)), (3, .int (a1)), (4, .int (b1))]) hx hb dX3_minutes_46 hl (by decide) rfl (fun ls hl => ?_)
      refine lv_iconst (v := nI 0) hx hb dX3_minutes_48 (by decide) ?_
      refine lv_istore (lv' := [(8, .int (nI 0)), (7, .int (nI (ix a1))), (6, .int (nI 0)), (5, .int (nI (plI p1 s1))), (0, .ref (a 17)), (1, .int (p1)), (2, .int (s1)), (3, .int (a1)), (4, .int (b1))]) hx hb dX3_minutes_49 hl (by decide) rfl (fun ls hl => ?_)
      refine lv_iload_n hx hb dX3_minutes_51 rfl (lv_at hl 7 rfl) ?_
      refine xtop (y := nI (ix a1)) ea ?_
      refine lv_istore (lv' := [(9, .int (nI (ix a1))), (8, .int (nI 0)), (7, .int (nI (ix a1))), (6, .int (nI 0)), (5, .int (nI (plI p1 s1))), (0, .ref (a 17)), (1, .int (p1)), (2, .int (s1)), (3, .int (a1)), (4, .int (b1))]) hx hb dX3_minutes_52 hl (by decide) rfl (fun ls hl => ?_)
      exact L54 (ix b1 + 1) 0 _ false (ix a1) (by omega) (by omega) hab eb hb9 hp_2.1 hbm hpl (by rw [Nat.sub_self]; rfl) (by omega) (fun m h1 h2 h3 => absurd h3 (nI_nlt h1 (by omega))) _ _ hP hD hS ls (lv_sub hl [5, 9, 4, 3, 2, 1, 0] rfl)
    · skip
      have h_29 : ¬ (((b1) - (a1) : Int32) ≤ (nI 2000 : Int32)) := h_29
      exact xt_throw hx hb hl9 hml hown ht hT9 kT_IOE_157 hl.1 dX3_minutes_32 dX3_minutes_35 dX3_minutes_36 dX3_minutes_38 dX3_minutes_41 htab hlocks (by decide) (Nat.le_of_ble_eq_true rfl) ⟨by decide, by decide⟩ (Or.inr (Or.inl ⟨rfl, hp_2.1, by unfold bMi; first | (rw [decide_eq_true h_19, Bool.true_or, Bool.or_true, Bool.or_true, Bool.or_true]) | (rw [decide_eq_false h_29, Bool.not_false, Bool.or_true, Bool.or_true, Bool.or_true, Bool.or_true])⟩))
set_option maxHeartbeats 4000000 in
set_option maxRecDepth 100000 in
theorem r_X3_opens (l : Launch) (D : va_G) (hl9 : l.stackTraces = false) (h0 : Nat) (a : Nat → Nat) (cI cZ : ClassId) (C : CS) (hC : cOk C) (hseg : segOn (cK C)) (p1 s1 t : Int32) : xTP l yX3_opens cX3_opens 8 (some .int) (xrt 8 131) [.ref (a 17), .int (p1), .int (s1), .int (t)] D h0 (wC a cI cZ C) (tyL cI cZ) (some (.int (opCr C p1 s1 t))) (wC a cI cZ C) (ok3 (bPc p1) (bSt s1 t) (false)) (fl3 eIA eIO eIS (bPc p1) (bSt s1 t) (false)) := by
  refine xTP.of (by decide +kernel) (Nat.le_of_ble_eq_true rfl) ?_
  intro p e s m args below meth cd hx hb hr hml hown hlocks htab ht hN hT9 hP hK hD hS ls hl
  have hl : lv_has ls 8 [(0, .ref (a 17)), (1, .int (p1)), (2, .int (s1)), (3, .int (t))] := hl
  have hown : s.vm.findClass RX3 = some m.cls := hown
  have hO := hC.1
  have hR := hC.2.1
  have hT0 := hC.2.2
  have hn := hO.1
  have L31 : ∀ (n : Nat) (ch : Int32) (k : Nat), (ix t + 2000 < k + n) → (ix t ≤ k) → (k ≤ 100000) → (k ≤ ix t + 2000) → (ix t ≤ 99999) → (bPc p1 = false) → (bSt s1 t = false) → (plI p1 s1 < 120) → (opCr C p1 s1 t = opnN (fun k => closedK (cK C) (plI p1 s1) (nI k)) k (min (ix t + 2000 - k) (100000 - k))) → (∀ m, k ≤ m → m < 100000 → nI m < ch → closedK (cK C) (plI p1 s1) (nI m) = true) → ∀ (H : Heap) (locs : List Loc), va_P D vwCl (wC a cI cZ C) H → va_D (xA (wC a cI cZ C)) (wC a cI cZ C) → va_S (xA (wC a cI cZ C)) s.heap H locs → ∀ ls : Array Slot, lv_has ls 8 [(0, .ref (a 17)), (4, .int (nI (plI p1 s1))), (5, .int (nI (min (ix t + 1999) 99999))), (6, .int (ch)), (7, .int (nI k))] → W p l e (xrt 8 131) s m args below meth cd H locs 0 0 (vx_MQ below (xQp (some (.int (opCr C p1 s1 t))) (ok3 (bPc p1) (bSt s1 t) (false)) D (wC a cI cZ C) (wC a cI cZ C)) (xXv (fl3 eIA eIO eIS (bPc p1) (bSt s1 t) (false))) args s 1 6 (xA (wC a cI cZ C))) (F0 m 31 ls []) := by
    intro n
    induction n with
    | zero =>
      intro ch k hfuel hk1 hk2 hk3 ht9 hpb hbs hpl hv hq
      exact absurd hfuel (by omega)
    | succ n ih31 =>
      intro ch k hfuel hk1 hk2 hk3 ht9 hpb hbs hpl hv hq H locs hP hD hS ls hl
      refine lv_iload hx hb dX3_opens_31 (lv_at hl 4 rfl) ?_
      refine lv_iload hx hb dX3_opens_33 (lv_at hl 2 rfl) ?_
      refine lv_icmp_gt (tgt := 81) hx hb dX3_opens_35 (by decide) (fun h_35 => ?_) (fun h_35 => ?_)
      · skip
        have h_35 : (nI (min (ix t + 1999) 99999) : Int32) < (nI k : Int32) := h_35
        have h_35 : (min (ix t + 1999) 99999) < k := (nI_ltI (by omega) (by omega)).mp h_35
        refine lv_iconst (v := (-1 : Int32)) hx hb dX3_opens_81 (by decide) ?_
        exact xp_iret (v := (-1 : Int32)) hx hb hr hlocks hS hP (by rw [hv, show min (ix t + 2000 - k) (100000 - k) = 0 by omega]; rfl) (⟨hpb, hbs, rfl⟩) dX3_opens_82
      · skip
        have h_35 : ¬ ((nI (min (ix t + 1999) 99999) : Int32) < (nI k : Int32)) := h_35
        have h_35 : ¬ ((min (ix t + 1999) 99999) < k) := fun z => h_35 ((nI_ltI (by omega) (by omega)).mpr z)
        refine lv_iload hx hb dX3_opens_38 (lv_at hl 4 rfl) ?_
        refine lv_iload hx hb dX3_opens_40 (lv_at hl 3 rfl) ?_
        refine lv_icmp_lt (tgt := 75) hx hb dX3_opens_42 (by decide) (fun h_42 => ?_) (fun h_42 => ?_)
        · skip
          have h_42 : (nI k : Int32) < (ch : Int32) := h_42
          have hcl := hq k (by omega) (by omega) h_42
          refine lv_iinc (v := nI (k + 1)) (lv' := [(7, .int (nI (k + 1))), (0, .ref (a 17)), (4, .int (nI (plI p1 s1))), (5, .int (nI (min (ix t + 1999) 99999))), (6, .int (ch))]) hx hb dX3_opens_75 hl (k := 4) rfl (nI_1 _) (by decide) rfl (fun ls hl => ?_)
          refine lv_goto (tgt := 31) hx hb dX3_opens_78 (by decide) ?_
          exact ih31 _ (k + 1) (by omega) (by omega) (by omega) (by omega) ht9 hpb hbs hpl (by rw [hv, show min (ix t + 2000 - k) (100000 - k) = min (ix t + 2000 - (k + 1)) (100000 - (k + 1)) + 1 by omega, opnN, if_pos (show closedK (cK C) (plI p1 s1) (nI k) = true by first | exact hcl | exact bI_t h_56)]) (fun m h1 h2 h3 => hq m (by omega) h2 h3) _ _ hP hD hS ls (lv_sub hl [1, 2, 3, 4, 0] rfl)
        · skip
          have h_42 : ¬ ((nI k : Int32) < (ch : Int32)) := h_42
          refine lv_aload_n hx hb dX3_opens_45 rfl (lv_at hl 0 rfl) ?_
          refine va_get (D := D) (ci := 3) (v := .ref (a 0)) (C := RX3) (T := TX3) (N := 6) hx hb ht inX3 hown hK hP 0 rfl rfl 0 (by decide) (ht _ wd107) (fun _ h9 => h9) rfl dX3_opens_46 ?_
          refine lv_iload hx hb dX3_opens_49 (lv_at hl 1 rfl) ?_
          refine lv_iload hx hb dX3_opens_51 (lv_at hl 4 rfl) ?_
          refine xrV (As := [.int (nI (plI p1 s1)), .int (nI k)]) (rest := []) hx hb hml hown ht hN kV_X3_154 (r_X0_isClosedAt l D a cI cZ (cK C) hO (plI p1 s1) hpl (nI k)) ⟨by decide, by decide⟩ (hP.sub (ws' := (wK a cI cZ (cK C))) [1, 2, 3, 4, 5, 6, 7, 8, 9, 10] rfl) hK rfl rfl rfl rfl hl.1 rfl (Nat.le_of_ble_eq_true rfl) dX3_opens_53 ⟨Nat.zero_le _, Nat.zero_le _⟩ ?_
          refine lv_if_ne (tgt := 62) hx hb dX3_opens_56 (by decide) (fun h_56 => ?_) (fun h_56 => ?_)
          · skip
            have h_56 : ¬ ((bI (closedK (cK C) (plI p1 s1) (nI k)) : Int32) = (0 : Int32)) := h_56
            refine lv_aload_n hx hb dX3_opens_62 rfl (lv_at hl 0 rfl) ?_
            refine va_get (D := D) (ci := 3) (v := .ref (a 0)) (C := RX3) (T := TX3) (N := 6) hx hb ht inX3 hown hK hP 0 rfl rfl 0 (by decide) (ht _ wd107) (fun _ h9 => h9) rfl dX3_opens_63 ?_
            refine lv_iload hx hb dX3_opens_66 (lv_at hl 1 rfl) ?_
            refine lv_iload hx hb dX3_opens_68 (lv_at hl 4 rfl) ?_
            refine xrV (As := [.int (nI (plI p1 s1)), .int (nI k)]) (rest := []) hx hb hml hown ht hN kV_X3_159 (r_X0_nextChangeOn l D a cI cZ (cK C) hO (plI p1 s1) hpl (nI k)) ⟨by decide, by decide⟩ (hP.sub (ws' := (wK a cI cZ (cK C))) [1, 2, 3, 4, 5, 6, 7, 8, 9, 10] rfl) hK rfl rfl rfl rfl hl.1 rfl (Nat.le_of_ble_eq_true rfl) dX3_opens_70 ⟨Nat.zero_le _, Nat.zero_le _⟩ ?_
            refine lv_istore (lv' := [(6, .int (nextOnK (cK C) (plI p1 s1) (nI k) (kN (cK C)))), (0, .ref (a 17)), (4, .int (nI (plI p1 s1))), (5, .int (nI (min (ix t + 1999) 99999))), (7, .int (nI k))]) hx hb dX3_opens_73 hl (by decide) rfl (fun ls hl => ?_)
            refine lv_iinc (v := nI (k + 1)) (lv' := [(7, .int (nI (k + 1))), (6, .int (nextOnK (cK C) (plI p1 s1) (nI k) (kN (cK C)))), (0, .ref (a 17)), (4, .int (nI (plI p1 s1))), (5, .int (nI (min (ix t + 1999) 99999)))]) hx hb dX3_opens_75 hl (k := 4) rfl (nI_1 _) (by decide) rfl (fun ls hl => ?_)
            refine lv_goto (tgt := 31) hx hb dX3_opens_78 (by decide) ?_
            exact ih31 _ (k + 1) (by omega) (by omega) (by omega) (by omega) ht9 hpb hbs hpl (by rw [hv, show min (ix t + 2000 - k) (100000 - k) = min (ix t + 2000 - (k + 1)) (100000 - (k + 1)) + 1 by omega, opnN, if_pos (show closedK (cK C) (plI p1 s1) (nI k) = true by first | exact hcl | exact bI_t h_56)]) (fun m h1 h2 h3 => (hseg (plI p1 s1) k m hpl (by omega) h2 h3).trans (bI_t h_56)) _ _ hP hD hS ls (lv_sub hl [2, 3, 4, 1, 0] rfl)
          · skip
            have h_56 : (bI (closedK (cK C) (plI p1 s1) (nI k)) : Int32) = (0 : Int32) := h_56
            refine lv_iload hx hb dX3_opens_59 (lv_at hl 4 rfl) ?_
            exact xp_iret (v := nI k) hx hb hr hlocks hS hP (by rw [hv, show min (ix t + 2000 - k) (100000 - k) = min (ix t + 2000 - (k + 1)) (100000 - (k + 1)) + 1 by omega, opnN, if_neg (by rw [bI_f h_56]; decide)]) (⟨hpb, hbs, rfl⟩) dX3_opens_61
  refine lv_iload_n hx hb dX3_opens_0 rfl (lv_at hl 1 rfl) ?_
  refine lv_iload_n hx hb dX3_opens_1 rfl (lv_at hl 2 rfl) ?_
  refine xtS (As := [.int (p1), .int (s1)]) (rest := []) hx hb hml hown ht hN hT9 kS_X3_133 (r_X3_needPlace l D hl9 h0 p1 s1) ⟨by decide, by decide⟩ (fun k q h => by simp at h) (hK.sub (tys' := []) [] rfl) rfl hl.1 rfl (Nat.le_of_ble_eq_true rfl) dX3_opens_2 ⟨by decide, by decide⟩ (fun E ce q9 H1 hF hz hk hce hcv hcl => xt_out htab hlocks (fl_place (t := t) hF (fun z => by unfold bSt; rw [z]; rfl)) hz hk hce hcv hcl) (fun hp_2 => ?_)
  refine lv_istore (lv' := [(4, .int (nI (plI p1 s1))), (0, .ref (a 17)), (1, .int (p1)), (2, .int (s1)), (3, .int (t))]) hx hb dX3_opens_5 hl (by decide) rfl (fun ls hl => ?_)
  refine lv_iload_n hx hb dX3_opens_7 rfl (lv_at hl 4 rfl) ?_
  refine xtS (As := [.int (t)]) (rest := []) hx hb hml hown ht hN hT9 kS_X3_56 (r_X3_needMinute l D hl9 h0 t) ⟨by decide, by decide⟩ (fun k q h => by simp at h) (hK.sub (tys' := []) [] rfl) rfl hl.1 rfl (Nat.le_of_ble_eq_true rfl) dX3_opens_8 ⟨by decide, by decide⟩ (fun E ce q9 H1 hF hz hk hce hcv hcl => xt_out htab hlocks (Or.inr (Or.inl ⟨hF.1, hp_2.1, by unfold bSt; rw [hF.2, Bool.not_false, Bool.or_true]⟩)) hz hk hce hcv hcl) (fun hp_8 => ?_)
  obtain ⟨et, -, ht9⟩ := ix_in (by decide) (by decide) hp_8
  have hpl := (plI_lt hp_2.1 hp_2.2).1
  have hbs : bSt s1 t = false := by unfold bSt; rw [hp_2.2, hp_8]; rfl
  refine lv_iload_n hx hb dX3_opens_11 rfl (lv_at hl 4 rfl) ?_
  refine xtop (y := nI (ix t)) et ?_
  refine lv_sipush (v := nI 2000) hx hb dX3_opens_12 (by decide) ?_
  refine lv_iadd hx hb dX3_opens_15 ?_
  refine xtop (y := nI ((ix t) + 2000)) (nI_add _ _) ?_
  refine lv_iconst (v := nI 1) hx hb dX3_opens_16 (by decide) ?_
  refine lv_isub hx hb dX3_opens_17 ?_
  refine xtop (y := nI (ix t + 1999)) (nI_pred (ix t + 1999)) ?_
  refine lv_ldc (v := nI 99999) hx hb hown (ht _ wd239) dX3_opens_18 ?_
  refine xr_min hx hb (hml.trans hl.1.symm) hown (ht _ wd506) (ht _ wd464) (ht _ wd32) (ht _ wd465) (by decide) (by decide) (Nat.zero_le _) (Nat.zero_le _) dX3_opens_20 ?_
  refine xtop (y := nI (min (ix t + 1999) 99999)) (mnI_min (by omega) (by decide)) ?_
  refine lv_istore (lv' := [(5, .int (nI (min (ix t + 1999) 99999))), (4, .int (nI (plI p1 s1))), (0, .ref (a 17)), (1, .int (p1)), (2, .int (s1)), (3, .int (t))]) hx hb dX3_opens_23 hl (by decide) rfl (fun ls hl => ?_)
  refine lv_iload_n hx hb dX3_opens_25 rfl (lv_at hl 5 rfl) ?_
  refine xtop (y := nI (ix t)) et ?_
  refine lv_istore (lv' := [(6, .int (nI (ix t))), (5, .int (nI (min (ix t + 1999) 99999))), (4, .int (nI (plI p1 s1))), (0, .ref (a 17)), (1, .int (p1)), (2, .int (s1)), (3, .int (t))]) hx hb dX3_opens_26 hl (by decide) rfl (fun ls hl => ?_)
  refine lv_iload_n hx hb dX3_opens_28 rfl (lv_at hl 6 rfl) ?_
  refine xtop (y := nI (ix t)) et ?_
  refine lv_istore (lv' := [(7, .int (nI (ix t))), (6, .int (nI (ix t))), (5, .int (nI (min (ix t + 1999) 99999))), (4, .int (nI (plI p1 s1))), (0, .ref (a 17)), (1, .int (p1)), (2, .int (s1)), (3, .int (t))]) hx hb dX3_opens_29 hl (by decide) rfl (fun ls hl => ?_)
  exact L31 2001 _ (ix t) (by omega) (by omega) (by omega) (by omega) ht9 hp_2.1 hbs hpl (by rw [opCr, show min (ix t + 2000 - ix t) (100000 - ix t) = min 2000 (100000 - ix t) by omega]) (fun m h1 h2 h3 => absurd h3 (nI_nlt h1 (by omega))) _ _ hP hD hS ls (lv_sub hl [4, 3, 2, 1, 0] rfl)
