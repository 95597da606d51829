theorem kV_L_7 : xcV RL RX3 7 yX3_close cX3_close 8 (some .int) 6 := ⟨wd139, wd136, wd137, wd138, wd21, rfl, ⟨by decide +kernel, by decide +kernel, by decide +kernel⟩⟩
theorem kV_L_19 : xcV RL RX3 19 yX3_answer cX3_answer 3 none 2 := ⟨wd347, wd344, wd345, wd346, wd21, rfl, ⟨by decide +kernel, by decide +kernel, by decide +kernel⟩⟩
theorem kV_L_25 : xcV RL RX3 25 yX3_lift cX3_lift 3 (some .boolean) 2 := ⟨wd387, wd384, wd385, wd386, wd21, rfl, ⟨by decide +kernel, by decide +kernel, by decide +kernel⟩⟩
theorem kV_L_29 : xcV RL RX3 29 yX3_incident cX3_incident 3 none 2 := ⟨wd408, wd405, wd406, wd407, wd21, rfl, ⟨by decide +kernel, by decide +kernel, by decide +kernel⟩⟩
theorem kV_L_32 : xcV RL RX3 32 yX3_step cX3_step 5 (some .int) 3 := ⟨wd419, wd416, wd417, wd418, wd21, rfl, ⟨by decide +kernel, by decide +kernel, by decide +kernel⟩⟩
theorem kV_L_36 : xcV RL RX3 36 yX3_tick cX3_tick 5 (some .int) 1 := ⟨wd448, wd445, wd446, wd447, wd21, rfl, ⟨by decide +kernel, by decide +kernel, by decide +kernel⟩⟩
theorem kV_L_40 : xcV RL RX3 40 yX3_closed cX3_closed 5 (some .boolean) 3 := ⟨wd472, wd469, wd470, wd471, wd21, rfl, ⟨by decide +kernel, by decide +kernel, by decide +kernel⟩⟩
theorem kV_L_44 : xcV RL RX3 44 yX3_minutes cX3_minutes 10 (some .int) 4 := ⟨wd493, wd490, wd491, wd492, wd21, rfl, ⟨by decide +kernel, by decide +kernel, by decide +kernel⟩⟩
theorem kV_L_48 : xcV RL RX3 48 yX3_opens cX3_opens 8 (some .int) 3 := ⟨wd505, wd502, wd503, wd504, wd21, rfl, ⟨by decide +kernel, by decide +kernel, by decide +kernel⟩⟩
theorem kV_L_51 : xcV RL RX3 51 yX3_reason cX3_reason 6 (some .int) 4 := ⟨wd513, wd510, wd511, wd512, wd21, rfl, ⟨by decide +kernel, by decide +kernel, by decide +kernel⟩⟩
theorem kV_L_54 : xcV RL RX3 54 yX3_speed cX3_speed 5 (some .int) 3 := ⟨wd533, wd530, wd531, wd532, wd21, rfl, ⟨by decide +kernel, by decide +kernel, by decide +kernel⟩⟩
theorem kV_L_57 : xcV RL RX3 57 yX3_notice cX3_notice 3 (some .int) 2 := ⟨wd544, wd541, wd542, wd543, wd21, rfl, ⟨by decide +kernel, by decide +kernel, by decide +kernel⟩⟩
theorem kV_L_61 : xcV RL RX3 61 yX3_blocked cX3_blocked 4 (some .int) 1 := ⟨wd560, wd557, wd558, wd559, wd21, rfl, ⟨by decide +kernel, by decide +kernel, by decide +kernel⟩⟩
set_option maxHeartbeats 4000000 in
set_option maxRecDepth 100000 in
theorem w_close (l : Launch) (D : va_G) (hl9 : l.stackTraces = false) (h0 : Nat) (a : Nat → Nat) (o : Nat) (cI cZ cL : ClassId) (C : CS) (hC : cOk C) (f : Nat → Int64) (k1 p1 s1 a1 b1 x1 : Int32) : xLW l yL_close cL_close 9 [(0, 18, 21, 13), (0, 18, 25, 15), (0, 18, 29, 17)] (xrt 8 139) [.ref (a 17), .int (k1), .int (p1), .int (s1), .int (a1), .int (b1), .int (x1), .ref (o)] D h0 (wJ a o cI cZ cL C f) (tyJ cI cZ cL) (thrM (bBad k1 p1 x1) (bRng k1 s1 a1 b1 x1) (decide (100 ≤ kN (cK C)))) (wJ a o cI cZ cL (nxC ((bBad k1 p1 x1) || (bRng k1 s1 a1 b1 x1) || (decide (100 ≤ kN (cK C)))) C (closC C k1 p1 s1 a1 b1 x1)) (nxF ((bBad k1 p1 x1) || (bRng k1 s1 a1 b1 x1) || (decide (100 ≤ kN (cK C)))) f (nI (kN (cK C))).toInt64)) := by
  refine xLW.of (by decide +kernel) (Nat.le_of_ble_eq_true rfl) ?_
  intro p e s m args below meth cd hx hb hr hml hown hlocks htab ht hN hT9 hE hP hK hD0 hD ls hl
  have hl : lv_has ls 9 [(0, .ref (a 17)), (1, .int (k1)), (2, .int (p1)), (3, .int (s1)), (4, .int (a1)), (5, .int (b1)), (6, .int (x1)), (7, .ref (o))] := hl
  have hown : s.vm.findClass RL = some m.cls := hown
  have hK2 := hK.sub (tys' := tyL cI cZ) [0, 1] rfl
  refine lv_aload hx hb dL_close_0 (lv_at hl 7 rfl) ?_
  refine lv_iconst (v := nI 0) hx hb dL_close_2 (by decide) ?_
  refine lv_aload_n hx hb dL_close_3 rfl (lv_at hl 0 rfl) ?_
  refine lv_iload_n hx hb dL_close_4 rfl (lv_at hl 1 rfl) ?_
  refine lv_iload_n hx hb dL_close_5 rfl (lv_at hl 2 rfl) ?_
  refine lv_iload_n hx hb dL_close_6 rfl (lv_at hl 3 rfl) ?_
  refine lv_iload hx hb dL_close_7 (lv_at hl 4 rfl) ?_
  refine lv_iload hx hb dL_close_9 (lv_at hl 5 rfl) ?_
  refine lv_iload hx hb dL_close_11 (lv_at hl 6 rfl) ?_
  refine xlV (As := [.int (k1), .int (p1), .int (s1), .int (a1), .int (b1), .int (x1)]) (rest := [.int (nI 0), .ref (o)]) (wr := [(o, .inl (cL, 1, .inr (.inl f)))]) (ws2 := wJ a o cI cZ cL (closC C k1 p1 s1 a1 b1 x1) f) hx hb hml hown ht hN hT9 kV_L_7 (r_X3_close l D hl9 h0 a cI cZ C hC k1 p1 s1 a1 b1 x1) ⟨by decide, by decide⟩ hP hD0 hD hK2 [0, 1, 2, 3, 4, 5, 6, 7, 8, 9, 10, 11, 12, 13, 14, 15, 16, 17] [18] [1, 2, 3, 4, 5, 6, 7, 8, 9, 10, 11, 12, 13, 14, 15, 16, 17, 18, 0] rfl rfl (by decide) (by decide) (by decide) rfl rfl (by decide) rfl rfl rfl rfl hl.1 rfl (Nat.le_of_ble_eq_true rfl) dL_close_13 ⟨by decide, by decide⟩ (fun E ce q9 H locs hF hP hS hce hcv hcl => ?_) (fun hps H locs hP hD hS => ?_)
  · rcases hF with ⟨rfl, g1⟩ | ⟨rfl, g1, g2⟩ | ⟨rfl, g1, g2, g3⟩
    · refine vx_catch (own := RL) (name := eIA) hown [] ⟨0, 18, 21, 13⟩ [⟨0, 18, 25, 15⟩, ⟨0, 18, 29, 17⟩] (htab.trans rfl) (fun _ h9 => absurd h9 List.not_mem_nil) rfl (by decide) (ht _ wd133) (va_Nw.use rfl (hT9.2.2.2.2.1 eIA (by decide +kernel))) hce hcv hcl ?_
      refine lv_astore (lv' := [(8, .ref (q9)), (0, .ref (a 17)), (1, .int (k1)), (2, .int (p1)), (3, .int (s1)), (4, .int (a1)), (5, .int (b1)), (6, .int (x1)), (7, .ref (o))]) hx hb dL_close_21 hl (by decide) rfl (fun ls hl => ?_)
      refine lv_iconst (v := nI 1) hx hb dL_close_23 (by decide) ?_
      exact xl_iret hx hb hr hlocks hS (by rw [nxC_t (any_1 g1), nxF_t (any_1 g1)]; exact hP) (thr_1 g1) dL_close_24
    · refine vx_catch (own := RL) (name := eIO) hown [⟨0, 18, 21, 13⟩] ⟨0, 18, 25, 15⟩ [⟨0, 18, 29, 17⟩] (htab.trans rfl) (List.forall_mem_cons.mpr ⟨Or.inr ⟨by decide, eIA, ht _ wd133, hE (eIO, eIA) (by decide +kernel)⟩, (fun _ h9 => absurd h9 List.not_mem_nil)⟩) rfl (by decide) (ht _ wd134) (va_Nw.use rfl (hT9.2.2.2.2.1 eIO (by decide +kernel))) hce hcv hcl ?_
      refine lv_astore (lv' := [(8, .ref (q9)), (0, .ref (a 17)), (1, .int (k1)), (2, .int (p1)), (3, .int (s1)), (4, .int (a1)), (5, .int (b1)), (6, .int (x1)), (7, .ref (o))]) hx hb dL_close_25 hl (by decide) rfl (fun ls hl => ?_)
      refine lv_iconst (v := nI 2) hx hb dL_close_27 (by decide) ?_
      exact xl_iret hx hb hr hlocks hS (by rw [nxC_t (any_2 g2), nxF_t (any_2 g2)]; exact hP) (thr_2 g1 g2) dL_close_28
    · refine vx_catch (own := RL) (name := eUO) hown [⟨0, 18, 21, 13⟩, ⟨0, 18, 25, 15⟩] ⟨0, 18, 29, 17⟩ [] (htab.trans rfl) (List.forall_mem_cons.mpr ⟨Or.inr ⟨by decide, eIA, ht _ wd133, hE (eUO, eIA) (by decide +kernel)⟩, (List.forall_mem_cons.mpr ⟨Or.inr ⟨by decide, eIO, ht _ wd134, hE (eUO, eIO) (by decide +kernel)⟩, (fun _ h9 => absurd h9 List.not_mem_nil)⟩)⟩) rfl (by decide) (ht _ wd135) (va_Nw.use rfl (hT9.2.2.2.2.1 eUO (by decide +kernel))) hce hcv hcl ?_
      refine lv_astore (lv' := [(8, .ref (q9)), (0, .ref (a 17)), (1, .int (k1)), (2, .int (p1)), (3, .int (s1)), (4, .int (a1)), (5, .int (b1)), (6, .int (x1)), (7, .ref (o))]) hx hb dL_close_29 hl (by decide) rfl (fun ls hl => ?_)
      refine lv_iconst (v := nI 3) hx hb dL_close_31 (by decide) ?_
      exact xl_iret hx hb hr hlocks hS (by rw [nxC_t (any_3 g3), nxF_t (any_3 g3)]; exact hP) (thr_3 g1 g2 g3) dL_close_32
  · skip
    refine lv_i2l (v := (nI (kN (cK C))).toInt64) hx hb dL_close_16 rfl ?_
    refine xl_last hx hb hK hP hD hS 18 2 rfl rfl dL_close_17 (fun H locs hP hD hS => ?_)
    have hP : va_P D vwCl (wJ a o cI cZ cL (closC C k1 p1 s1 a1 b1 x1) (vp_updL f 0 (nI (kN (cK C))).toInt64)) H := hP
    refine lv_goto (tgt := 33) hx hb dL_close_18 (by decide) ?_
    refine lv_iconst (v := nI 0) hx hb dL_close_33 (by decide) ?_
    exact xl_iret hx hb hr hlocks hS (by rw [nxC_f (any_ok hps), nxF_f (any_ok hps)]; exact hP) (thr_ok hps) dL_close_34
set_option maxHeartbeats 4000000 in
set_option maxRecDepth 100000 in
theorem w_answer (l : Launch) (D : va_G) (hl9 : l.stackTraces = false) (h0 : Nat) (a : Nat → Nat) (o : Nat) (cI cZ cL : ClassId) (C : CS) (hC : cOk C) (f : Nat → Int64) (i1 : Int32) (b1 : Bool) : xLW l yL_answer cL_answer 4 [(0, 6, 9, 13), (0, 6, 12, 23)] (xrt 8 133) [.ref (a 17), .int (i1), .int (bI b1)] D h0 (wJ a o cI cZ cL C f) (tyJ cI cZ cL) (thrM (bCl (kN (cK C)) i1) (stK (cK C) i1) (false)) (wJ a o cI cZ cL (nxC ((bCl (kN (cK C)) i1) || (stK (cK C) i1) || false) C (ansC C i1 b1)) f) := by
  refine xLW.of (by decide +kernel) (Nat.le_of_ble_eq_true rfl) ?_
  intro p e s m args below meth cd hx hb hr hml hown hlocks htab ht hN hT9 hE hP hK hD0 hD ls hl
  have hl : lv_has ls 4 [(0, .ref (a 17)), (1, .int (i1)), (2, .int (bI b1))] := hl
  have hown : s.vm.findClass RL = some m.cls := hown
  have hK2 := hK.sub (tys' := tyL cI cZ) [0, 1] rfl
  refine lv_aload_n hx hb dL_answer_0 rfl (lv_at hl 0 rfl) ?_
  refine lv_iload_n hx hb dL_answer_1 rfl (lv_at hl 1 rfl) ?_
  refine lv_iload_n hx hb dL_answer_2 rfl (lv_at hl 2 rfl) ?_
  refine xlV (As := [.int (i1), .int (bI b1)]) (rest := []) (wr := [(o, .inl (cL, 1, .inr (.inl f)))]) (ws2 := wJ a o cI cZ cL (ansC C i1 b1) f) hx hb hml hown ht hN hT9 kV_L_19 (r_X3_answer l D hl9 h0 a cI cZ C hC i1 b1) ⟨by decide, by decide⟩ hP hD0 hD hK2 [0, 1, 2, 3, 4, 5, 6, 7, 8, 9, 10, 11, 12, 13, 14, 15, 16, 17] [18] [1, 2, 3, 4, 5, 6, 7, 8, 9, 10, 11, 12, 13, 14, 15, 16, 17, 18, 0] rfl rfl (by decide) (by decide) (by decide) rfl rfl (by decide) rfl rfl rfl rfl hl.1 rfl (Nat.le_of_ble_eq_true rfl) dL_answer_3 ⟨by decide, by decide⟩ (fun E ce q9 H locs hF hP hS hce hcv hcl => ?_) (fun hps H locs hP hD hS => ?_)
  · rcases hF with ⟨rfl, g1⟩ | ⟨rfl, g1, g2⟩ | ⟨rfl, g1, g2, g3⟩
    · refine vx_catch (own := RL) (name := eIA) hown [] ⟨0, 6, 9, 13⟩ [⟨0, 6, 12, 23⟩] (htab.trans rfl) (fun _ h9 => absurd h9 List.not_mem_nil) rfl (by decide) (ht _ wd133) (va_Nw.use rfl (hT9.2.2.2.2.1 eIA (by decide +kernel))) hce hcv hcl ?_
      refine lv_astore_n (lv' := [(3, .ref (q9)), (0, .ref (a 17)), (1, .int (i1)), (2, .int (bI b1))]) hx hb dL_answer_9 rfl hl (by decide) rfl (fun ls hl => ?_)
      refine lv_iconst (v := nI 1) hx hb dL_answer_10 (by decide) ?_
      exact xl_iret hx hb hr hlocks hS (by rw [nxC_t (any_1 g1)]; exact hP) (thr_1 g1) dL_answer_11
    · refine vx_catch (own := RL) (name := eIS) hown [⟨0, 6, 9, 13⟩] ⟨0, 6, 12, 23⟩ [] (htab.trans rfl) (List.forall_mem_cons.mpr ⟨Or.inr ⟨by decide, eIA, ht _ wd133, hE (eIS, eIA) (by decide +kernel)⟩, (fun _ h9 => absurd h9 List.not_mem_nil)⟩) rfl (by decide) (ht _ wd343) (va_Nw.use rfl (hT9.2.2.2.2.1 eIS (by decide +kernel))) hce hcv hcl ?_
      refine lv_astore_n (lv' := [(3, .ref (q9)), (0, .ref (a 17)), (1, .int (i1)), (2, .int (bI b1))]) hx hb dL_answer_12 rfl hl (by decide) rfl (fun ls hl => ?_)
      refine lv_iconst (v := nI 2) hx hb dL_answer_13 (by decide) ?_
      exact xl_iret hx hb hr hlocks hS (by rw [nxC_t (any_2 g2)]; exact hP) (thr_2 g1 g2) dL_answer_14
    · exact absurd g3 (by decide)
  · skip
    refine lv_goto (tgt := 15) hx hb dL_answer_6 (by decide) ?_
    refine lv_iconst (v := nI 0) hx hb dL_answer_15 (by decide) ?_
    exact xl_iret hx hb hr hlocks hS (by rw [nxC_f (any_ok hps)]; exact hP) (thr_ok hps) dL_answer_16
set_option maxHeartbeats 4000000 in
set_option maxRecDepth 100000 in
theorem w_lift (l : Launch) (D : va_G) (hl9 : l.stackTraces = false) (h0 : Nat) (a : Nat → Nat) (o : Nat) (cI cZ cL : ClassId) (C : CS) (hC : cOk C) (f : Nat → Int64) (i1 v1 : Int32) : xLW l yL_lift cL_lift 5 [(0, 17, 20, 13), (0, 17, 24, 15), (0, 17, 28, 23)] (xrt 8 133) [.ref (a 17), .int (i1), .int (v1), .ref (o)] D h0 (wJ a o cI cZ cL C f) (tyJ cI cZ cL) (thrM (bCl (kN (cK C)) i1) (bBy v1) (ovK (cK C) (cT C) i1)) (wJ a o cI cZ cL (nxC ((bCl (kN (cK C)) i1) || (bBy v1) || (ovK (cK C) (cT C) i1)) C (liftC C i1 v1)) (nxF ((bCl (kN (cK C)) i1) || (bBy v1) || (ovK (cK C) (cT C) i1)) f (bI (gaveK (cK C) (ix i1) v1)).toInt64)) := by
  refine xLW.of (by decide +kernel) (Nat.le_of_ble_eq_true rfl) ?_
  intro p e s m args below meth cd hx hb hr hml hown hlocks htab ht hN hT9 hE hP hK hD0 hD ls hl
  have hl : lv_has ls 5 [(0, .ref (a 17)), (1, .int (i1)), (2, .int (v1)), (3, .ref (o))] := hl
  have hown : s.vm.findClass RL = some m.cls := hown
  have hK2 := hK.sub (tys' := tyL cI cZ) [0, 1] rfl
  refine lv_aload_n hx hb dL_lift_0 rfl (lv_at hl 3 rfl) ?_
  refine lv_iconst (v := nI 0) hx hb dL_lift_1 (by decide) ?_
  refine lv_aload_n hx hb dL_lift_2 rfl (lv_at hl 0 rfl) ?_
  refine lv_iload_n hx hb dL_lift_3 rfl (lv_at hl 1 rfl) ?_
  refine lv_iload_n hx hb dL_lift_4 rfl (lv_at hl 2 rfl) ?_
  refine xlV (As := [.int (i1), .int (v1)]) (rest := [.int (nI 0), .ref (o)]) (wr := [(o, .inl (cL, 1, .inr (.inl f)))]) (ws2 := wJ a o cI cZ cL (liftC C i1 v1) f) hx hb hml hown ht hN hT9 kV_L_25 (r_X3_lift l D hl9 h0 a cI cZ C hC i1 v1) ⟨by decide, by decide⟩ hP hD0 hD hK2 [0, 1, 2, 3, 4, 5, 6, 7, 8, 9, 10, 11, 12, 13, 14, 15, 16, 17] [18] [1, 2, 3, 4, 5, 6, 7, 8, 9, 10, 11, 12, 13, 14, 15, 16, 17, 18, 0] rfl rfl (by decide) (by decide) (by decide) rfl rfl (by decide) rfl rfl rfl rfl hl.1 rfl (Nat.le_of_ble_eq_true rfl) dL_lift_5 ⟨by decide, by decide⟩ (fun E ce q9 H locs hF hP hS hce hcv hcl => ?_) (fun hps H locs hP hD hS => ?_)
  · rcases hF with ⟨rfl, g1⟩ | ⟨rfl, g1, g2⟩ | ⟨rfl, g1, g2, g3⟩
    · refine vx_catch (own := RL) (name := eIA) hown [] ⟨0, 17, 20, 13⟩ [⟨0, 17, 24, 15⟩, ⟨0, 17, 28, 23⟩] (htab.trans rfl) (fun _ h9 => absurd h9 List.not_mem_nil) rfl (by decide) (ht _ wd133) (va_Nw.use rfl (hT9.2.2.2.2.1 eIA (by decide +kernel))) hce hcv hcl ?_
      refine lv_astore (lv' := [(4, .ref (q9)), (0, .ref (a 17)), (1, .int (i1)), (2, .int (v1)), (3, .ref (o))]) hx hb dL_lift_20 hl (by decide) rfl (fun ls hl => ?_)
      refine lv_iconst (v := nI 1) hx hb dL_lift_22 (by decide) ?_
      exact xl_iret hx hb hr hlocks hS (by rw [nxC_t (any_1 g1), nxF_t (any_1 g1)]; exact hP) (thr_1 g1) dL_lift_23
    · refine vx_catch (own := RL) (name := eIO) hown [⟨0, 17, 20, 13⟩] ⟨0, 17, 24, 15⟩ [⟨0, 17, 28, 23⟩] (htab.trans rfl) (List.forall_mem_cons.mpr ⟨Or.inr ⟨by decide, eIA, ht _ wd133, hE (eIO, eIA) (by decide +kernel)⟩, (fun _ h9 => absurd h9 List.not_mem_nil)⟩) rfl (by decide) (ht _ wd134) (va_Nw.use rfl (hT9.2.2.2.2.1 eIO (by decide +kernel))) hce hcv hcl ?_
      refine lv_astore (lv' := [(4, .ref (q9)), (0, .ref (a 17)), (1, .int (i1)), (2, .int (v1)), (3, .ref (o))]) hx hb dL_lift_24 hl (by decide) rfl (fun ls hl => ?_)
      refine lv_iconst (v := nI 2) hx hb dL_lift_26 (by decide) ?_
      exact xl_iret hx hb hr hlocks hS (by rw [nxC_t (any_2 g2), nxF_t (any_2 g2)]; exact hP) (thr_2 g1 g2) dL_lift_27
    · refine vx_catch (own := RL) (name := eIS) hown [⟨0, 17, 20, 13⟩, ⟨0, 17, 24, 15⟩] ⟨0, 17, 28, 23⟩ [] (htab.trans rfl) (List.forall_mem_cons.mpr ⟨Or.inr ⟨by decide, eIA, ht _ wd133, hE (eIS, eIA) (by decide +kernel)⟩, (List.forall_mem_cons.mpr ⟨Or.inr ⟨by decide, eIO, ht _ wd134, hE (eIS, eIO) (by decide +kernel)⟩, (fun _ h9 => absurd h9 List.not_mem_nil)⟩)⟩) rfl (by decide) (ht _ wd343) (va_Nw.use rfl (hT9.2.2.2.2.1 eIS (by decide +kernel))) hce hcv hcl ?_
      refine lv_astore (lv' := [(4, .ref (q9)), (0, .ref (a 17)), (1, .int (i1)), (2, .int (v1)), (3, .ref (o))]) hx hb dL_lift_28 hl (by decide) rfl (fun ls hl => ?_)
      refine lv_iconst (v := nI 3) hx hb dL_lift_30 (by decide) ?_
      exact xl_iret hx hb hr hlocks hS (by rw [nxC_t (any_3 g3), nxF_t (any_3 g3)]; exact hP) (thr_3 g1 g2 g3) dL_lift_31
  · skip
    refine lv_if_eq (tgt := 15) hx hb dL_lift_8 (by decide) (fun hz => ?_) (fun hz => ?_)
    · skip
      refine lv_lconst (v := (bI (gaveK (cK C) (ix i1) v1)).toInt64) hx hb dL_lift_15 (by rw [hz]; decide) ?_
      refine xl_last hx hb hK hP hD hS 18 2 rfl rfl dL_lift_16 (fun H locs hP hD hS => ?_)
      have hP : va_P D vwCl (wJ a o cI cZ cL (liftC C i1 v1) (vp_updL f 0 (bI (gaveK (cK C) (ix i1) v1)).toInt64)) H := hP
      refine lv_goto (tgt := 32) hx hb dL_lift_17 (by decide) ?_
      refine lv_iconst (v := nI 0) hx hb dL_lift_32 (by decide) ?_
      exact xl_iret hx hb hr hlocks hS (by rw [nxC_f (any_ok hps), nxF_f (any_ok hps)]; exact hP) (thr_ok hps) dL_lift_33
    · skip
      refine lv_lconst (v := (bI (gaveK (cK C) (ix i1) v1)).toInt64) hx hb dL_lift_11 (by rw [bI_t hz]; decide) ?_
      refine lv_goto (tgt := 16) hx hb dL_lift_12 (by decide) ?_
      refine xl_last hx hb hK hP hD hS 18 2 rfl rfl dL_lift_16 (fun H locs hP hD hS => ?_)
      have hP : va_P D vwCl (wJ a o cI cZ cL (liftC C i1 v1) (vp_updL f 0 (bI (gaveK (cK C) (ix i1) v1)).toInt64)) H := hP
      refine lv_goto (tgt := 32) hx hb dL_lift_17 (by decide) ?_
      refine lv_iconst (v := nI 0) hx hb dL_lift_32 (by decide) ?_
      exact xl_iret hx hb hr hlocks hS (by rw [nxC_f (any_ok hps), nxF_f (any_ok hps)]; exact hP) (thr_ok hps) dL_lift_33
set_option maxHeartbeats 4000000 in
set_option maxRecDepth 100000 in
theorem w_incident (l : Launch) (D : va_G) (hl9 : l.stackTraces = false) (h0 : Nat) (a : Nat → Nat) (o : Nat) (cI cZ cL : ClassId) (C : CS) (hC : cOk C) (f : Nat → Int64) (i1 : Int32) (b1 : Bool) : xLW l yL_incident cL_incident 4 [(0, 6, 9, 13)] (xrt 7 132) [.ref (a 17), .int (i1), .int (bI b1)] D h0 (wJ a o cI cZ cL C f) (tyJ cI cZ cL) (thrM (bIn i1) (false) (false)) (wJ a o cI cZ cL (nxC ((bIn i1) || false || false) C (incC C i1 b1)) f) := by
  refine xLW.of (by decide +kernel) (Nat.le_of_ble_eq_true rfl) ?_
  intro p e s m args below meth cd hx hb hr hml hown hlocks htab ht hN hT9 hE hP hK hD0 hD ls hl
  have hl : lv_has ls 4 [(0, .ref (a 17)), (1, .int (i1)), (2, .int (bI b1))] := hl
  have hown : s.vm.findClass RL = some m.cls := hown
  have hK2 := hK.sub (tys' := tyL cI cZ) [0, 1] rfl
  refine lv_aload_n hx hb dL_incident_0 rfl (lv_at hl 0 rfl) ?_
  refine lv_iload_n hx hb dL_incident_1 rfl (lv_at hl 1 rfl) ?_
  refine lv_iload_n hx hb dL_incident_2 rfl (lv_at hl 2 rfl) ?_
  refine xlV (As := [.int (i1), .int (bI b1)]) (rest := []) (wr := [(o, .inl (cL, 1, .inr (.inl f)))]) (ws2 := wJ a o cI cZ cL (incC C i1 b1) f) hx hb hml hown ht hN hT9 kV_L_29 (r_X3_incident l D hl9 h0 a cI cZ C hC i1 b1) ⟨by decide, by decide⟩ hP hD0 hD hK2 [0, 1, 2, 3, 4, 5, 6, 7, 8, 9, 10, 11, 12, 13, 14, 15, 16, 17] [18] [1, 2, 3, 4, 5, 6, 7, 8, 9, 10, 11, 12, 13, 14, 15, 16, 17, 18, 0] rfl rfl (by decide) (by decide) (by decide) rfl rfl (by decide) rfl rfl rfl rfl hl.1 rfl (Nat.le_of_ble_eq_true rfl) dL_incident_3 ⟨by decide, by decide⟩ (fun E ce q9 H locs hF hP hS hce hcv hcl => ?_) (fun hps H locs hP hD hS => ?_)
  · rcases hF with ⟨rfl, g1⟩ | ⟨rfl, g1, g2⟩ | ⟨rfl, g1, g2, g3⟩
    · refine vx_catch (own := RL) (name := eIA) hown [] ⟨0, 6, 9, 13⟩ [] (htab.trans rfl) (fun _ h9 => absurd h9 List.not_mem_nil) rfl (by decide) (ht _ wd133) (va_Nw.use rfl (hT9.2.2.2.2.1 eIA (by decide +kernel))) hce hcv hcl ?_
      refine lv_astore_n (lv' := [(3, .ref (q9)), (0, .ref (a 17)), (1, .int (i1)), (2, .int (bI b1))]) hx hb dL_incident_9 rfl hl (by decide) rfl (fun ls hl => ?_)
      refine lv_iconst (v := nI 1) hx hb dL_incident_10 (by decide) ?_
      exact xl_iret hx hb hr hlocks hS (by rw [nxC_t (any_1 g1)]; exact hP) (thr_1 g1) dL_incident_11
    · exact absurd g2 (by decide)
    · exact absurd g3 (by decide)
  · skip
    refine lv_goto (tgt := 12) hx hb dL_incident_6 (by decide) ?_
    refine lv_iconst (v := nI 0) hx hb dL_incident_12 (by decide) ?_
    exact xl_iret hx hb hr hlocks hS (by rw [nxC_f (any_ok hps)]; exact hP) (thr_ok hps) dL_incident_13
set_option maxHeartbeats 4000000 in
set_option maxRecDepth 100000 in
theorem w_step (l : Launch) (D : va_G) (hl9 : l.stackTraces = false) (h0 : Nat) (a : Nat → Nat) (o : Nat) (cI cZ cL : ClassId) (C : CS) (hC : cOk C) (f : Nat → Int64) (u1 p1 s1 : Int32) : xLW l yL_step cL_step 6 [(0, 12, 15, 13), (0, 12, 19, 15), (0, 12, 23, 17)] (xrt 9 155) [.ref (a 17), .int (u1), .int (p1), .int (s1), .ref (o)] D h0 (wJ a o cI cZ cL C f) (tyJ cI cZ cL) (thrM (bUp u1 p1) (bSd p1 s1) (fuR (cR C) u1 p1)) (wJ a o cI cZ cL (nxC ((bUp u1 p1) || (bSd p1 s1) || (fuR (cR C) u1 p1)) C (stepC C u1 p1 s1)) (nxF ((bUp u1 p1) || (bSd p1 s1) || (fuR (cR C) u1 p1)) f (stepCr C u1 p1).toInt64)) := by
  refine xLW.of (by decide +kernel) (Nat.le_of_ble_eq_true rfl) ?_
  intro p e s m args below meth cd hx hb hr hml hown hlocks htab ht hN hT9 hE hP hK hD0 hD ls hl
  have hl : lv_has ls 6 [(0, .ref (a 17)), (1, .int (u1)), (2, .int (p1)), (3, .int (s1)), (4, .ref (o))] := hl
  have hown : s.vm.findClass RL = some m.cls := hown
  have hK2 := hK.sub (tys' := tyL cI cZ) [0, 1] rfl
  refine lv_aload hx hb dL_step_0 (lv_at hl 4 rfl) ?_
  refine lv_iconst (v := nI 0) hx hb dL_step_2 (by decide) ?_
  refine lv_aload_n hx hb dL_step_3 rfl (lv_at hl 0 rfl) ?_
  refine lv_iload_n hx hb dL_step_4 rfl (lv_at hl 1 rfl) ?_
  refine lv_iload_n hx hb dL_step_5 rfl (lv_at hl 2 rfl) ?_
  refine lv_iload_n hx hb dL_step_6 rfl (lv_at hl 3 rfl) ?_
  refine xlV (As := [.int (u1), .int (p1), .int (s1)]) (rest := [.int (nI 0), .ref (o)]) (wr := [(o, .inl (cL, 1, .inr (.inl f)))]) (ws2 := wJ a o cI cZ cL (stepC C u1 p1 s1) f) hx hb hml hown ht hN hT9 kV_L_32 (r_X3_step l D hl9 h0 a cI cZ C hC u1 p1 s1) ⟨by decide, by decide⟩ hP hD0 hD hK2 [0, 1, 2, 3, 4, 5, 6, 7, 8, 9, 10, 11, 12, 13, 14, 15, 16, 17] [18] [1, 2, 3, 4, 5, 6, 7, 8, 9, 10, 11, 12, 13, 14, 15, 16, 17, 18, 0] rfl rfl (by decide) (by decide) (by decide) rfl rfl (by decide) rfl rfl rfl rfl hl.1 rfl (Nat.le_of_ble_eq_true rfl) dL_step_7 ⟨by decide, by decide⟩ (fun E ce q9 H locs hF hP hS hce hcv hcl => ?_) (fun hps H locs hP hD hS => ?_)
  · rcases hF with ⟨rfl, g1⟩ | ⟨rfl, g1, g2⟩ | ⟨rfl, g1, g2, g3⟩
    · refine vx_catch (own := RL) (name := eIA) hown [] ⟨0, 12, 15, 13⟩ [⟨0, 12, 19, 15⟩, ⟨0, 12, 23, 17⟩] (htab.trans rfl) (fun _ h9 => absurd h9 List.not_mem_nil) rfl (by decide) (ht _ wd133) (va_Nw.use rfl (hT9.2.2.2.2.1 eIA (by decide +kernel))) hce hcv hcl ?_
      refine lv_astore (lv' := [(5, .ref (q9)), (0, .ref (a 17)), (1, .int (u1)), (2, .int (p1)), (3, .int (s1)), (4, .ref (o))]) hx hb dL_step_15 hl (by decide) rfl (fun ls hl => ?_)
      refine lv_iconst (v := nI 1) hx hb dL_step_17 (by decide) ?_
      exact xl_iret hx hb hr hlocks hS (by rw [nxC_t (any_1 g1), nxF_t (any_1 g1)]; exact hP) (thr_1 g1) dL_step_18
    · refine vx_catch (own := RL) (name := eIO) hown [⟨0, 12, 15, 13⟩] ⟨0, 12, 19, 15⟩ [⟨0, 12, 23, 17⟩] (htab.trans rfl) (List.forall_mem_cons.mpr ⟨Or.inr ⟨by decide, eIA, ht _ wd133, hE (eIO, eIA) (by decide +kernel)⟩, (fun _ h9 => absurd h9 List.not_mem_nil)⟩) rfl (by decide) (ht _ wd134) (va_Nw.use rfl (hT9.2.2.2.2.1 eIO (by decide +kernel))) hce hcv hcl ?_
      refine lv_astore (lv' := [(5, .ref (q9)), (0, .ref (a 17)), (1, .int (u1)), (2, .int (p1)), (3, .int (s1)), (4, .ref (o))]) hx hb dL_step_19 hl (by decide) rfl (fun ls hl => ?_)
      refine lv_iconst (v := nI 2) hx hb dL_step_21 (by decide) ?_
      exact xl_iret hx hb hr hlocks hS (by rw [nxC_t (any_2 g2), nxF_t (any_2 g2)]; exact hP) (thr_2 g1 g2) dL_step_22
    · refine vx_catch (own := RL) (name := eUO) hown [⟨0, 12, 15, 13⟩, ⟨0, 12, 19, 15⟩] ⟨0, 12, 23, 17⟩ [] (htab.trans rfl) (List.forall_mem_cons.mpr ⟨Or.inr ⟨by decide, eIA, ht _ wd133, hE (eUO, eIA) (by decide +kernel)⟩, (List.forall_mem_cons.mpr ⟨Or.inr ⟨by decide, eIO, ht _ wd134, hE (eUO, eIO) (by decide +kernel)⟩, (fun _ h9 => absurd h9 List.not_mem_nil)⟩)⟩) rfl (by decide) (ht _ wd135) (va_Nw.use rfl (hT9.2.2.2.2.1 eUO (by decide +kernel))) hce hcv hcl ?_
      refine lv_astore (lv' := [(5, .ref (q9)), (0, .ref (a 17)), (1, .int (u1)), (2, .int (p1)), (3, .int (s1)), (4, .ref (o))]) hx hb dL_step_23 hl (by decide) rfl (fun ls hl => ?_)
      refine lv_iconst (v := nI 3) hx hb dL_step_25 (by decide) ?_
      exact xl_iret hx hb hr hlocks hS (by rw [nxC_t (any_3 g3), nxF_t (any_3 g3)]; exact hP) (thr_3 g1 g2 g3) dL_step_26
  · skip
    refine lv_i2l (v := (stepCr C u1 p1).toInt64) hx hb dL_step_10 rfl ?_
    refine xl_last hx hb hK hP hD hS 18 2 rfl rfl dL_step_11 (fun H locs hP hD hS => ?_)
    have hP : va_P D vwCl (wJ a o cI cZ cL (stepC C u1 p1 s1) (vp_updL f 0 (stepCr C u1 p1).toInt64)) H := hP
    refine lv_goto (tgt := 27) hx hb dL_step_12 (by decide) ?_
    refine lv_iconst (v := nI 0) hx hb dL_step_27 (by decide) ?_
    exact xl_iret hx hb hr hlocks hS (by rw [nxC_f (any_ok hps), nxF_f (any_ok hps)]; exact hP) (thr_ok hps) dL_step_28
set_option maxHeartbeats 4000000 in
set_option maxRecDepth 100000 in
theorem w_tick (l : Launch) (D : va_G) (hl9 : l.stackTraces = false) (h0 : Nat) (a : Nat → Nat) (o : Nat) (cI cZ cL : ClassId) (C : CS) (hC : cOk C) (f : Nat → Int64) (v1 : Int32) : xLW l yL_tick cL_tick 4 [(0, 9, 12, 15)] (xrt 7 134) [.ref (a 17), .int (v1), .ref (o)] D h0 (wJ a o cI cZ cL C f) (tyJ cI cZ cL) (thrM (bTk (cT C) v1) (false) (false)) (wJ a o cI cZ cL (nxC ((bTk (cT C) v1) || false || false) C ((tkS C (ix v1)).1)) (nxF ((bTk (cT C) v1) || false || false) f (tickCr C v1).toInt64)) := by
  refine xLW.of (by decide +kernel) (Nat.le_of_ble_eq_true rfl) ?_
  intro p e s m args below meth cd hx hb hr hml hown hlocks htab ht hN hT9 hE hP hK hD0 hD ls hl
  have hl : lv_has ls 4 [(0, .ref (a 17)), (1, .int (v1)), (2, .ref (o))] := hl
  have hown : s.vm.findClass RL = some m.cls := hown
  have hK2 := hK.sub (tys' := tyL cI cZ) [0, 1] rfl
  refine lv_aload_n hx hb dL_tick_0 rfl (lv_at hl 2 rfl) ?_
  refine lv_iconst (v := nI 0) hx hb dL_tick_1 (by decide) ?_
  refine lv_aload_n hx hb dL_tick_2 rfl (lv_at hl 0 rfl) ?_
  refine lv_iload_n hx hb dL_tick_3 rfl (lv_at hl 1 rfl) ?_
  refine xlV (As := [.int (v1)]) (rest := [.int (nI 0), .ref (o)]) (wr := [(o, .inl (cL, 1, .inr (.inl f)))]) (ws2 := wJ a o cI cZ cL ((tkS C (ix v1)).1) f) hx hb hml hown ht hN hT9 kV_L_36 (r_X3_tick l D hl9 h0 a cI cZ C hC v1) ⟨by decide, by decide⟩ hP hD0 hD hK2 [0, 1, 2, 3, 4, 5, 6, 7, 8, 9, 10, 11, 12, 13, 14, 15, 16, 17] [18] [1, 2, 3, 4, 5, 6, 7, 8, 9, 10, 11, 12, 13, 14, 15, 16, 17, 18, 0] rfl rfl (by decide) (by decide) (by decide) rfl rfl (by decide) rfl rfl rfl rfl hl.1 rfl (Nat.le_of_ble_eq_true rfl) dL_tick_4 ⟨by decide, by decide⟩ (fun E ce q9 H locs hF hP hS hce hcv hcl => ?_) (fun hps H locs hP hD hS => ?_)
  · rcases hF with ⟨rfl, g1⟩ | ⟨rfl, g1, g2⟩ | ⟨rfl, g1, g2, g3⟩
    · refine vx_catch (own := RL) (name := eIO) hown [] ⟨0, 9, 12, 15⟩ [] (htab.trans rfl) (fun _ h9 => absurd h9 List.not_mem_nil) rfl (by decide) (ht _ wd134) (va_Nw.use rfl (hT9.2.2.2.2.1 eIO (by decide +kernel))) hce hcv hcl ?_
      refine lv_astore_n (lv' := [(3, .ref (q9)), (0, .ref (a 17)), (1, .int (v1)), (2, .ref (o))]) hx hb dL_tick_12 rfl hl (by decide) rfl (fun ls hl => ?_)
      refine lv_iconst (v := nI 1) hx hb dL_tick_13 (by decide) ?_
      exact xl_iret hx hb hr hlocks hS (by rw [nxC_t (any_1 g1), nxF_t (any_1 g1)]; exact hP) (thr_1 g1) dL_tick_14
    · exact absurd g2 (by decide)
    · exact absurd g3 (by decide)
  · skip
    refine lv_i2l (v := (tickCr C v1).toInt64) hx hb dL_tick_7 rfl ?_
    refine xl_last hx hb hK hP hD hS 18 2 rfl rfl dL_tick_8 (fun H locs hP hD hS => ?_)
    have hP : va_P D vwCl (wJ a o cI cZ cL ((tkS C (ix v1)).1) (vp_updL f 0 (tickCr C v1).toInt64)) H := hP
    refine lv_goto (tgt := 15) hx hb dL_tick_9 (by decide) ?_
    refine lv_iconst (v := nI 0) hx hb dL_tick_15 (by decide) ?_
    exact xl_iret hx hb hr hlocks hS (by rw [nxC_f (any_ok hps), nxF_f (any_ok hps)]; exact hP) (thr_ok hps) dL_tick_16
set_option maxHeartbeats 4000000 in
set_option maxRecDepth 100000 in
theorem w_closed (l : Launch) (D : va_G) (hl9 : l.stackTraces = false) (h0 : Nat) (a : Nat → Nat) (o : Nat) (cI cZ cL : ClassId) (C : CS) (hC : cOk C) (f : Nat → Int64) (p1 s1 t1 : Int32) : xLW l yL_closed cL_closed 6 [(0, 19, 22, 13), (0, 19, 26, 15)] (xrt 9 155) [.ref (a 17), .int (p1), .int (s1), .int (t1), .ref (o)] D h0 (wJ a o cI cZ cL C f) (tyJ cI cZ cL) (thrM (bPc p1) (bSt s1 t1) (false)) (wJ a o cI cZ cL (nxC ((bPc p1) || (bSt s1 t1) || false) C (C)) (nxF ((bPc p1) || (bSt s1 t1) || false) f (bI (closedK (cK C) (plI p1 s1) t1)).toInt64)) := by
  refine xLW.of (by decide +kernel) (Nat.le_of_ble_eq_true rfl) ?_
  intro p e s m args below meth cd hx hb hr hml hown hlocks htab ht hN hT9 hE hP hK hD0 hD ls hl
  have hl : lv_has ls 6 [(0, .ref (a 17)), (1, .int (p1)), (2, .int (s1)), (3, .int (t1)), (4, .ref (o))] := hl
  have hown : s.vm.findClass RL = some m.cls := hown
  have hK2 := hK.sub (tys' := tyL cI cZ) [0, 1] rfl
  refine lv_aload hx hb dL_closed_0 (lv_at hl 4 rfl) ?_
  refine lv_iconst (v := nI 0) hx hb dL_closed_2 (by decide) ?_
  refine lv_aload_n hx hb dL_closed_3 rfl (lv_at hl 0 rfl) ?_
  refine lv_iload_n hx hb dL_closed_4 rfl (lv_at hl 1 rfl) ?_
  refine lv_iload_n hx hb dL_closed_5 rfl (lv_at hl 2 rfl) ?_
  refine lv_iload_n hx hb dL_closed_6 rfl (lv_at hl 3 rfl) ?_
  refine xlV (As := [.int (p1), .int (s1), .int (t1)]) (rest := [.int (nI 0), .ref (o)]) (wr := [(o, .inl (cL, 1, .inr (.inl f)))]) (ws2 := wJ a o cI cZ cL (C) f) hx hb hml hown ht hN hT9 kV_L_40 (r_X3_closed l D hl9 h0 a cI cZ C hC p1 s1 t1) ⟨by decide, by decide⟩ hP hD0 hD hK2 [0, 1, 2, 3, 4, 5, 6, 7, 8, 9, 10, 11, 12, 13, 14, 15, 16, 17] [18] [1, 2, 3, 4, 5, 6, 7, 8, 9, 10, 11, 12, 13, 14, 15, 16, 17, 18, 0] rfl rfl (by decide) (by decide) (by decide) rfl rfl (by decide) rfl rfl rfl rfl hl.1 rfl (Nat.le_of_ble_eq_true rfl) dL_closed_7 ⟨by decide, by decide⟩ (fun E ce q9 H locs hF hP hS hce hcv hcl => ?_) (fun hps H locs hP hD hS => ?_)
  · rcases hF with ⟨rfl, g1⟩ | ⟨rfl, g1, g2⟩ | ⟨rfl, g1, g2, g3⟩
    · refine vx_catch (own := RL) (name := eIA) hown [] ⟨0, 19, 22, 13⟩ [⟨0, 19, 26, 15⟩] (htab.trans rfl) (fun _ h9 => absurd h9 List.not_mem_nil) rfl (by decide) (ht _ wd133) (va_Nw.use rfl (hT9.2.2.2.2.1 eIA (by decide +kernel))) hce hcv hcl ?_
      refine lv_astore (lv' := [(5, .ref (q9)), (0, .ref (a 17)), (1, .int (p1)), (2, .int (s1)), (3, .int (t1)), (4, .ref (o))]) hx hb dL_closed_22 hl (by decide) rfl (fun ls hl => ?_)
      refine lv_iconst (v := nI 1) hx hb dL_closed_24 (by decide) ?_
      exact xl_iret hx hb hr hlocks hS (by rw [nxC_t (any_1 g1), nxF_t (any_1 g1)]; exact hP) (thr_1 g1) dL_closed_25
    · refine vx_catch (own := RL) (name := eIO) hown [⟨0, 19, 22, 13⟩] ⟨0, 19, 26, 15⟩ [] (htab.trans rfl) (List.forall_mem_cons.mpr ⟨Or.inr ⟨by decide, eIA, ht _ wd133, hE (eIO, eIA) (by decide +kernel)⟩, (fun _ h9 => absurd h9 List.not_mem_nil)⟩) rfl (by decide) (ht _ wd134) (va_Nw.use rfl (hT9.2.2.2.2.1 eIO (by decide +kernel))) hce hcv hcl ?_
      refine lv_astore (lv' := [(5, .ref (q9)), (0, .ref (a 17)), (1, .int (p1)), (2, .int (s1)), (3, .int (t1)), (4, .ref (o))]) hx hb dL_closed_26 hl (by decide) rfl (fun ls hl => ?_)
      refine lv_iconst (v := nI 2) hx hb dL_closed_28 (by decide) ?_
      exact xl_iret hx hb hr hlocks hS (by rw [nxC_t (any_2 g2), nxF_t (any_2 g2)]; exact hP) (thr_2 g1 g2) dL_closed_29
    · exact absurd g3 (by decide)
  · skip
    refine lv_if_eq (tgt := 17) hx hb dL_closed_10 (by decide) (fun hz => ?_) (fun hz => ?_)
    · skip
      refine lv_lconst (v := (bI (closedK (cK C) (plI p1 s1) t1)).toInt64) hx hb dL_closed_17 (by rw [hz]; decide) ?_
      refine xl_last hx hb hK hP hD hS 18 2 rfl rfl dL_closed_18 (fun H locs hP hD hS => ?_)
      have hP : va_P D vwCl (wJ a o cI cZ cL (C) (vp_updL f 0 (bI (closedK (cK C) (plI p1 s1) t1)).toInt64)) H := hP
      refine lv_goto (tgt := 30) hx hb dL_closed_19 (by decide) ?_
      refine lv_iconst (v := nI 0) hx hb dL_closed_30 (by decide) ?_
      exact xl_iret hx hb hr hlocks hS (by rw [nxC_f (any_ok hps), nxF_f (any_ok hps)]; exact hP) (thr_ok hps) dL_closed_31
    · skip
      refine lv_lconst (v := (bI (closedK (cK C) (plI p1 s1) t1)).toInt64) hx hb dL_closed_13 (by rw [bI_t hz]; decide) ?_
      refine lv_goto (tgt := 18) hx hb dL_closed_14 (by decide) ?_
      refine xl_last hx hb hK hP hD hS 18 2 rfl rfl dL_closed_18 (fun H locs hP hD hS => ?_)
      have hP : va_P D vwCl (wJ a o cI cZ cL (C) (vp_updL f 0 (bI (closedK (cK C) (plI p1 s1) t1)).toInt64)) H := hP
      refine lv_goto (tgt := 30) hx hb dL_closed_19 (by decide) ?_
      refine lv_iconst (v := nI 0) hx hb dL_closed_30 (by decide) ?_
      exact xl_iret hx hb hr hlocks hS (by rw [nxC_f (any_ok hps), nxF_f (any_ok hps)]; exact hP) (thr_ok hps) dL_closed_31
set_option maxHeartbeats 4000000 in
set_option maxRecDepth 100000 in
theorem w_minutes (l : Launch) (D : va_G) (hl9 : l.stackTraces = false) (h0 : Nat) (a : Nat → Nat) (o : Nat) (cI cZ cL : ClassId) (C : CS) (hC : cOk C) (hseg : segOn (cK C)) (f : Nat → Int64) (p1 s1 a1 b1 : Int32) : xLW l yL_minutes cL_minutes 7 [(0, 14, 17, 13), (0, 14, 21, 15)] (xrt 9 160) [.ref (a 17), .int (p1), .int (s1), .int (a1), .int (b1), .ref (o)] D h0 (wJ a o cI cZ cL C f) (tyJ cI cZ cL) (thrM (bPc p1) (bMi s1 a1 b1) (false)) (wJ a o cI cZ cL (nxC ((bPc p1) || (bMi s1 a1 b1) || false) C (C)) (nxF ((bPc p1) || (bMi s1 a1 b1) || false) f (minCr C p1 s1 a1 b1).toInt64)) := by
  refine xLW.of (by decide +kernel) (Nat.le_of_ble_eq_true rfl) ?_
  intro p e s m args below meth cd hx hb hr hml hown hlocks htab ht hN hT9 hE hP hK hD0 hD ls hl
  have hl : lv_has ls 7 [(0, .ref (a 17)), (1, .int (p1)), (2, .int (s1)), (3, .int (a1)), (4, .int (b1)), (5, .ref (o))] := hl
  have hown : s.vm.findClass RL = some m.cls := hown
  have hK2 := hK.sub (tys' := tyL cI cZ) [0, 1] rfl
  refine lv_aload hx hb dL_minutes_0 (lv_at hl 5 rfl) ?_
  refine lv_iconst (v := nI 0) hx hb dL_minutes_2 (by decide) ?_
  refine lv_aload_n hx hb dL_minutes_3 rfl (lv_at hl 0 rfl) ?_
  refine lv_iload_n hx hb dL_minutes_4 rfl (lv_at hl 1 rfl) ?_
  refine lv_iload_n hx hb dL_minutes_5 rfl (lv_at hl 2 rfl) ?_
  refine lv_iload_n hx hb dL_minutes_6 rfl (lv_at hl 3 rfl) ?_
  refine lv_iload hx hb dL_minutes_7 (lv_at hl 4 rfl) ?_
  refine xlV (As := [.int (p1), .int (s1), .int (a1), .int (b1)]) (rest := [.int (nI 0), .ref (o)]) (wr := [(o, .inl (cL, 1, .inr (.inl f)))]) (ws2 := wJ a o cI cZ cL (C) f) hx hb hml hown ht hN hT9 kV_L_44 (r_X3_minutes l D hl9 h0 a cI cZ C hC hseg p1 s1 a1 b1) ⟨by decide, by decide⟩ hP hD0 hD hK2 [0, 1, 2, 3, 4, 5, 6, 7, 8, 9, 10, 11, 12, 13, 14, 15, 16, 17] [18] [1, 2, 3, 4, 5, 6, 7, 8, 9, 10, 11, 12, 13, 14, 15, 16, 17, 18, 0] rfl rfl (by decide) (by decide) (by decide) rfl rfl (by decide) rfl rfl rfl rfl hl.1 rfl (Nat.le_of_ble_eq_true rfl) dL_minutes_9 ⟨by decide, by decide⟩ (fun E ce q9 H locs hF hP hS hce hcv hcl => ?_) (fun hps H locs hP hD hS => ?_)
  · rcases hF with ⟨rfl, g1⟩ | ⟨rfl, g1, g2⟩ | ⟨rfl, g1, g2, g3⟩
    · refine vx_catch (own := RL) (name := eIA) hown [] ⟨0, 14, 17, 13⟩ [⟨0, 14, 21, 15⟩] (htab.trans rfl) (fun _ h9 => absurd h9 List.not_mem_nil) rfl (by decide) (ht _ wd133) (va_Nw.use rfl (hT9.2.2.2.2.1 eIA (by decide +kernel))) hce hcv hcl ?_
      refine lv_astore (lv' := [(6, .ref (q9)), (0, .ref (a 17)), (1, .int (p1)), (2, .int (s1)), (3, .int (a1)), (4, .int (b1)), (5, .ref (o))]) hx hb dL_minutes_17 hl (by decide) rfl (fun ls hl => ?_)
      refine lv_iconst (v := nI 1) hx hb dL_minutes_19 (by decide) ?_
      exact xl_iret hx hb hr hlocks hS (by rw [nxC_t (any_1 g1), nxF_t (any_1 g1)]; exact hP) (thr_1 g1) dL_minutes_20
    · refine vx_catch (own := RL) (name := eIO) hown [⟨0, 14, 17, 13⟩] ⟨0, 14, 21, 15⟩ [] (htab.trans rfl) (List.forall_mem_cons.mpr ⟨Or.inr ⟨by decide, eIA, ht _ wd133, hE (eIO, eIA) (by decide +kernel)⟩, (fun _ h9 => absurd h9 List.not_mem_nil)⟩) rfl (by decide) (ht _ wd134) (va_Nw.use rfl (hT9.2.2.2.2.1 eIO (by decide +kernel))) hce hcv hcl ?_
      refine lv_astore (lv' := [(6, .ref (q9)), (0, .ref (a 17)), (1, .int (p1)), (2, .int (s1)), (3, .int (a1)), (4, .int (b1)), (5, .ref (o))]) hx hb dL_minutes_21 hl (by decide) rfl (fun ls hl => ?_)
      refine lv_iconst (v := nI 2) hx hb dL_minutes_23 (by decide) ?_
      exact xl_iret hx hb hr hlocks hS (by rw [nxC_t (any_2 g2), nxF_t (any_2 g2)]; exact hP) (thr_2 g1 g2) dL_minutes_24
    · exact absurd g3 (by decide)
  · skip
    refine lv_i2l (v := (minCr C p1 s1 a1 b1).toInt64) hx hb dL_minutes_12 rfl ?_
    refine xl_last hx hb hK hP hD hS 18 2 rfl rfl dL_minutes_13 (fun H locs hP hD hS => ?_)
    have hP : va_P D vwCl (wJ a o cI cZ cL (C) (vp_updL f 0 (minCr C p1 s1 a1 b1).toInt64)) H := hP
    refine lv_goto (tgt := 25) hx hb dL_minutes_14 (by decide) ?_
    refine lv_iconst (v := nI 0) hx hb dL_minutes_25 (by decide) ?_
    exact xl_iret hx hb hr hlocks hS (by rw [nxC_f (any_ok hps), nxF_f (any_ok hps)]; exact hP) (thr_ok hps) dL_minutes_26
set_option maxHeartbeats 4000000 in
set_option maxRecDepth 100000 in
theorem w_opens (l : Launch) (D : va_G) (hl9 : l.stackTraces = false) (h0 : Nat) (a : Nat → Nat) (o : Nat) (cI cZ cL : ClassId) (C : CS) (hC : cOk C) (hseg : segOn (cK C)) (f : Nat → Int64) (p1 s1 t1 : Int32) : xLW l yL_opens cL_opens 6 [(0, 12, 15, 13), (0, 12, 19, 15)] (xrt 9 158) [.ref (a 17), .int (p1), .int (s1), .int (t1), .ref (o)] D h0 (wJ a o cI cZ cL C f) (tyJ cI cZ cL) (thrM (bPc p1) (bSt s1 t1) (false)) (wJ a o cI cZ cL (nxC ((bPc p1) || (bSt s1 t1) || false) C (C)) (nxF ((bPc p1) || (bSt s1 t1) || false) f (opCr C p1 s1 t1).toInt64)) := by
  refine xLW.of (by decide +kernel) (Nat.le_of_ble_eq_true rfl) ?_
  intro p e s m args below meth cd hx hb hr hml hown hlocks htab ht hN hT9 hE hP hK hD0 hD ls hl
  have hl : lv_has ls 6 [(0, .ref (a 17)), (1, .int (p1)), (2, .int (s1)), (3, .int (t1)), (4, .ref (o))] := hl
  have hown : s.vm.findClass RL = some m.cls := hown
  have hK2 := hK.sub (tys' := tyL cI cZ) [0, 1] rfl
  refine lv_aload hx hb dL_opens_0 (lv_at hl 4 rfl) ?_
  refine lv_iconst (v := nI 0) hx hb dL_opens_2 (by decide) ?_
  refine lv_aload_n hx hb dL_opens_3 rfl (lv_at hl 0 rfl) ?_
  refine lv_iload_n hx hb dL_opens_4 rfl (lv_at hl 1 rfl) ?_
  refine lv_iload_n hx hb dL_opens_5 rfl (lv_at hl 2 rfl) ?_
  refine lv_iload_n hx hb dL_opens_6 rfl (lv_at hl 3 rfl) ?_
  refine xlV (As := [.int (p1), .int (s1), .int (t1)]) (rest := [.int (nI 0), .ref (o)]) (wr := [(o, .inl (cL, 1, .inr (.inl f)))]) (ws2 := wJ a o cI cZ cL (C) f) hx hb hml hown ht hN hT9 kV_L_48 (r_X3_opens l D hl9 h0 a cI cZ C hC hseg p1 s1 t1) ⟨by decide, by decide⟩ hP hD0 hD hK2 [0, 1, 2, 3, 4, 5, 6, 7, 8, 9, 10, 11, 12, 13, 14, 15, 16, 17] [18] [1, 2, 3, 4, 5, 6, 7, 8, 9, 10, 11, 12, 13, 14, 15, 16, 17, 18, 0] rfl rfl (by decide) (by decide) (by decide) rfl rfl (by decide) rfl rfl rfl rfl hl.1 rfl (Nat.le_of_ble_eq_true rfl) dL_opens_7 ⟨by decide, by decide⟩ (fun E ce q9 H locs hF hP hS hce hcv hcl => ?_) (fun hps H locs hP hD hS => ?_)
  · rcases hF with ⟨rfl, g1⟩ | ⟨rfl, g1, g2⟩ | ⟨rfl, g1, g2, g3⟩
    · refine vx_catch (own := RL) (name := eIA) hown [] ⟨0, 12, 15, 13⟩ [⟨0, 12, 19, 15⟩] (htab.trans rfl) (fun _ h9 => absurd h9 List.not_mem_nil) rfl (by decide) (ht _ wd133) (va_Nw.use rfl (hT9.2.2.2.2.1 eIA (by decide +kernel))) hce hcv hcl ?_
      refine lv_astore (lv' := [(5, .ref (q9)), (0, .ref (a 17)), (1, .int (p1)), (2, .int (s1)), (3, .int (t1)), (4, .ref (o))]) hx hb dL_opens_15 hl (by decide) rfl (fun ls hl => ?_)
      refine lv_iconst (v := nI 1) hx hb dL_opens_17 (by decide) ?_
      exact xl_iret hx hb hr hlocks hS (by rw [nxC_t (any_1 g1), nxF_t (any_1 g1)]; exact hP) (thr_1 g1) dL_opens_18
    · refine vx_catch (own := RL) (name := eIO) hown [⟨0, 12, 15, 13⟩] ⟨0, 12, 19, 15⟩ [] (htab.trans rfl) (List.forall_mem_cons.mpr ⟨Or.inr ⟨by decide, eIA, ht _ wd133, hE (eIO, eIA) (by decide +kernel)⟩, (fun _ h9 => absurd h9 List.not_mem_nil)⟩) rfl (by decide) (ht _ wd134) (va_Nw.use rfl (hT9.2.2.2.2.1 eIO (by decide +kernel))) hce hcv hcl ?_
      refine lv_astore (lv' := [(5, .ref (q9)), (0, .ref (a 17)), (1, .int (p1)), (2, .int (s1)), (3, .int (t1)), (4, .ref (o))]) hx hb dL_opens_19 hl (by decide) rfl (fun ls hl => ?_)
      refine lv_iconst (v := nI 2) hx hb dL_opens_21 (by decide) ?_
      exact xl_iret hx hb hr hlocks hS (by rw [nxC_t (any_2 g2), nxF_t (any_2 g2)]; exact hP) (thr_2 g1 g2) dL_opens_22
    · exact absurd g3 (by decide)
  · skip
    refine lv_i2l (v := (opCr C p1 s1 t1).toInt64) hx hb dL_opens_10 rfl ?_
    refine xl_last hx hb hK hP hD hS 18 2 rfl rfl dL_opens_11 (fun H locs hP hD hS => ?_)
    have hP : va_P D vwCl (wJ a o cI cZ cL (C) (vp_updL f 0 (opCr C p1 s1 t1).toInt64)) H := hP
    refine lv_goto (tgt := 23) hx hb dL_opens_12 (by decide) ?_
    refine lv_iconst (v := nI 0) hx hb dL_opens_23 (by decide) ?_
    exact xl_iret hx hb hr hlocks hS (by rw [nxC_f (any_ok hps), nxF_f (any_ok hps)]; exact hP) (thr_ok hps) dL_opens_24
set_option maxHeartbeats 4000000 in
set_option maxRecDepth 100000 in
theorem w_reason (l : Launch) (D : va_G) (hl9 : l.stackTraces = false) (h0 : Nat) (a : Nat → Nat) (o : Nat) (cI cZ cL : ClassId) (C : CS) (hC : cOk C) (f : Nat → Int64) (p1 s1 t1 i1 : Int32) : xLW l yL_reason cL_reason 7 [(0, 14, 17, 13), (0, 14, 21, 15)] (xrt 9 161) [.ref (a 17), .int (p1), .int (s1), .int (t1), .int (i1), .ref (o)] D h0 (wJ a o cI cZ cL C f) (tyJ cI cZ cL) (thrM (bPc p1) (bRe s1 t1 i1) (false)) (wJ a o cI cZ cL (nxC ((bPc p1) || (bRe s1 t1 i1) || false) C (C)) (nxF ((bPc p1) || (bRe s1 t1 i1) || false) f (holdingK (cK C) (plI p1 s1) t1 i1).toInt64)) := by
  refine xLW.of (by decide +kernel) (Nat.le_of_ble_eq_true rfl) ?_
  intro p e s m args below meth cd hx hb hr hml hown hlocks htab ht hN hT9 hE hP hK hD0 hD ls hl
  have hl : lv_has ls 7 [(0, .ref (a 17)), (1, .int (p1)), (2, .int (s1)), (3, .int (t1)), (4, .int (i1)), (5, .ref (o))] := hl
  have hown : s.vm.findClass RL = some m.cls := hown
  have hK2 := hK.sub (tys' := tyL cI cZ) [0, 1] rfl
  refine lv_aload hx hb dL_reason_0 (lv_at hl 5 rfl) ?_
  refine lv_iconst (v := nI 0) hx hb dL_reason_2 (by decide) ?_
  refine lv_aload_n hx hb dL_reason_3 rfl (lv_at hl 0 rfl) ?_
  refine lv_iload_n hx hb dL_reason_4 rfl (lv_at hl 1 rfl) ?_
  refine lv_iload_n hx hb dL_reason_5 rfl (lv_at hl 2 rfl) ?_
  refine lv_iload_n hx hb dL_reason_6 rfl (lv_at hl 3 rfl) ?_
  refine lv_iload hx hb dL_reason_7 (lv_at hl 4 rfl) ?_
  refine xlV (As := [.int (p1), .int (s1), .int (t1), .int (i1)]) (rest := [.int (nI 0), .ref (o)]) (wr := [(o, .inl (cL, 1, .inr (.inl f)))]) (ws2 := wJ a o cI cZ cL (C) f) hx hb hml hown ht hN hT9 kV_L_51 (r_X3_reason l D hl9 h0 a cI cZ C hC p1 s1 t1 i1) ⟨by decide, by decide⟩ hP hD0 hD hK2 [0, 1, 2, 3, 4, 5, 6, 7, 8, 9, 10, 11, 12, 13, 14, 15, 16, 17] [18] [1, 2, 3, 4, 5, 6, 7, 8, 9, 10, 11, 12, 13, 14, 15, 16, 17, 18, 0] rfl rfl (by decide) (by decide) (by decide) rfl rfl (by decide) rfl rfl rfl rfl hl.1 rfl (Nat.le_of_ble_eq_true rfl) dL_reason_9 ⟨by decide, by decide⟩ (fun E ce q9 H locs hF hP hS hce hcv hcl => ?_) (fun hps H locs hP hD hS => ?_)
  · rcases hF with ⟨rfl, g1⟩ | ⟨rfl, g1, g2⟩ | ⟨rfl, g1, g2, g3⟩
    · refine vx_catch (own := RL) (name := eIA) hown [] ⟨0, 14, 17, 13⟩ [⟨0, 14, 21, 15⟩] (htab.trans rfl) (fun _ h9 => absurd h9 List.not_mem_nil) rfl (by decide) (ht _ wd133) (va_Nw.use rfl (hT9.2.2.2.2.1 eIA (by decide +kernel))) hce hcv hcl ?_
      refine lv_astore (lv' := [(6, .ref (q9)), (0, .ref (a 17)), (1, .int (p1)), (2, .int (s1)), (3, .int (t1)), (4, .int (i1)), (5, .ref (o))]) hx hb dL_reason_17 hl (by decide) rfl (fun ls hl => ?_)
      refine lv_iconst (v := nI 1) hx hb dL_reason_19 (by decide) ?_
      exact xl_iret hx hb hr hlocks hS (by rw [nxC_t (any_1 g1), nxF_t (any_1 g1)]; exact hP) (thr_1 g1) dL_reason_20
    · refine vx_catch (own := RL) (name := eIO) hown [⟨0, 14, 17, 13⟩] ⟨0, 14, 21, 15⟩ [] (htab.trans rfl) (List.forall_mem_cons.mpr ⟨Or.inr ⟨by decide, eIA, ht _ wd133, hE (eIO, eIA) (by decide +kernel)⟩, (fun _ h9 => absurd h9 List.not_mem_nil)⟩) rfl (by decide) (ht _ wd134) (va_Nw.use rfl (hT9.2.2.2.2.1 eIO (by decide +kernel))) hce hcv hcl ?_
      refine lv_astore (lv' := [(6, .ref (q9)), (0, .ref (a 17)), (1, .int (p1)), (2, .int (s1)), (3, .int (t1)), (4, .int (i1)), (5, .ref (o))]) hx hb dL_reason_21 hl (by decide) rfl (fun ls hl => ?_)
      refine lv_iconst (v := nI 2) hx hb dL_reason_23 (by decide) ?_
      exact xl_iret hx hb hr hlocks hS (by rw [nxC_t (any_2 g2), nxF_t (any_2 g2)]; exact hP) (thr_2 g1 g2) dL_reason_24
    · exact absurd g3 (by decide)
  · skip
    refine lv_i2l (v := (holdingK (cK C) (plI p1 s1) t1 i1).toInt64) hx hb dL_reason_12 rfl ?_
    refine xl_last hx hb hK hP hD hS 18 2 rfl rfl dL_reason_13 (fun H locs hP hD hS => ?_)
    have hP : va_P D vwCl (wJ a o cI cZ cL (C) (vp_updL f 0 (holdingK (cK C) (plI p1 s1) t1 i1).toInt64)) H := hP
    refine lv_goto (tgt := 25) hx hb dL_reason_14 (by decide) ?_
    refine lv_iconst (v := nI 0) hx hb dL_reason_25 (by decide) ?_
    exact xl_iret hx hb hr hlocks hS (by rw [nxC_f (any_ok hps), nxF_f (any_ok hps)]; exact hP) (thr_ok hps) dL_reason_26
set_option maxHeartbeats 4000000 in
set_option maxRecDepth 100000 in
theorem w_speed (l : Launch) (D : va_G) (hl9 : l.stackTraces = false) (h0 : Nat) (a : Nat → Nat) (o : Nat) (cI cZ cL : ClassId) (C : CS) (hC : cOk C) (f : Nat → Int64) (p1 s1 t1 : Int32) : xLW l yL_speed cL_speed 6 [(0, 12, 15, 13), (0, 12, 19, 15)] (xrt 9 155) [.ref (a 17), .int (p1), .int (s1), .int (t1), .ref (o)] D h0 (wJ a o cI cZ cL C f) (tyJ cI cZ cL) (thrM (bPc p1) (bSt s1 t1) (false)) (wJ a o cI cZ cL (nxC ((bPc p1) || (bSt s1 t1) || false) C (C)) (nxF ((bPc p1) || (bSt s1 t1) || false) f (percentK (cK C) (plI p1 s1) t1).toInt64)) := by
  refine xLW.of (by decide +kernel) (Nat.le_of_ble_eq_true rfl) ?_
  intro p e s m args below meth cd hx hb hr hml hown hlocks htab ht hN hT9 hE hP hK hD0 hD ls hl
  have hl : lv_has ls 6 [(0, .ref (a 17)), (1, .int (p1)), (2, .int (s1)), (3, .int (t1)), (4, .ref (o))] := hl
  have hown : s.vm.findClass RL = some m.cls := hown
  have hK2 := hK.sub (tys' := tyL cI cZ) [0, 1] rfl
  refine lv_aload hx hb dL_speed_0 (lv_at hl 4 rfl) ?_
  refine lv_iconst (v := nI 0) hx hb dL_speed_2 (by decide) ?_
  refine lv_aload_n hx hb dL_speed_3 rfl (lv_at hl 0 rfl) ?_
  refine lv_iload_n hx hb dL_speed_4 rfl (lv_at hl 1 rfl) ?_
  refine lv_iload_n hx hb dL_speed_5 rfl (lv_at hl 2 rfl) ?_
  refine lv_iload_n hx hb dL_speed_6 rfl (lv_at hl 3 rfl) ?_
  refine xlV (As := [.int (p1), .int (s1), .int (t1)]) (rest := [.int (nI 0), .ref (o)]) (wr := [(o, .inl (cL, 1, .inr (.inl f)))]) (ws2 := wJ a o cI cZ cL (C) f) hx hb hml hown ht hN hT9 kV_L_54 (r_X3_speed l D hl9 h0 a cI cZ C hC p1 s1 t1) ⟨by decide, by decide⟩ hP hD0 hD hK2 [0, 1, 2, 3, 4, 5, 6, 7, 8, 9, 10, 11, 12, 13, 14, 15, 16, 17] [18] [1, 2, 3, 4, 5, 6, 7, 8, 9, 10, 11, 12, 13, 14, 15, 16, 17, 18, 0] rfl rfl (by decide) (by decide) (by decide) rfl rfl (by decide) rfl rfl rfl rfl hl.1 rfl (Nat.le_of_ble_eq_true rfl) dL_speed_7 ⟨by decide, by decide⟩ (fun E ce q9 H locs hF hP hS hce hcv hcl => ?_) (fun hps H locs hP hD hS => ?_)
  · rcases hF with ⟨rfl, g1⟩ | ⟨rfl, g1, g2⟩ | ⟨rfl, g1, g2, g3⟩
    · refine vx_catch (own := RL) (name := eIA) hown [] ⟨0, 12, 15, 13⟩ [⟨0, 12, 19, 15⟩] (htab.trans rfl) (fun _ h9 => absurd h9 List.not_mem_nil) rfl (by decide) (ht _ wd133) (va_Nw.use rfl (hT9.2.2.2.2.1 eIA (by decide +kernel))) hce hcv hcl ?_
      refine lv_astore (lv' := [(5, .ref (q9)), (0, .ref (a 17)), (1, .int (p1)), (2, .int (s1)), (3, .int (t1)), (4, .ref (o))]) hx hb dL_speed_15 hl (by decide) rfl (fun ls hl => ?_)
      refine lv_iconst (v := nI 1) hx hb dL_speed_17 (by decide) ?_
      exact xl_iret hx hb hr hlocks hS (by rw [nxC_t (any_1 g1), nxF_t (any_1 g1)]; exact hP) (thr_1 g1) dL_speed_18
    · refine vx_catch (own := RL) (name := eIO) hown [⟨0, 12, 15, 13⟩] ⟨0, 12, 19, 15⟩ [] (htab.trans rfl) (List.forall_mem_cons.mpr ⟨Or.inr ⟨by decide, eIA, ht _ wd133, hE (eIO, eIA) (by decide +kernel)⟩, (fun _ h9 => absurd h9 List.not_mem_nil)⟩) rfl (by decide) (ht _ wd134) (va_Nw.use rfl (hT9.2.2.2.2.1 eIO (by decide +kernel))) hce hcv hcl ?_
      refine lv_astore (lv' := [(5, .ref (q9)), (0, .ref (a 17)), (1, .int (p1)), (2, .int (s1)), (3, .int (t1)), (4, .ref (o))]) hx hb dL_speed_19 hl (by decide) rfl (fun ls hl => ?_)
      refine lv_iconst (v := nI 2) hx hb dL_speed_21 (by decide) ?_
      exact xl_iret hx hb hr hlocks hS (by rw [nxC_t (any_2 g2), nxF_t (any_2 g2)]; exact hP) (thr_2 g1 g2) dL_speed_22
    · exact absurd g3 (by decide)
  · skip
    refine lv_i2l (v := (percentK (cK C) (plI p1 s1) t1).toInt64) hx hb dL_speed_10 rfl ?_
    refine xl_last hx hb hK hP hD hS 18 2 rfl rfl dL_speed_11 (fun H locs hP hD hS => ?_)
    have hP : va_P D vwCl (wJ a o cI cZ cL (C) (vp_updL f 0 (percentK (cK C) (plI p1 s1) t1).toInt64)) H := hP
    refine lv_goto (tgt := 23) hx hb dL_speed_12 (by decide) ?_
    refine lv_iconst (v := nI 0) hx hb dL_speed_23 (by decide) ?_
    exact xl_iret hx hb hr hlocks hS (by rw [nxC_f (any_ok hps), nxF_f (any_ok hps)]; exact hP) (thr_ok hps) dL_speed_24
set_option maxHeartbeats 4000000 in
set_option maxRecDepth 100000 in
theorem w_notice (l : Launch) (D : va_G) (hl9 : l.stackTraces = false) (h0 : Nat) (a : Nat → Nat) (o : Nat) (cI cZ cL : ClassId) (C : CS) (hC : cOk C) (f : Nat → Int64) (i1 w1 : Int32) : xLW l yL_notice cL_notice 5 [(0, 10, 13, 13)] (xrt 7 112) [.ref (a 17), .int (i1), .int (w1), .ref (o)] D h0 (wJ a o cI cZ cL C f) (tyJ cI cZ cL) (thrM (noK (nT (cN C)) i1 w1) (false) (false)) (wJ a o cI cZ cL (nxC ((noK (nT (cN C)) i1 w1) || false || false) C (C)) (nxF ((noK (nT (cN C)) i1 w1) || false || false) f (nRw (cN C) (fstT (ix i1) + ix w1)).toInt64)) := by
  refine xLW.of (by decide +kernel) (Nat.le_of_ble_eq_true rfl) ?_
  intro p e s m args below meth cd hx hb hr hml hown hlocks htab ht hN hT9 hE hP hK hD0 hD ls hl
  have hl : lv_has ls 5 [(0, .ref (a 17)), (1, .int (i1)), (2, .int (w1)), (3, .ref (o))] := hl
  have hown : s.vm.findClass RL = some m.cls := hown
  have hK2 := hK.sub (tys' := tyL cI cZ) [0, 1] rfl
  refine lv_aload_n hx hb dL_notice_0 rfl (lv_at hl 3 rfl) ?_
  refine lv_iconst (v := nI 0) hx hb dL_notice_1 (by decide) ?_
  refine lv_aload_n hx hb dL_notice_2 rfl (lv_at hl 0 rfl) ?_
  refine lv_iload_n hx hb dL_notice_3 rfl (lv_at hl 1 rfl) ?_
  refine lv_iload_n hx hb dL_notice_4 rfl (lv_at hl 2 rfl) ?_
  refine xlV (As := [.int (i1), .int (w1)]) (rest := [.int (nI 0), .ref (o)]) (wr := [(o, .inl (cL, 1, .inr (.inl f)))]) (ws2 := wJ a o cI cZ cL (C) f) hx hb hml hown ht hN hT9 kV_L_57 (r_X3_notice l D hl9 h0 a cI cZ C hC i1 w1) ⟨by decide, by decide⟩ hP hD0 hD hK2 [0, 1, 2, 3, 4, 5, 6, 7, 8, 9, 10, 11, 12, 13, 14, 15, 16, 17] [18] [1, 2, 3, 4, 5, 6, 7, 8, 9, 10, 11, 12, 13, 14, 15, 16, 17, 18, 0] rfl rfl (by decide) (by decide) (by decide) rfl rfl (by decide) rfl rfl rfl rfl hl.1 rfl (Nat.le_of_ble_eq_true rfl) dL_notice_5 ⟨by decide, by decide⟩ (fun E ce q9 H locs hF hP hS hce hcv hcl => ?_) (fun hps H locs hP hD hS => ?_)
  · rcases hF with ⟨rfl, g1⟩ | ⟨rfl, g1, g2⟩ | ⟨rfl, g1, g2, g3⟩
    · refine vx_catch (own := RL) (name := eIA) hown [] ⟨0, 10, 13, 13⟩ [] (htab.trans rfl) (fun _ h9 => absurd h9 List.not_mem_nil) rfl (by decide) (ht _ wd133) (va_Nw.use rfl (hT9.2.2.2.2.1 eIA (by decide +kernel))) hce hcv hcl ?_
      refine lv_astore (lv' := [(4, .ref (q9)), (0, .ref (a 17)), (1, .int (i1)), (2, .int (w1)), (3, .ref (o))]) hx hb dL_notice_13 hl (by decide) rfl (fun ls hl => ?_)
      refine lv_iconst (v := nI 1) hx hb dL_notice_15 (by decide) ?_
      exact xl_iret hx hb hr hlocks hS (by rw [nxC_t (any_1 g1), nxF_t (any_1 g1)]; exact hP) (thr_1 g1) dL_notice_16
    · exact absurd g2 (by decide)
    · exact absurd g3 (by decide)
  · skip
    refine lv_i2l (v := (nRw (cN C) (fstT (ix i1) + ix w1)).toInt64) hx hb dL_notice_8 rfl ?_
    refine xl_last hx hb hK hP hD hS 18 2 rfl rfl dL_notice_9 (fun H locs hP hD hS => ?_)
    have hP : va_P D vwCl (wJ a o cI cZ cL (C) (vp_updL f 0 (nRw (cN C) (fstT (ix i1) + ix w1)).toInt64)) H := hP
    refine lv_goto (tgt := 17) hx hb dL_notice_10 (by decide) ?_
    refine lv_iconst (v := nI 0) hx hb dL_notice_17 (by decide) ?_
    exact xl_iret hx hb hr hlocks hS (by rw [nxC_f (any_ok hps), nxF_f (any_ok hps)]; exact hP) (thr_ok hps) dL_notice_18
set_option maxHeartbeats 4000000 in
set_option maxRecDepth 100000 in
theorem w_blocked (l : Launch) (D : va_G) (hl9 : l.stackTraces = false) (h0 : Nat) (a : Nat → Nat) (o : Nat) (cI cZ cL : ClassId) (C : CS) (hC : cOk C) (f : Nat → Int64) (u1 : Int32) : xLW l yL_blocked cL_blocked 4 [(0, 9, 12, 13)] (xrt 8 133) [.ref (a 17), .int (u1), .ref (o)] D h0 (wJ a o cI cZ cL C f) (tyJ cI cZ cL) (thrM (bUn u1) (false) (false)) (wJ a o cI cZ cL (nxC ((bUn u1) || false || false) C (C)) (nxF ((bUn u1) || false || false) f (blkCr C u1).toInt64)) := by
  refine xLW.of (by decide +kernel) (Nat.le_of_ble_eq_true rfl) ?_
  intro p e s m args below meth cd hx hb hr hml hown hlocks htab ht hN hT9 hE hP hK hD0 hD ls hl
  have hl : lv_has ls 4 [(0, .ref (a 17)), (1, .int (u1)), (2, .ref (o))] := hl
  have hown : s.vm.findClass RL = some m.cls := hown
  have hK2 := hK.sub (tys' := tyL cI cZ) [0, 1] rfl
  refine lv_aload_n hx hb dL_blocked_0 rfl (lv_at hl 2 rfl) ?_
  refine lv_iconst (v := nI 0) hx hb dL_blocked_1 (by decide) ?_
  refine lv_aload_n hx hb dL_blocked_2 rfl (lv_at hl 0 rfl) ?_
  refine lv_iload_n hx hb dL_blocked_3 rfl (lv_at hl 1 rfl) ?_
  refine xlV (As := [.int (u1)]) (rest := [.int (nI 0), .ref (o)]) (wr := [(o, .inl (cL, 1, .inr (.inl f)))]) (ws2 := wJ a o cI cZ cL (C) f) hx hb hml hown ht hN hT9 kV_L_61 (r_X3_blocked l D hl9 h0 a cI cZ C hC u1) ⟨by decide, by decide⟩ hP hD0 hD hK2 [0, 1, 2, 3, 4, 5, 6, 7, 8, 9, 10, 11, 12, 13, 14, 15, 16, 17] [18] [1, 2, 3, 4, 5, 6, 7, 8, 9, 10, 11, 12, 13, 14, 15, 16, 17, 18, 0] rfl rfl (by decide) (by decide) (by decide) rfl rfl (by decide) rfl rfl rfl rfl hl.1 rfl (Nat.le_of_ble_eq_true rfl) dL_blocked_4 ⟨by decide, by decide⟩ (fun E ce q9 H locs hF hP hS hce hcv hcl => ?_) (fun hps H locs hP hD hS => ?_)
  · rcases hF with ⟨rfl, g1⟩ | ⟨rfl, g1, g2⟩ | ⟨rfl, g1, g2, g3⟩
    · refine vx_catch (own := RL) (name := eIA) hown [] ⟨0, 9, 12, 13⟩ [] (htab.trans rfl) (fun _ h9 => absurd h9 List.not_mem_nil) rfl (by decide) (ht _ wd133) (va_Nw.use rfl (hT9.2.2.2.2.1 eIA (by decide +kernel))) hce hcv hcl ?_
      refine lv_astore_n (lv' := [(3, .ref (q9)), (0, .ref (a 17)), (1, .int (u1)), (2, .ref (o))]) hx hb dL_blocked_12 rfl hl (by decide) rfl (fun ls hl => ?_)
      refine lv_iconst (v := nI 1) hx hb dL_blocked_13 (by decide) ?_
      exact xl_iret hx hb hr hlocks hS (by rw [nxC_t (any_1 g1), nxF_t (any_1 g1)]; exact hP) (thr_1 g1) dL_blocked_14
    · exact absurd g2 (by decide)
    · exact absurd g3 (by decide)
  · skip
    refine lv_i2l (v := (blkCr C u1).toInt64) hx hb dL_blocked_7 rfl ?_
    refine xl_last hx hb hK hP hD hS 18 2 rfl rfl dL_blocked_8 (fun H locs hP hD hS => ?_)
    have hP : va_P D vwCl (wJ a o cI cZ cL (C) (vp_updL f 0 (blkCr C u1).toInt64)) H := hP
    refine lv_goto (tgt := 15) hx hb dL_blocked_9 (by decide) ?_
    refine lv_iconst (v := nI 0) hx hb dL_blocked_15 (by decide) ?_
    exact xl_iret hx hb hr hlocks hS (by rw [nxC_f (any_ok hps), nxF_f (any_ok hps)]; exact hP) (thr_ok hps) dL_blocked_16
