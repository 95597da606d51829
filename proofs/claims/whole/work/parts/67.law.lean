theorem kV_L_73 : xcV RL RX4 73 yX4_close cX4_close 10 (some .int) 6 := ⟨wd634, wd631, wd632, wd633, wd25, rfl, ⟨by decide +kernel, by decide +kernel, by decide +kernel⟩⟩
theorem kV_L_74 : xcV RL RX4 74 yX4_thrown cX4_thrown 1 (some .int) 0 := ⟨wd630, wd627, wd628, wd629, wd25, rfl, ⟨by decide +kernel, by decide +kernel, by decide +kernel⟩⟩
theorem kV_L_81 : xcV RL RX4 81 yX4_answer cX4_answer 4 none 2 := ⟨wd675, wd672, wd673, wd674, wd25, rfl, ⟨by decide +kernel, by decide +kernel, by decide +kernel⟩⟩
theorem kV_L_85 : xcV RL RX4 85 yX4_lift cX4_lift 5 (some .boolean) 2 := ⟨wd683, wd680, wd681, wd682, wd25, rfl, ⟨by decide +kernel, by decide +kernel, by decide +kernel⟩⟩
theorem kV_L_88 : xcV RL RX4 88 yX4_incident cX4_incident 3 none 2 := ⟨wd687, wd684, wd685, wd686, wd25, rfl, ⟨by decide +kernel, by decide +kernel, by decide +kernel⟩⟩
theorem kV_L_92 : xcV RL RX4 92 yX4_step cX4_step 6 (some .int) 3 := ⟨wd691, wd688, wd689, wd690, wd25, rfl, ⟨by decide +kernel, by decide +kernel, by decide +kernel⟩⟩
theorem kV_L_96 : xcV RL RX4 96 yX4_tick cX4_tick 4 (some .int) 1 := ⟨wd698, wd695, wd696, wd697, wd25, rfl, ⟨by decide +kernel, by decide +kernel, by decide +kernel⟩⟩
theorem kV_L_97 : xcV RL RX3 97 yX3_clock cX3_clock 1 (some .int) 0 := ⟨wd129, wd126, wd127, wd128, wd21, rfl, ⟨by decide +kernel, by decide +kernel, by decide +kernel⟩⟩
theorem kV_L_100 : xcV RL RX4 100 yX4_clock cX4_clock 1 (some .int) 0 := ⟨wd702, wd699, wd700, wd701, wd25, rfl, ⟨by decide +kernel, by decide +kernel, by decide +kernel⟩⟩
theorem kV_L_103 : xcV RL RX4 103 yX4_closed cX4_closed 4 (some .boolean) 3 := ⟨wd706, wd703, wd704, wd705, wd25, rfl, ⟨by decide +kernel, by decide +kernel, by decide +kernel⟩⟩
theorem kV_L_107 : xcV RL RX4 107 yX4_minutes cX4_minutes 7 (some .int) 4 := ⟨wd710, wd707, wd708, wd709, wd25, rfl, ⟨by decide +kernel, by decide +kernel, by decide +kernel⟩⟩
theorem kV_L_110 : xcV RL RX4 110 yX4_opens cX4_opens 5 (some .int) 3 := ⟨wd714, wd711, wd712, wd713, wd25, rfl, ⟨by decide +kernel, by decide +kernel, by decide +kernel⟩⟩
theorem kV_L_113 : xcV RL RX4 113 yX4_reason cX4_reason 9 (some .int) 4 := ⟨wd718, wd715, wd716, wd717, wd25, rfl, ⟨by decide +kernel, by decide +kernel, by decide +kernel⟩⟩
theorem kV_L_116 : xcV RL RX4 116 yX4_speed cX4_speed 7 (some .int) 3 := ⟨wd727, wd724, wd725, wd726, wd25, rfl, ⟨by decide +kernel, by decide +kernel, by decide +kernel⟩⟩
theorem kV_L_119 : xcV RL RX4 119 yX4_notice cX4_notice 3 (some .int) 2 := ⟨wd731, wd728, wd729, wd730, wd25, rfl, ⟨by decide +kernel, by decide +kernel, by decide +kernel⟩⟩
theorem kV_L_122 : xcV RL RX4 122 yX4_blocked cX4_blocked 4 (some .int) 1 := ⟨wd735, wd732, wd733, wd734, wd25, rfl, ⟨by decide +kernel, by decide +kernel, by decide +kernel⟩⟩
theorem kW_68 : xcL 68 yL_close cL_close 9 [(0, 18, 21, 13), (0, 18, 25, 15), (0, 18, 29, 17)] 8 := ⟨wd132, wd130, wd131, wd20, ⟨by decide +kernel, by decide +kernel, by decide +kernel⟩⟩
theorem kW_78 : xcL 78 yL_answer cL_answer 4 [(0, 6, 9, 13), (0, 6, 12, 23)] 3 := ⟨wd342, wd340, wd341, wd20, ⟨by decide +kernel, by decide +kernel, by decide +kernel⟩⟩
theorem kW_82 : xcL 82 yL_lift cL_lift 5 [(0, 17, 20, 13), (0, 17, 24, 15), (0, 17, 28, 23)] 4 := ⟨wd383, wd381, wd382, wd20, ⟨by decide +kernel, by decide +kernel, by decide +kernel⟩⟩
theorem kW_86 : xcL 86 yL_incident cL_incident 4 [(0, 6, 9, 13)] 3 := ⟨wd404, wd402, wd403, wd20, ⟨by decide +kernel, by decide +kernel, by decide +kernel⟩⟩
theorem kW_89 : xcL 89 yL_step cL_step 6 [(0, 12, 15, 13), (0, 12, 19, 15), (0, 12, 23, 17)] 5 := ⟨wd415, wd413, wd414, wd20, ⟨by decide +kernel, by decide +kernel, by decide +kernel⟩⟩
theorem kW_93 : xcL 93 yL_tick cL_tick 4 [(0, 9, 12, 15)] 3 := ⟨wd444, wd442, wd443, wd20, ⟨by decide +kernel, by decide +kernel, by decide +kernel⟩⟩
theorem kW_101 : xcL 101 yL_closed cL_closed 6 [(0, 19, 22, 13), (0, 19, 26, 15)] 5 := ⟨wd468, wd466, wd467, wd20, ⟨by decide +kernel, by decide +kernel, by decide +kernel⟩⟩
theorem kW_104 : xcL 104 yL_minutes cL_minutes 7 [(0, 14, 17, 13), (0, 14, 21, 15)] 6 := ⟨wd489, wd487, wd488, wd20, ⟨by decide +kernel, by decide +kernel, by decide +kernel⟩⟩
theorem kW_108 : xcL 108 yL_opens cL_opens 6 [(0, 12, 15, 13), (0, 12, 19, 15)] 5 := ⟨wd501, wd499, wd500, wd20, ⟨by decide +kernel, by decide +kernel, by decide +kernel⟩⟩
theorem kW_111 : xcL 111 yL_reason cL_reason 7 [(0, 14, 17, 13), (0, 14, 21, 15)] 6 := ⟨wd509, wd507, wd508, wd20, ⟨by decide +kernel, by decide +kernel, by decide +kernel⟩⟩
theorem kW_114 : xcL 114 yL_speed cL_speed 6 [(0, 12, 15, 13), (0, 12, 19, 15)] 5 := ⟨wd529, wd527, wd528, wd20, ⟨by decide +kernel, by decide +kernel, by decide +kernel⟩⟩
theorem kW_117 : xcL 117 yL_notice cL_notice 5 [(0, 10, 13, 13)] 4 := ⟨wd540, wd538, wd539, wd20, ⟨by decide +kernel, by decide +kernel, by decide +kernel⟩⟩
theorem kW_120 : xcL 120 yL_blocked cL_blocked 4 [(0, 9, 12, 13)] 3 := ⟨wd556, wd554, wd555, wd20, ⟨by decide +kernel, by decide +kernel, by decide +kernel⟩⟩
set_option maxHeartbeats 8000000 in
set_option maxRecDepth 100000 in
theorem la_close (l : Launch) {p : Program} {e : Env} {s : State} {m : MethodId} {below : List Frame} {meth : Method} {cd : Code} {D : va_G} {cI cZ cL : ClassId} {a u : Nat → Nat} {o b L k : Nat} {xs : Nat → Int32} {Q : State → Prop} (hl9 : l.stackTraces = false) (hx : p.tables.exec = Jvm.exec) (hb : cd.code = cL_law) (hml : cd.maxLocals = 7) (hown : s.vm.findClass RL = some m.cls) (ht : ∀ w ∈ wBIG, w.before #[Value.ref b] s = true) (hN : xN s) (hT9 : xT s.heap.size s) (hE : xE s) (hX : va_X b L xs s s.heap) (hbl : b < s.heap.size) (hL : L ≤ 3584) (hK : va_K D vwCl (tyJ cI cZ cL) s) (hk : 7 * k + 7 ≤ L)
    (kk : ∀ (C : CS) (M : MS) (f : Nat → Int64) (H : Heap) (locs : List Loc) (ls : Array Slot), inv C M (k + 1) → va_P D vwCl (wL a u o cI cZ cL C f M) H → va_D (fun q => s.heap.size ≤ q) (wL a u o cI cZ cL C f M) → va_S (fun q => s.heap.size ≤ q) s.heap H locs → lv_has ls 7 [(0, .ref b), (1, .ref (a 17)), (2, .ref (u 0)), (3, .ref o), (4, .int (nI (7 * k)))] → W p l e room_1 s m #[Value.ref b] below meth cd H locs (34 + (k + 1)) (3399 + 6 * (k + 1)) Q (F0 m 1137 ls []))
    {C : CS} {M : MS} {f : Nat → Int64} {H : Heap} {locs : List Loc} (hi : inv C M k) (hP : va_P D vwCl (wL a u o cI cZ cL C f M) H) (hD : va_D (fun q => s.heap.size ≤ q) (wL a u o cI cZ cL C f M)) (hS : va_S (fun q => s.heap.size ≤ q) s.heap H locs) {ls : Array Slot} (hl : lv_has ls 7 [(0, .ref b), (1, .ref (a 17)), (2, .ref (u 0)), (3, .ref o), (4, .int (nI (7 * k)))]) :
    W p l e room_1 s m #[Value.ref b] below meth cd H locs (34 + k) (3399 + 6 * k) Q (F0 m 112 ls []) := by
  have hK2 := hK.sub (tys' := tyL cI cZ) [0, 1] rfl
  have z := hi.c (by omega)
  refine lv_aload_n hx hb dL_law_112 rfl (lv_at hl 1 rfl) ?_
  refine lv_aload_n hx hb dL_law_113 rfl (lv_at hl 0 rfl) ?_
  refine lv_iload hx hb dL_law_114 (lv_at hl 4 rfl) ?_
  refine lv_iconst (v := nI 1) hx hb dL_law_116 (by decide) ?_
  refine lv_iadd hx hb dL_law_117 ?_
  refine xtop (y := nI (7 * k + 1)) (nI_add _ _) ?_
  refine xs_ld (i := 7 * k + 1) hx hb hX hbl hL hS (by omega) dL_law_118 ?_
  refine lv_aload_n hx hb dL_law_119 rfl (lv_at hl 0 rfl) ?_
  refine lv_iload hx hb dL_law_120 (lv_at hl 4 rfl) ?_
  refine lv_iconst (v := nI 2) hx hb dL_law_122 (by decide) ?_
  refine lv_iadd hx hb dL_law_123 ?_
  refine xtop (y := nI (7 * k + 2)) (nI_add _ _) ?_
  refine xs_ld (i := 7 * k + 2) hx hb hX hbl hL hS (by omega) dL_law_124 ?_
  refine lv_aload_n hx hb dL_law_125 rfl (lv_at hl 0 rfl) ?_
  refine lv_iload hx hb dL_law_126 (lv_at hl 4 rfl) ?_
  refine lv_iconst (v := nI 3) hx hb dL_law_128 (by decide) ?_
  refine lv_iadd hx hb dL_law_129 ?_
  refine xtop (y := nI (7 * k + 3)) (nI_add _ _) ?_
  refine xs_ld (i := 7 * k + 3) hx hb hX hbl hL hS (by omega) dL_law_130 ?_
  refine lv_aload_n hx hb dL_law_131 rfl (lv_at hl 0 rfl) ?_
  refine lv_iload hx hb dL_law_132 (lv_at hl 4 rfl) ?_
  refine lv_iconst (v := nI 4) hx hb dL_law_134 (by decide) ?_
  refine lv_iadd hx hb dL_law_135 ?_
  refine xtop (y := nI (7 * k + 4)) (nI_add _ _) ?_
  refine xs_ld (i := 7 * k + 4) hx hb hX hbl hL hS (by omega) dL_law_136 ?_
  refine lv_aload_n hx hb dL_law_137 rfl (lv_at hl 0 rfl) ?_
  refine lv_iload hx hb dL_law_138 (lv_at hl 4 rfl) ?_
  refine lv_iconst (v := nI 5) hx hb dL_law_140 (by decide) ?_
  refine lv_iadd hx hb dL_law_141 ?_
  refine xtop (y := nI (7 * k + 5)) (nI_add _ _) ?_
  refine xs_ld (i := 7 * k + 5) hx hb hX hbl hL hS (by omega) dL_law_142 ?_
  refine lv_aload_n hx hb dL_law_143 rfl (lv_at hl 0 rfl) ?_
  refine lv_iload hx hb dL_law_144 (lv_at hl 4 rfl) ?_
  refine lv_bipush (v := nI 6) hx hb dL_law_146 (by decide) ?_
  refine lv_iadd hx hb dL_law_148 ?_
  refine xtop (y := nI (7 * k + 6)) (nI_add _ _) ?_
  refine xs_ld (i := 7 * k + 6) hx hb hX hbl hL hS (by omega) dL_law_149 ?_
  refine lv_aload_n hx hb dL_law_150 rfl (lv_at hl 3 rfl) ?_
  refine xwL (As := [.ref (a 17), .int (xs (7 * k + 1)), .int (xs (7 * k + 2)), .int (xs (7 * k + 3)), .int (xs (7 * k + 4)), .int (xs (7 * k + 5)), .int (xs (7 * k + 6)), .ref (o)]) (rest := []) (wr := wM u cI cZ M) (ws2 := wL a u o cI cZ cL (nxC ((bBad (xs (7 * k + 1)) (xs (7 * k + 2)) (xs (7 * k + 6))) || (bRng (xs (7 * k + 1)) (xs (7 * k + 3)) (xs (7 * k + 4)) (xs (7 * k + 5)) (xs (7 * k + 6))) || (decide (100 ≤ kN (cK C)))) C (closC C (xs (7 * k + 1)) (xs (7 * k + 2)) (xs (7 * k + 3)) (xs (7 * k + 4)) (xs (7 * k + 5)) (xs (7 * k + 6)))) (nxF ((bBad (xs (7 * k + 1)) (xs (7 * k + 2)) (xs (7 * k + 6))) || (bRng (xs (7 * k + 1)) (xs (7 * k + 3)) (xs (7 * k + 4)) (xs (7 * k + 5)) (xs (7 * k + 6))) || (decide (100 ≤ kN (cK C)))) f (nI (kN (cK C))).toInt64) M) hx hb hml hown ht hN hT9 hE kW_68 (w_close l D hl9 s.heap.size a o cI cZ cL C z.1 f (xs (7 * k + 1)) (xs (7 * k + 2)) (xs (7 * k + 3)) (xs (7 * k + 4)) (xs (7 * k + 5)) (xs (7 * k + 6))) ⟨Nat.le_of_ble_eq_true rfl, Nat.le_of_ble_eq_true rfl⟩ hP hD hS hK [0, 1, 2, 3, 4, 5, 6, 7, 8, 9, 10, 11, 12, 13, 14, 15, 16, 17, 18] [19, 20, 21, 22, 23, 24, 25, 26, 27, 28, 29, 30, 31, 32, 33] [15, 16, 17, 18, 19, 20, 21, 22, 23, 24, 25, 26, 27, 28, 29, 30, 31, 32, 33, 0, 1, 2, 3, 4, 5, 6, 7, 8, 9, 10, 11, 12, 13, 14] rfl rfl (by decide) (by decide) (by decide) rfl rfl (by decide) rfl hl.1 rfl (Nat.le_of_ble_eq_true rfl) dL_law_151 ⟨(show 34 + k + 1 ≤ 1079 by omega), (show 3399 + 6 * k + 6 ≤ 11717 by omega)⟩ (fun H locs hP hD hS => ?_)
  have g := p_close (C := C) (M := M) (k := k) (f := f) (k1 := (xs (7 * k + 1))) (p1 := (xs (7 * k + 2))) (s1 := (xs (7 * k + 3))) (a1 := (xs (7 * k + 4))) (b1 := (xs (7 * k + 5))) (x1 := (xs (7 * k + 6))) hi
  refine lv_istore (lv' := [(5, .int (thrM (bBad (xs (7 * k + 1)) (xs (7 * k + 2)) (xs (7 * k + 6))) (bRng (xs (7 * k + 1)) (xs (7 * k + 3)) (xs (7 * k + 4)) (xs (7 * k + 5)) (xs (7 * k + 6))) (decide (100 ≤ kN (cK C))))), (0, .ref (b)), (1, .ref (a 17)), (2, .ref (u 0)), (3, .ref (o)), (4, .int (nI (7 * k)))]) hx hb dL_law_154 hl (by decide) rfl (fun ls hl => ?_)
  refine lv_aload_n hx hb dL_law_156 rfl (lv_at hl 3 rfl) ?_
  refine lv_aload_n hx hb dL_law_157 rfl (lv_at hl 1 rfl) ?_
  refine lv_iload hx hb dL_law_158 (lv_at hl 5 rfl) ?_
  refine lv_iconst (v := nI 1) hx hb dL_law_160 (by decide) ?_
  refine lv_iadd hx hb dL_law_161 ?_
  refine xtop (y := nI (7 * k + 1)) (nI_add _ _) ?_
  refine xs_ld (i := 7 * k + 1) hx hb hX hbl hL hS (by omega) dL_law_162 ?_
  refine lv_aload_n hx hb dL_law_163 rfl (lv_at hl 1 rfl) ?_
  refine lv_iload hx hb dL_law_164 (lv_at hl 5 rfl) ?_
  refine lv_iconst (v := nI 2) hx hb dL_law_166 (by decide) ?_
  refine lv_iadd hx hb dL_law_167 ?_
  refine xtop (y := nI (7 * k + 2)) (nI_add _ _) ?_
  refine xs_ld (i := 7 * k + 2) hx hb hX hbl hL hS (by omega) dL_law_168 ?_
  refine lv_aload_n hx hb dL_law_169 rfl (lv_at hl 1 rfl) ?_
  refine lv_iload hx hb dL_law_170 (lv_at hl 5 rfl) ?_
  refine lv_iconst (v := nI 3) hx hb dL_law_172 (by decide) ?_
  refine lv_iadd hx hb dL_law_173 ?_
  refine xtop (y := nI (7 * k + 3)) (nI_add _ _) ?_
  refine xs_ld (i := 7 * k + 3) hx hb hX hbl hL hS (by omega) dL_law_174 ?_
  refine lv_aload_n hx hb dL_law_175 rfl (lv_at hl 1 rfl) ?_
  refine lv_iload hx hb dL_law_176 (lv_at hl 5 rfl) ?_
  refine lv_iconst (v := nI 4) hx hb dL_law_178 (by decide) ?_
  refine lv_iadd hx hb dL_law_179 ?_
  refine xtop (y := nI (7 * k + 4)) (nI_add _ _) ?_
  refine xs_ld (i := 7 * k + 4) hx hb hX hbl hL hS (by omega) dL_law_180 ?_
  refine lv_aload_n hx hb dL_law_181 rfl (lv_at hl 1 rfl) ?_
  refine lv_iload hx hb dL_law_182 (lv_at hl 5 rfl) ?_
  refine lv_iconst (v := nI 5) hx hb dL_law_184 (by decide) ?_
  refine lv_iadd hx hb dL_law_185 ?_
  refine xtop (y := nI (7 * k + 5)) (nI_add _ _) ?_
  refine xs_ld (i := 7 * k + 5) hx hb hX hbl hL hS (by omega) dL_law_186 ?_
  refine lv_aload_n hx hb dL_law_187 rfl (lv_at hl 1 rfl) ?_
  refine lv_iload hx hb dL_law_188 (lv_at hl 5 rfl) ?_
  refine lv_bipush (v := nI 6) hx hb dL_law_190 (by decide) ?_
  refine lv_iadd hx hb dL_law_192 ?_
  refine xtop (y := nI (7 * k + 6)) (nI_add _ _) ?_
  refine xs_ld (i := 7 * k + 6) hx hb hX hbl hL hS (by omega) dL_law_193 ?_
  refine xwV (As := [.int (xs (7 * k + 1)), .int (xs (7 * k + 2)), .int (xs (7 * k + 3)), .int (xs (7 * k + 4)), .int (xs (7 * k + 5)), .int (xs (7 * k + 6))]) (rest := []) (wr := wJ a o cI cZ cL (nxC ((bBad (xs (7 * k + 1)) (xs (7 * k + 2)) (xs (7 * k + 6))) || (bRng (xs (7 * k + 1)) (xs (7 * k + 3)) (xs (7 * k + 4)) (xs (7 * k + 5)) (xs (7 * k + 6))) || (decide (100 ≤ kN (cK C)))) C (closC C (xs (7 * k + 1)) (xs (7 * k + 2)) (xs (7 * k + 3)) (xs (7 * k + 4)) (xs (7 * k + 5)) (xs (7 * k + 6)))) (nxF ((bBad (xs (7 * k + 1)) (xs (7 * k + 2)) (xs (7 * k + 6))) || (bRng (xs (7 * k + 1)) (xs (7 * k + 3)) (xs (7 * k + 4)) (xs (7 * k + 5)) (xs (7 * k + 6))) || (decide (100 ≤ kN (cK C)))) f (nI (kN (cK C))).toInt64)) (ws2 := wL a u o cI cZ cL (nxC ((bBad (xs (7 * k + 1)) (xs (7 * k + 2)) (xs (7 * k + 6))) || (bRng (xs (7 * k + 1)) (xs (7 * k + 3)) (xs (7 * k + 4)) (xs (7 * k + 5)) (xs (7 * k + 6))) || (decide (100 ≤ kN (cK C)))) C (closC C (xs (7 * k + 1)) (xs (7 * k + 2)) (xs (7 * k + 3)) (xs (7 * k + 4)) (xs (7 * k + 5)) (xs (7 * k + 6)))) (nxF ((bBad (xs (7 * k + 1)) (xs (7 * k + 2)) (xs (7 * k + 6))) || (bRng (xs (7 * k + 1)) (xs (7 * k + 3)) (xs (7 * k + 4)) (xs (7 * k + 5)) (xs (7 * k + 6))) || (decide (100 ≤ kN (cK C)))) f (nI (kN (cK C))).toInt64) (closMs M (xs (7 * k + 1)) (xs (7 * k + 2)) (xs (7 * k + 3)) (xs (7 * k + 4)) (xs (7 * k + 5)) (xs (7 * k + 6)))) hx hb hml hown ht hN kV_L_73 (r_X4_close l D u cI cZ M z.2.2.1 z.2.2.2.1 z.2.2.2.2.1 (xs (7 * k + 1)) (xs (7 * k + 2)) (xs (7 * k + 3)) (xs (7 * k + 4)) (xs (7 * k + 5)) (xs (7 * k + 6))) ⟨Nat.le_of_ble_eq_true rfl, Nat.le_of_ble_eq_true rfl⟩ hP hD hS hK2 [19, 20, 21, 22, 23, 24, 25, 26, 27, 28, 29, 30, 31, 32, 33] [0, 1, 2, 3, 4, 5, 6, 7, 8, 9, 10, 11, 12, 13, 14, 15, 16, 17, 18] [0, 1, 2, 3, 4, 5, 6, 7, 8, 9, 10, 11, 12, 13, 14, 15, 16, 17, 18, 19, 20, 21, 22, 23, 24, 25, 26, 27, 28, 29, 30, 31, 32, 33] rfl rfl (by decide) (by decide) (by decide) rfl rfl (by decide) rfl rfl rfl rfl hl.1 rfl (Nat.le_of_ble_eq_true rfl) dL_law_194 ⟨(show 34 + k + 1 ≤ 1079 by omega), (show 3399 + 6 * k + 6 ≤ 11717 by omega)⟩ (fun H locs hP hD hS => ?_)
  refine lv_istore (lv' := [(6, .int (closMr M (xs (7 * k + 1)) (xs (7 * k + 2)) (xs (7 * k + 3)) (xs (7 * k + 4)) (xs (7 * k + 5)) (xs (7 * k + 6)))), (5, .int (thrM (bBad (xs (7 * k + 1)) (xs (7 * k + 2)) (xs (7 * k + 6))) (bRng (xs (7 * k + 1)) (xs (7 * k + 3)) (xs (7 * k + 4)) (xs (7 * k + 5)) (xs (7 * k + 6))) (decide (100 ≤ kN (cK C))))), (0, .ref (b)), (1, .ref (a 17)), (2, .ref (u 0)), (3, .ref (o)), (4, .int (nI (7 * k)))]) hx hb dL_law_197 hl (by decide) rfl (fun ls hl => ?_)
  refine lv_aload_n hx hb dL_law_199 rfl (lv_at hl 4 rfl) ?_
  refine xrV (As := []) (rest := []) hx hb hml hown ht hN kV_L_74 (r_X4_thrown l D u cI cZ (closMs M (xs (7 * k + 1)) (xs (7 * k + 2)) (xs (7 * k + 3)) (xs (7 * k + 4)) (xs (7 * k + 5)) (xs (7 * k + 6)))) ⟨Nat.le_of_ble_eq_true rfl, Nat.le_of_ble_eq_true rfl⟩ (xP_sub (isC := [19, 20, 21, 22, 23, 24, 25, 26, 27, 28, 29, 30, 31, 32, 33]) hP rfl) hK2 rfl rfl rfl rfl hl.1 rfl (Nat.le_of_ble_eq_true rfl) dL_law_200 ⟨(show 34 + k + 1 ≤ 1079 by omega), (show 3399 + 6 * k + 6 ≤ 11717 by omega)⟩ ?_
  refine lv_iload hx hb dL_law_203 (lv_at hl 1 rfl) ?_
  refine lv_icmp_eq (tgt := 210) hx hb dL_law_205 (by decide) (fun _ => ?_) (fun h9 => absurd g.2.1 h9)
  refine lv_iload hx hb dL_law_210 (lv_at hl 1 rfl) ?_
  refine lv_if_ne (tgt := 227) hx hb dL_law_212 (by decide) (fun _ => ?_) (fun hz => ?_)
  · skip
    refine lv_goto (tgt := 1137) hx hb dL_law_227 (by decide) ?_
    exact W.widen (k := 34 + (k + 1)) (n := 3399 + 6 * (k + 1)) (by omega) (by omega) (kk _ _ _ _ _ _ g.1 hP hD hS (lv_sub hl [2, 3, 4, 5, 6] rfl))
  · have g2 := g.2.2 hz
    refine lv_aload_n hx hb dL_law_215 rfl (lv_at hl 5 rfl) ?_
    refine lv_iconst (v := nI 0) hx hb dL_law_216 (by decide) ?_
    refine xl_lald hx hb hK hP 18 2 rfl rfl dL_law_217 ?_
    refine lv_iload hx hb dL_law_218 (lv_at hl 0 rfl) ?_
    refine lv_i2l (v := (closMr M (xs (7 * k + 1)) (xs (7 * k + 2)) (xs (7 * k + 3)) (xs (7 * k + 4)) (xs (7 * k + 5)) (xs (7 * k + 6))).toInt64) hx hb dL_law_220 rfl ?_
    refine xl_lcmp hx hb (g2.trans (by first | rfl | decide)) dL_law_221 ?_
    refine lv_if_eq (tgt := 227) hx hb dL_law_222 (by decide) (fun _ => ?_) (fun h9 => absurd rfl h9)
    refine lv_goto (tgt := 1137) hx hb dL_law_227 (by decide) ?_
    exact W.widen (k := 34 + (k + 1)) (n := 3399 + 6 * (k + 1)) (by omega) (by omega) (kk _ _ _ _ _ _ g.1 hP hD hS (lv_sub hl [2, 3, 4, 5, 6] rfl))
set_option maxHeartbeats 8000000 in
set_option maxRecDepth 100000 in
theorem la_answer (l : Launch) {p : Program} {e : Env} {s : State} {m : MethodId} {below : List Frame} {meth : Method} {cd : Code} {D : va_G} {cI cZ cL : ClassId} {a u : Nat → Nat} {o b L k : Nat} {xs : Nat → Int32} {Q : State → Prop} (hl9 : l.stackTraces = false) (hx : p.tables.exec = Jvm.exec) (hb : cd.code = cL_law) (hml : cd.maxLocals = 7) (hown : s.vm.findClass RL = some m.cls) (ht : ∀ w ∈ wBIG, w.before #[Value.ref b] s = true) (hN : xN s) (hT9 : xT s.heap.size s) (hE : xE s) (hX : va_X b L xs s s.heap) (hbl : b < s.heap.size) (hL : L ≤ 3584) (hK : va_K D vwCl (tyJ cI cZ cL) s) (hk : 7 * k + 7 ≤ L)
    (kk : ∀ (C : CS) (M : MS) (f : Nat → Int64) (H : Heap) (locs : List Loc) (ls : Array Slot), inv C M (k + 1) → va_P D vwCl (wL a u o cI cZ cL C f M) H → va_D (fun q => s.heap.size ≤ q) (wL a u o cI cZ cL C f M) → va_S (fun q => s.heap.size ≤ q) s.heap H locs → lv_has ls 7 [(0, .ref b), (1, .ref (a 17)), (2, .ref (u 0)), (3, .ref o), (4, .int (nI (7 * k)))] → W p l e room_1 s m #[Value.ref b] below meth cd H locs (34 + (k + 1)) (3399 + 6 * (k + 1)) Q (F0 m 1137 ls []))
    {C : CS} {M : MS} {f : Nat → Int64} {H : Heap} {locs : List Loc} (hi : inv C M k) (hP : va_P D vwCl (wL a u o cI cZ cL C f M) H) (hD : va_D (fun q => s.heap.size ≤ q) (wL a u o cI cZ cL C f M)) (hS : va_S (fun q => s.heap.size ≤ q) s.heap H locs) {ls : Array Slot} (hl : lv_has ls 7 [(0, .ref b), (1, .ref (a 17)), (2, .ref (u 0)), (3, .ref o), (4, .int (nI (7 * k)))]) :
    W p l e room_1 s m #[Value.ref b] below meth cd H locs (34 + k) (3399 + 6 * k) Q (F0 m 230 ls []) := by
  have hK2 := hK.sub (tys' := tyL cI cZ) [0, 1] rfl
  have z := hi.c (by omega)
  refine lv_aload_n hx hb dL_law_230 rfl (lv_at hl 1 rfl) ?_
  refine lv_aload_n hx hb dL_law_231 rfl (lv_at hl 0 rfl) ?_
  refine lv_iload hx hb dL_law_232 (lv_at hl 4 rfl) ?_
  refine lv_iconst (v := nI 1) hx hb dL_law_234 (by decide) ?_
  refine lv_iadd hx hb dL_law_235 ?_
  refine xtop (y := nI (7 * k + 1)) (nI_add _ _) ?_
  refine xs_ld (i := 7 * k + 1) hx hb hX hbl hL hS (by omega) dL_law_236 ?_
  refine lv_aload_n hx hb dL_law_237 rfl (lv_at hl 0 rfl) ?_
  refine lv_iload hx hb dL_law_238 (lv_at hl 4 rfl) ?_
  refine lv_iconst (v := nI 2) hx hb dL_law_240 (by decide) ?_
  refine lv_iadd hx hb dL_law_241 ?_
  refine xtop (y := nI (7 * k + 2)) (nI_add _ _) ?_
  refine xs_ld (i := 7 * k + 2) hx hb hX hbl hL hS (by omega) dL_law_242 ?_
  refine lv_if_eq (tgt := 250) hx hb dL_law_243 (by decide) (fun hz => ?_) (fun hz => ?_)
  · skip
    refine lv_iconst (v := bI (!decide (xs (7 * k + 2) = 0))) hx hb dL_law_250 (by rw [bI_dn hz]; decide) ?_
    refine xwL (As := [.ref (a 17), .int (xs (7 * k + 1)), .int (bI (!decide (xs (7 * k + 2) = 0)))]) (rest := []) (wr := wM u cI cZ M) (ws2 := wL a u o cI cZ cL (nxC ((bCl (kN (cK C)) (xs (7 * k + 1))) || (stK (cK C) (xs (7 * k + 1))) || false) C (ansC C (xs (7 * k + 1)) (!decide (xs (7 * k + 2) = 0)))) f M) hx hb hml hown ht hN hT9 hE kW_78 (w_answer l D hl9 s.heap.size a o cI cZ cL C z.1 f (xs (7 * k + 1)) (!decide (xs (7 * k + 2) = 0))) ⟨Nat.le_of_ble_eq_true rfl, Nat.le_of_ble_eq_true rfl⟩ hP hD hS hK [0, 1, 2, 3, 4, 5, 6, 7, 8, 9, 10, 11, 12, 13, 14, 15, 16, 17, 18] [19, 20, 21, 22, 23, 24, 25, 26, 27, 28, 29, 30, 31, 32, 33] [15, 16, 17, 18, 19, 20, 21, 22, 23, 24, 25, 26, 27, 28, 29, 30, 31, 32, 33, 0, 1, 2, 3, 4, 5, 6, 7, 8, 9, 10, 11, 12, 13, 14] rfl rfl (by decide) (by decide) (by decide) rfl rfl (by decide) rfl hl.1 rfl (Nat.le_of_ble_eq_true rfl) dL_law_251 ⟨(show 34 + k + 1 ≤ 1079 by omega), (show 3399 + 6 * k + 6 ≤ 11717 by omega)⟩ (fun H locs hP hD hS => ?_)
    have g := p_answer (C := C) (M := M) (k := k) (i1 := (xs (7 * k + 1))) (b1 := (!decide (xs (7 * k + 2) = 0))) hi
    refine lv_istore (lv' := [(5, .int (thrM (bCl (kN (cK C)) (xs (7 * k + 1))) (stK (cK C) (xs (7 * k + 1))) (false))), (0, .ref (b)), (1, .ref (a 17)), (2, .ref (u 0)), (3, .ref (o)), (4, .int (nI (7 * k)))]) hx hb dL_law_254 hl (by decide) rfl (fun ls hl => ?_)
    refine lv_aload_n hx hb dL_law_256 rfl (lv_at hl 3 rfl) ?_
    refine lv_aload_n hx hb dL_law_257 rfl (lv_at hl 1 rfl) ?_
    refine lv_iload hx hb dL_law_258 (lv_at hl 5 rfl) ?_
    refine lv_iconst (v := nI 1) hx hb dL_law_260 (by decide) ?_
    refine lv_iadd hx hb dL_law_261 ?_
    refine xtop (y := nI (7 * k + 1)) (nI_add _ _) ?_
    refine xs_ld (i := 7 * k + 1) hx hb hX hbl hL hS (by omega) dL_law_262 ?_
    refine lv_aload_n hx hb dL_law_263 rfl (lv_at hl 1 rfl) ?_
    refine lv_iload hx hb dL_law_264 (lv_at hl 5 rfl) ?_
    refine lv_iconst (v := nI 2) hx hb dL_law_266 (by decide) ?_
    refine lv_iadd hx hb dL_law_267 ?_
    refine xtop (y := nI (7 * k + 2)) (nI_add _ _) ?_
    refine xs_ld (i := 7 * k + 2) hx hb hX hbl hL hS (by omega) dL_law_268 ?_
    refine lv_if_eq (tgt := 276) hx hb dL_law_269 (by decide) (fun _ => ?_) (fun h9 => absurd hz h9)
    refine lv_iconst (v := bI (!decide (xs (7 * k + 2) = 0))) hx hb dL_law_276 (by rw [bI_dn hz]; decide) ?_
    refine xwV (As := [.int (xs (7 * k + 1)), .int (bI (!decide (xs (7 * k + 2) = 0)))]) (rest := []) (wr := wJ a o cI cZ cL (nxC ((bCl (kN (cK C)) (xs (7 * k + 1))) || (stK (cK C) (xs (7 * k + 1))) || false) C (ansC C (xs (7 * k + 1)) (!decide (xs (7 * k + 2) = 0)))) f) (ws2 := wL a u o cI cZ cL (nxC ((bCl (kN (cK C)) (xs (7 * k + 1))) || (stK (cK C) (xs (7 * k + 1))) || false) C (ansC C (xs (7 * k + 1)) (!decide (xs (7 * k + 2) = 0)))) f (ansMs M (xs (7 * k + 1)) (!decide (xs (7 * k + 2) = 0)))) hx hb hml hown ht hN kV_L_81 (r_X4_answer l D u cI cZ M z.2.2.1 z.2.2.2.1 z.2.2.2.2.1 (xs (7 * k + 1)) (!decide (xs (7 * k + 2) = 0))) ⟨Nat.le_of_ble_eq_true rfl, Nat.le_of_ble_eq_true rfl⟩ hP hD hS hK2 [19, 20, 21, 22, 23, 24, 25, 26, 27, 28, 29, 30, 31, 32, 33] [0, 1, 2, 3, 4, 5, 6, 7, 8, 9, 10, 11, 12, 13, 14, 15, 16, 17, 18] [0, 1, 2, 3, 4, 5, 6, 7, 8, 9, 10, 11, 12, 13, 14, 15, 16, 17, 18, 19, 20, 21, 22, 23, 24, 25, 26, 27, 28, 29, 30, 31, 32, 33] rfl rfl (by decide) (by decide) (by decide) rfl rfl (by decide) rfl rfl rfl rfl hl.1 rfl (Nat.le_of_ble_eq_true rfl) dL_law_277 ⟨(show 34 + k + 1 ≤ 1079 by omega), (show 3399 + 6 * k + 6 ≤ 11717 by omega)⟩ (fun H locs hP hD hS => ?_)
    refine lv_aload_n hx hb dL_law_280 rfl (lv_at hl 3 rfl) ?_
    refine xrV (As := []) (rest := []) hx hb hml hown ht hN kV_L_74 (r_X4_thrown l D u cI cZ (ansMs M (xs (7 * k + 1)) (!decide (xs (7 * k + 2) = 0)))) ⟨Nat.le_of_ble_eq_true rfl, Nat.le_of_ble_eq_true rfl⟩ (xP_sub (isC := [19, 20, 21, 22, 23, 24, 25, 26, 27, 28, 29, 30, 31, 32, 33]) hP rfl) hK2 rfl rfl rfl rfl hl.1 rfl (Nat.le_of_ble_eq_true rfl) dL_law_281 ⟨(show 34 + k + 1 ≤ 1079 by omega), (show 3399 + 6 * k + 6 ≤ 11717 by omega)⟩ ?_
    refine lv_iload hx hb dL_law_284 (lv_at hl 0 rfl) ?_
    refine lv_icmp_eq (tgt := 291) hx hb dL_law_286 (by decide) (fun _ => ?_) (fun h9 => absurd g.2 h9)
    refine lv_goto (tgt := 1137) hx hb dL_law_291 (by decide) ?_
    exact W.widen (k := 34 + (k + 1)) (n := 3399 + 6 * (k + 1)) (by omega) (by omega) (kk _ _ _ _ _ _ g.1 hP hD hS (lv_sub hl [1, 2, 3, 4, 5] rfl))
  · skip
    refine lv_iconst (v := bI (!decide (xs (7 * k + 2) = 0))) hx hb dL_law_246 (by rw [bI_dt hz]; decide) ?_
    refine lv_goto (tgt := 251) hx hb dL_law_247 (by decide) ?_
    refine xwL (As := [.ref (a 17), .int (xs (7 * k + 1)), .int (bI (!decide (xs (7 * k + 2) = 0)))]) (rest := []) (wr := wM u cI cZ M) (ws2 := wL a u o cI cZ cL (nxC ((bCl (kN (cK C)) (xs (7 * k + 1))) || (stK (cK C) (xs (7 * k + 1))) || false) C (ansC C (xs (7 * k + 1)) (!decide (xs (7 * k + 2) = 0)))) f M) hx hb hml hown ht hN hT9 hE kW_78 (w_answer l D hl9 s.heap.size a o cI cZ cL C z.1 f (xs (7 * k + 1)) (!decide (xs (7 * k + 2) = 0))) ⟨Nat.le_of_ble_eq_true rfl, Nat.le_of_ble_eq_true rfl⟩ hP hD hS hK [0, 1, 2, 3, 4, 5, 6, 7, 8, 9, 10, 11, 12, 13, 14, 15, 16, 17, 18] [19, 20, 21, 22, 23, 24, 25, 26, 27, 28, 29, 30, 31, 32, 33] [15, 16, 17, 18, 19, 20, 21, 22, 23, 24, 25, 26, 27, 28, 29, 30, 31, 32, 33, 0, 1, 2, 3, 4, 5, 6, 7, 8, 9, 10, 11, 12, 13, 14] rfl rfl (by decide) (by decide) (by decide) rfl rfl (by decide) rfl hl.1 rfl (Nat.le_of_ble_eq_true rfl) dL_law_251 ⟨(show 34 + k + 1 ≤ 1079 by omega), (show 3399 + 6 * k + 6 ≤ 11717 by omega)⟩ (fun H locs hP hD hS => ?_)
    have g := p_answer (C := C) (M := M) (k := k) (i1 := (xs (7 * k + 1))) (b1 := (!decide (xs (7 * k + 2) = 0))) hi
    refine lv_istore (lv' := [(5, .int (thrM (bCl (kN (cK C)) (xs (7 * k + 1))) (stK (cK C) (xs (7 * k + 1))) (false))), (0, .ref (b)), (1, .ref (a 17)), (2, .ref (u 0)), (3, .ref (o)), (4, .int (nI (7 * k)))]) hx hb dL_law_254 hl (by decide) rfl (fun ls hl => ?_)
    refine lv_aload_n hx hb dL_law_256 rfl (lv_at hl 3 rfl) ?_
    refine lv_aload_n hx hb dL_law_257 rfl (lv_at hl 1 rfl) ?_
    refine lv_iload hx hb dL_law_258 (lv_at hl 5 rfl) ?_
    refine lv_iconst (v := nI 1) hx hb dL_law_260 (by decide) ?_
    refine lv_iadd hx hb dL_law_261 ?_
    refine xtop (y := nI (7 * k + 1)) (nI_add _ _) ?_
    refine xs_ld (i := 7 * k + 1) hx hb hX hbl hL hS (by omega) dL_law_262 ?_
    refine lv_aload_n hx hb dL_law_263 rfl (lv_at hl 1 rfl) ?_
    refine lv_iload hx hb dL_law_264 (lv_at hl 5 rfl) ?_
    refine lv_iconst (v := nI 2) hx hb dL_law_266 (by decide) ?_
    refine lv_iadd hx hb dL_law_267 ?_
    refine xtop (y := nI (7 * k + 2)) (nI_add _ _) ?_
    refine xs_ld (i := 7 * k + 2) hx hb hX hbl hL hS (by omega) dL_law_268 ?_
    refine lv_if_eq (tgt := 276) hx hb dL_law_269 (by decide) (fun h9 => absurd h9 hz) (fun _ => ?_)
    refine lv_iconst (v := bI (!decide (xs (7 * k + 2) = 0))) hx hb dL_law_272 (by rw [bI_dt hz]; decide) ?_
    refine lv_goto (tgt := 277) hx hb dL_law_273 (by decide) ?_
    refine xwV (As := [.int (xs (7 * k + 1)), .int (bI (!decide (xs (7 * k + 2) = 0)))]) (rest := []) (wr := wJ a o cI cZ cL (nxC ((bCl (kN (cK C)) (xs (7 * k + 1))) || (stK (cK C) (xs (7 * k + 1))) || false) C (ansC C (xs (7 * k + 1)) (!decide (xs (7 * k + 2) = 0)))) f) (ws2 := wL a u o cI cZ cL (nxC ((bCl (kN (cK C)) (xs (7 * k + 1))) || (stK (cK C) (xs (7 * k + 1))) || false) C (ansC C (xs (7 * k + 1)) (!decide (xs (7 * k + 2) = 0)))) f (ansMs M (xs (7 * k + 1)) (!decide (xs (7 * k + 2) = 0)))) hx hb hml hown ht hN kV_L_81 (r_X4_answer l D u cI cZ M z.2.2.1 z.2.2.2.1 z.2.2.2.2.1 (xs (7 * k + 1)) (!decide (xs (7 * k + 2) = 0))) ⟨Nat.le_of_ble_eq_true rfl, Nat.le_of_ble_eq_true rfl⟩ hP hD hS hK2 [19, 20, 21, 22, 23, 24, 25, 26, 27, 28, 29, 30, 31, 32, 33] [0, 1, 2, 3, 4, 5, 6, 7, 8, 9, 10, 11, 12, 13, 14, 15, 16, 17, 18] [0, 1, 2, 3, 4, 5, 6, 7, 8, 9, 10, 11, 12, 13, 14, 15, 16, 17, 18, 19, 20, 21, 22, 23, 24, 25, 26, 27, 28, 29, 30, 31, 32, 33] rfl rfl (by decide) (by decide) (by decide) rfl rfl (by decide) rfl rfl rfl rfl hl.1 rfl (Nat.le_of_ble_eq_true rfl) dL_law_277 ⟨(show 34 + k + 1 ≤ 1079 by omega), (show 3399 + 6 * k + 6 ≤ 11717 by omega)⟩ (fun H locs hP hD hS => ?_)
    refine lv_aload_n hx hb dL_law_280 rfl (lv_at hl 3 rfl) ?_
    refine xrV (As := []) (rest := []) hx hb hml hown ht hN kV_L_74 (r_X4_thrown l D u cI cZ (ansMs M (xs (7 * k + 1)) (!decide (xs (7 * k + 2) = 0)))) ⟨Nat.le_of_ble_eq_true rfl, Nat.le_of_ble_eq_true rfl⟩ (xP_sub (isC := [19, 20, 21, 22, 23, 24, 25, 26, 27, 28, 29, 30, 31, 32, 33]) hP rfl) hK2 rfl rfl rfl rfl hl.1 rfl (Nat.le_of_ble_eq_true rfl) dL_law_281 ⟨(show 34 + k + 1 ≤ 1079 by omega), (show 3399 + 6 * k + 6 ≤ 11717 by omega)⟩ ?_
    refine lv_iload hx hb dL_law_284 (lv_at hl 0 rfl) ?_
    refine lv_icmp_eq (tgt := 291) hx hb dL_law_286 (by decide) (fun _ => ?_) (fun h9 => absurd g.2 h9)
    refine lv_goto (tgt := 1137) hx hb dL_law_291 (by decide) ?_
    exact W.widen (k := 34 + (k + 1)) (n := 3399 + 6 * (k + 1)) (by omega) (by omega) (kk _ _ _ _ _ _ g.1 hP hD hS (lv_sub hl [1, 2, 3, 4, 5] rfl))
set_option maxHeartbeats 8000000 in
set_option maxRecDepth 100000 in
theorem la_lift (l : Launch) {p : Program} {e : Env} {s : State} {m : MethodId} {below : List Frame} {meth : Method} {cd : Code} {D : va_G} {cI cZ cL : ClassId} {a u : Nat → Nat} {o b L k : Nat} {xs : Nat → Int32} {Q : State → Prop} (hl9 : l.stackTraces = false) (hx : p.tables.exec = Jvm.exec) (hb : cd.code = cL_law) (hml : cd.maxLocals = 7) (hown : s.vm.findClass RL = some m.cls) (ht : ∀ w ∈ wBIG, w.before #[Value.ref b] s = true) (hN : xN s) (hT9 : xT s.heap.size s) (hE : xE s) (hX : va_X b L xs s s.heap) (hbl : b < s.heap.size) (hL : L ≤ 3584) (hK : va_K D vwCl (tyJ cI cZ cL) s) (hk : 7 * k + 7 ≤ L)
    (kk : ∀ (C : CS) (M : MS) (f : Nat → Int64) (H : Heap) (locs : List Loc) (ls : Array Slot), inv C M (k + 1) → va_P D vwCl (wL a u o cI cZ cL C f M) H → va_D (fun q => s.heap.size ≤ q) (wL a u o cI cZ cL C f M) → va_S (fun q => s.heap.size ≤ q) s.heap H locs → lv_has ls 7 [(0, .ref b), (1, .ref (a 17)), (2, .ref (u 0)), (3, .ref o), (4, .int (nI (7 * k)))] → W p l e room_1 s m #[Value.ref b] below meth cd H locs (34 + (k + 1)) (3399 + 6 * (k + 1)) Q (F0 m 1137 ls []))
    {C : CS} {M : MS} {f : Nat → Int64} {H : Heap} {locs : List Loc} (hi : inv C M k) (hP : va_P D vwCl (wL a u o cI cZ cL C f M) H) (hD : va_D (fun q => s.heap.size ≤ q) (wL a u o cI cZ cL C f M)) (hS : va_S (fun q => s.heap.size ≤ q) s.heap H locs) {ls : Array Slot} (hl : lv_has ls 7 [(0, .ref b), (1, .ref (a 17)), (2, .ref (u 0)), (3, .ref o), (4, .int (nI (7 * k)))]) :
    W p l e room_1 s m #[Value.ref b] below meth cd H locs (34 + k) (3399 + 6 * k) Q (F0 m 294 ls []) := by
  have hK2 := hK.sub (tys' := tyL cI cZ) [0, 1] rfl
  have z := hi.c (by omega)
  refine lv_aload_n hx hb dL_law_294 rfl (lv_at hl 1 rfl) ?_
  refine lv_aload_n hx hb dL_law_295 rfl (lv_at hl 0 rfl) ?_
  refine lv_iload hx hb dL_law_296 (lv_at hl 4 rfl) ?_
  refine lv_iconst (v := nI 1) hx hb dL_law_298 (by decide) ?_
  refine lv_iadd hx hb dL_law_299 ?_
  refine xtop (y := nI (7 * k + 1)) (nI_add _ _) ?_
  refine xs_ld (i := 7 * k + 1) hx hb hX hbl hL hS (by omega) dL_law_300 ?_
  refine lv_aload_n hx hb dL_law_301 rfl (lv_at hl 0 rfl) ?_
  refine lv_iload hx hb dL_law_302 (lv_at hl 4 rfl) ?_
  refine lv_iconst (v := nI 2) hx hb dL_law_304 (by decide) ?_
  refine lv_iadd hx hb dL_law_305 ?_
  refine xtop (y := nI (7 * k + 2)) (nI_add _ _) ?_
  refine xs_ld (i := 7 * k + 2) hx hb hX hbl hL hS (by omega) dL_law_306 ?_
  refine lv_aload_n hx hb dL_law_307 rfl (lv_at hl 3 rfl) ?_
  refine xwL (As := [.ref (a 17), .int (xs (7 * k + 1)), .int (xs (7 * k + 2)), .ref (o)]) (rest := []) (wr := wM u cI cZ M) (ws2 := wL a u o cI cZ cL (nxC ((bCl (kN (cK C)) (xs (7 * k + 1))) || (bBy (xs (7 * k + 2))) || (ovK (cK C) (cT C) (xs (7 * k + 1)))) C (liftC C (xs (7 * k + 1)) (xs (7 * k + 2)))) (nxF ((bCl (kN (cK C)) (xs (7 * k + 1))) || (bBy (xs (7 * k + 2))) || (ovK (cK C) (cT C) (xs (7 * k + 1)))) f (bI (gaveK (cK C) (ix (xs (7 * k + 1))) (xs (7 * k + 2)))).toInt64) M) hx hb hml hown ht hN hT9 hE kW_82 (w_lift l D hl9 s.heap.size a o cI cZ cL C z.1 f (xs (7 * k + 1)) (xs (7 * k + 2))) ⟨Nat.le_of_ble_eq_true rfl, Nat.le_of_ble_eq_true rfl⟩ hP hD hS hK [0, 1, 2, 3, 4, 5, 6, 7, 8, 9, 10, 11, 12, 13, 14, 15, 16, 17, 18] [19, 20, 21, 22, 23, 24, 25, 26, 27, 28, 29, 30, 31, 32, 33] [15, 16, 17, 18, 19, 20, 21, 22, 23, 24, 25, 26, 27, 28, 29, 30, 31, 32, 33, 0, 1, 2, 3, 4, 5, 6, 7, 8, 9, 10, 11, 12, 13, 14] rfl rfl (by decide) (by decide) (by decide) rfl rfl (by decide) rfl hl.1 rfl (Nat.le_of_ble_eq_true rfl) dL_law_308 ⟨(show 34 + k + 1 ≤ 1079 by omega), (show 3399 + 6 * k + 6 ≤ 11717 by omega)⟩ (fun H locs hP hD hS => ?_)
  have g := p_lift (C := C) (M := M) (k := k) (f := f) (i1 := (xs (7 * k + 1))) (v1 := (xs (7 * k + 2))) hi
  refine lv_istore (lv' := [(5, .int (thrM (bCl (kN (cK C)) (xs (7 * k + 1))) (bBy (xs (7 * k + 2))) (ovK (cK C) (cT C) (xs (7 * k + 1))))), (0, .ref (b)), (1, .ref (a 17)), (2, .ref (u 0)), (3, .ref (o)), (4, .int (nI (7 * k)))]) hx hb dL_law_311 hl (by decide) rfl (fun ls hl => ?_)
  refine lv_aload_n hx hb dL_law_313 rfl (lv_at hl 3 rfl) ?_
  refine lv_aload_n hx hb dL_law_314 rfl (lv_at hl 1 rfl) ?_
  refine lv_iload hx hb dL_law_315 (lv_at hl 5 rfl) ?_
  refine lv_iconst (v := nI 1) hx hb dL_law_317 (by decide) ?_
  refine lv_iadd hx hb dL_law_318 ?_
  refine xtop (y := nI (7 * k + 1)) (nI_add _ _) ?_
  refine xs_ld (i := 7 * k + 1) hx hb hX hbl hL hS (by omega) dL_law_319 ?_
  refine lv_aload_n hx hb dL_law_320 rfl (lv_at hl 1 rfl) ?_
  refine lv_iload hx hb dL_law_321 (lv_at hl 5 rfl) ?_
  refine lv_iconst (v := nI 2) hx hb dL_law_323 (by decide) ?_
  refine lv_iadd hx hb dL_law_324 ?_
  refine xtop (y := nI (7 * k + 2)) (nI_add _ _) ?_
  refine xs_ld (i := 7 * k + 2) hx hb hX hbl hL hS (by omega) dL_law_325 ?_
  refine xwV (As := [.int (xs (7 * k + 1)), .int (xs (7 * k + 2))]) (rest := []) (wr := wJ a o cI cZ cL (nxC ((bCl (kN (cK C)) (xs (7 * k + 1))) || (bBy (xs (7 * k + 2))) || (ovK (cK C) (cT C) (xs (7 * k + 1)))) C (liftC C (xs (7 * k + 1)) (xs (7 * k + 2)))) (nxF ((bCl (kN (cK C)) (xs (7 * k + 1))) || (bBy (xs (7 * k + 2))) || (ovK (cK C) (cT C) (xs (7 * k + 1)))) f (bI (gaveK (cK C) (ix (xs (7 * k + 1))) (xs (7 * k + 2)))).toInt64)) (ws2 := wL a u o cI cZ cL (nxC ((bCl (kN (cK C)) (xs (7 * k + 1))) || (bBy (xs (7 * k + 2))) || (ovK (cK C) (cT C) (xs (7 * k + 1)))) C (liftC C (xs (7 * k + 1)) (xs (7 * k + 2)))) (nxF ((bCl (kN (cK C)) (xs (7 * k + 1))) || (bBy (xs (7 * k + 2))) || (ovK (cK C) (cT C) (xs (7 * k + 1)))) f (bI (gaveK (cK C) (ix (xs (7 * k + 1))) (xs (7 * k + 2)))).toInt64) (liftMs M (xs (7 * k + 1)) (xs (7 * k + 2)))) hx hb hml hown ht hN kV_L_85 (r_X4_lift l D u cI cZ M z.2.2.1 z.2.2.2.1 z.2.2.2.2.1 (xs (7 * k + 1)) (xs (7 * k + 2))) ⟨Nat.le_of_ble_eq_true rfl, Nat.le_of_ble_eq_true rfl⟩ hP hD hS hK2 [19, 20, 21, 22, 23, 24, 25, 26, 27, 28, 29, 30, 31, 32, 33] [0, 1, 2, 3, 4, 5, 6, 7, 8, 9, 10, 11, 12, 13, 14, 15, 16, 17, 18] [0, 1, 2, 3, 4, 5, 6, 7, 8, 9, 10, 11, 12, 13, 14, 15, 16, 17, 18, 19, 20, 21, 22, 23, 24, 25, 26, 27, 28, 29, 30, 31, 32, 33] rfl rfl (by decide) (by decide) (by decide) rfl rfl (by decide) rfl rfl rfl rfl hl.1 rfl (Nat.le_of_ble_eq_true rfl) dL_law_326 ⟨(show 34 + k + 1 ≤ 1079 by omega), (show 3399 + 6 * k + 6 ≤ 11717 by omega)⟩ (fun H locs hP hD hS => ?_)
  refine lv_istore (lv' := [(6, .int (liftMr M (xs (7 * k + 1)) (xs (7 * k + 2)))), (5, .int (thrM (bCl (kN (cK C)) (xs (7 * k + 1))) (bBy (xs (7 * k + 2))) (ovK (cK C) (cT C) (xs (7 * k + 1))))), (0, .ref (b)), (1, .ref (a 17)), (2, .ref (u 0)), (3, .ref (o)), (4, .int (nI (7 * k)))]) hx hb dL_law_329 hl (by decide) rfl (fun ls hl => ?_)
  refine lv_aload_n hx hb dL_law_331 rfl (lv_at hl 4 rfl) ?_
  refine xrV (As := []) (rest := []) hx hb hml hown ht hN kV_L_74 (r_X4_thrown l D u cI cZ (liftMs M (xs (7 * k + 1)) (xs (7 * k + 2)))) ⟨Nat.le_of_ble_eq_true rfl, Nat.le_of_ble_eq_true rfl⟩ (xP_sub (isC := [19, 20, 21, 22, 23, 24, 25, 26, 27, 28, 29, 30, 31, 32, 33]) hP rfl) hK2 rfl rfl rfl rfl hl.1 rfl (Nat.le_of_ble_eq_true rfl) dL_law_332 ⟨(show 34 + k + 1 ≤ 1079 by omega), (show 3399 + 6 * k + 6 ≤ 11717 by omega)⟩ ?_
  refine lv_iload hx hb dL_law_335 (lv_at hl 1 rfl) ?_
  refine lv_icmp_eq (tgt := 342) hx hb dL_law_337 (by decide) (fun _ => ?_) (fun h9 => absurd g.2.1 h9)
  refine lv_iload hx hb dL_law_342 (lv_at hl 1 rfl) ?_
  refine lv_if_ne (tgt := 366) hx hb dL_law_344 (by decide) (fun _ => ?_) (fun hz => ?_)
  · skip
    refine lv_goto (tgt := 1137) hx hb dL_law_366 (by decide) ?_
    exact W.widen (k := 34 + (k + 1)) (n := 3399 + 6 * (k + 1)) (by omega) (by omega) (kk _ _ _ _ _ _ g.1 hP hD hS (lv_sub hl [2, 3, 4, 5, 6] rfl))
  · have g2 := g.2.2 hz
    refine lv_aload_n hx hb dL_law_347 rfl (lv_at hl 5 rfl) ?_
    refine lv_iconst (v := nI 0) hx hb dL_law_348 (by decide) ?_
    refine xl_lald hx hb hK hP 18 2 rfl rfl dL_law_349 ?_
    refine lv_iload hx hb dL_law_350 (lv_at hl 0 rfl) ?_
    refine lv_if_eq (tgt := 359) hx hb dL_law_352 (by decide) (fun hy => ?_) (fun hy => ?_)
    · rw [hy] at g2
      refine lv_lconst (v := 0) hx hb dL_law_359 (by decide) ?_
      refine xl_lcmp hx hb (g2.trans (by first | rfl | decide)) dL_law_360 ?_
      refine lv_if_eq (tgt := 366) hx hb dL_law_361 (by decide) (fun _ => ?_) (fun h9 => absurd rfl h9)
      refine lv_goto (tgt := 1137) hx hb dL_law_366 (by decide) ?_
      exact W.widen (k := 34 + (k + 1)) (n := 3399 + 6 * (k + 1)) (by omega) (by omega) (kk _ _ _ _ _ _ g.1 hP hD hS (lv_sub hl [2, 3, 4, 5, 6] rfl))
    · rw [lift01.resolve_left hy] at g2
      refine lv_lconst (v := 1) hx hb dL_law_355 (by decide) ?_
      refine lv_goto (tgt := 360) hx hb dL_law_356 (by decide) ?_
      refine xl_lcmp hx hb (g2.trans (by first | rfl | decide)) dL_law_360 ?_
      refine lv_if_eq (tgt := 366) hx hb dL_law_361 (by decide) (fun _ => ?_) (fun h9 => absurd rfl h9)
      refine lv_goto (tgt := 1137) hx hb dL_law_366 (by decide) ?_
      exact W.widen (k := 34 + (k + 1)) (n := 3399 + 6 * (k + 1)) (by omega) (by omega) (kk _ _ _ _ _ _ g.1 hP hD hS (lv_sub hl [2, 3, 4, 5, 6] rfl))
set_option maxHeartbeats 8000000 in
set_option maxRecDepth 100000 in
theorem la_incident (l : Launch) {p : Program} {e : Env} {s : State} {m : MethodId} {below : List Frame} {meth : Method} {cd : Code} {D : va_G} {cI cZ cL : ClassId} {a u : Nat → Nat} {o b L k : Nat} {xs : Nat → Int32} {Q : State → Prop} (hl9 : l.stackTraces = false) (hx : p.tables.exec = Jvm.exec) (hb : cd.code = cL_law) (hml : cd.maxLocals = 7) (hown : s.vm.findClass RL = some m.cls) (ht : ∀ w ∈ wBIG, w.before #[Value.ref b] s = true) (hN : xN s) (hT9 : xT s.heap.size s) (hE : xE s) (hX : va_X b L xs s s.heap) (hbl : b < s.heap.size) (hL : L ≤ 3584) (hK : va_K D vwCl (tyJ cI cZ cL) s) (hk : 7 * k + 7 ≤ L)
    (kk : ∀ (C : CS) (M : MS) (f : Nat → Int64) (H : Heap) (locs : List Loc) (ls : Array Slot), inv C M (k + 1) → va_P D vwCl (wL a u o cI cZ cL C f M) H → va_D (fun q => s.heap.size ≤ q) (wL a u o cI cZ cL C f M) → va_S (fun q => s.heap.size ≤ q) s.heap H locs → lv_has ls 7 [(0, .ref b), (1, .ref (a 17)), (2, .ref (u 0)), (3, .ref o), (4, .int (nI (7 * k)))] → W p l e room_1 s m #[Value.ref b] below meth cd H locs (34 + (k + 1)) (3399 + 6 * (k + 1)) Q (F0 m 1137 ls []))
    {C : CS} {M : MS} {f : Nat → Int64} {H : Heap} {locs : List Loc} (hi : inv C M k) (hP : va_P D vwCl (wL a u o cI cZ cL C f M) H) (hD : va_D (fun q => s.heap.size ≤ q) (wL a u o cI cZ cL C f M)) (hS : va_S (fun q => s.heap.size ≤ q) s.heap H locs) {ls : Array Slot} (hl : lv_has ls 7 [(0, .ref b), (1, .ref (a 17)), (2, .ref (u 0)), (3, .ref o), (4, .int (nI (7 * k)))]) :
    W p l e room_1 s m #[Value.ref b] below meth cd H locs (34 + k) (3399 + 6 * k) Q (F0 m 369 ls []) := by
  have hK2 := hK.sub (tys' := tyL cI cZ) [0, 1] rfl
  have z := hi.c (by omega)
  refine lv_aload_n hx hb dL_law_369 rfl (lv_at hl 1 rfl) ?_
  refine lv_aload_n hx hb dL_law_370 rfl (lv_at hl 0 rfl) ?_
  refine lv_iload hx hb dL_law_371 (lv_at hl 4 rfl) ?_
  refine lv_iconst (v := nI 1) hx hb dL_law_373 (by decide) ?_
  refine lv_iadd hx hb dL_law_374 ?_
  refine xtop (y := nI (7 * k + 1)) (nI_add _ _) ?_
  refine xs_ld (i := 7 * k + 1) hx hb hX hbl hL hS (by omega) dL_law_375 ?_
  refine lv_aload_n hx hb dL_law_376 rfl (lv_at hl 0 rfl) ?_
  refine lv_iload hx hb dL_law_377 (lv_at hl 4 rfl) ?_
  refine lv_iconst (v := nI 2) hx hb dL_law_379 (by decide) ?_
  refine lv_iadd hx hb dL_law_380 ?_
  refine xtop (y := nI (7 * k + 2)) (nI_add _ _) ?_
  refine xs_ld (i := 7 * k + 2) hx hb hX hbl hL hS (by omega) dL_law_381 ?_
  refine lv_if_eq (tgt := 389) hx hb dL_law_382 (by decide) (fun hz => ?_) (fun hz => ?_)
  · skip
    refine lv_iconst (v := bI (!decide (xs (7 * k + 2) = 0))) hx hb dL_law_389 (by rw [bI_dn hz]; decide) ?_
    refine xwL (As := [.ref (a 17), .int (xs (7 * k + 1)), .int (bI (!decide (xs (7 * k + 2) = 0)))]) (rest := []) (wr := wM u cI cZ M) (ws2 := wL a u o cI cZ cL (nxC ((bIn (xs (7 * k + 1))) || false || false) C (incC C (xs (7 * k + 1)) (!decide (xs (7 * k + 2) = 0)))) f M) hx hb hml hown ht hN hT9 hE kW_86 (w_incident l D hl9 s.heap.size a o cI cZ cL C z.1 f (xs (7 * k + 1)) (!decide (xs (7 * k + 2) = 0))) ⟨Nat.le_of_ble_eq_true rfl, Nat.le_of_ble_eq_true rfl⟩ hP hD hS hK [0, 1, 2, 3, 4, 5, 6, 7, 8, 9, 10, 11, 12, 13, 14, 15, 16, 17, 18] [19, 20, 21, 22, 23, 24, 25, 26, 27, 28, 29, 30, 31, 32, 33] [15, 16, 17, 18, 19, 20, 21, 22, 23, 24, 25, 26, 27, 28, 29, 30, 31, 32, 33, 0, 1, 2, 3, 4, 5, 6, 7, 8, 9, 10, 11, 12, 13, 14] rfl rfl (by decide) (by decide) (by decide) rfl rfl (by decide) rfl hl.1 rfl (Nat.le_of_ble_eq_true rfl) dL_law_390 ⟨(show 34 + k + 1 ≤ 1079 by omega), (show 3399 + 6 * k + 6 ≤ 11717 by omega)⟩ (fun H locs hP hD hS => ?_)
    have g := p_incident (C := C) (M := M) (k := k) (i1 := (xs (7 * k + 1))) (b1 := (!decide (xs (7 * k + 2) = 0))) hi
    refine lv_istore (lv' := [(5, .int (thrM (bIn (xs (7 * k + 1))) (false) (false))), (0, .ref (b)), (1, .ref (a 17)), (2, .ref (u 0)), (3, .ref (o)), (4, .int (nI (7 * k)))]) hx hb dL_law_393 hl (by decide) rfl (fun ls hl => ?_)
    refine lv_aload_n hx hb dL_law_395 rfl (lv_at hl 3 rfl) ?_
    refine lv_aload_n hx hb dL_law_396 rfl (lv_at hl 1 rfl) ?_
    refine lv_iload hx hb dL_law_397 (lv_at hl 5 rfl) ?_
    refine lv_iconst (v := nI 1) hx hb dL_law_399 (by decide) ?_
    refine lv_iadd hx hb dL_law_400 ?_
    refine xtop (y := nI (7 * k + 1)) (nI_add _ _) ?_
    refine xs_ld (i := 7 * k + 1) hx hb hX hbl hL hS (by omega) dL_law_401 ?_
    refine lv_aload_n hx hb dL_law_402 rfl (lv_at hl 1 rfl) ?_
    refine lv_iload hx hb dL_law_403 (lv_at hl 5 rfl) ?_
    refine lv_iconst (v := nI 2) hx hb dL_law_405 (by decide) ?_
    refine lv_iadd hx hb dL_law_406 ?_
    refine xtop (y := nI (7 * k + 2)) (nI_add _ _) ?_
    refine xs_ld (i := 7 * k + 2) hx hb hX hbl hL hS (by omega) dL_law_407 ?_
    refine lv_if_eq (tgt := 415) hx hb dL_law_408 (by decide) (fun _ => ?_) (fun h9 => absurd hz h9)
    refine lv_iconst (v := bI (!decide (xs (7 * k + 2) = 0))) hx hb dL_law_415 (by rw [bI_dn hz]; decide) ?_
    refine xwV (As := [.int (xs (7 * k + 1)), .int (bI (!decide (xs (7 * k + 2) = 0)))]) (rest := []) (wr := wJ a o cI cZ cL (nxC ((bIn (xs (7 * k + 1))) || false || false) C (incC C (xs (7 * k + 1)) (!decide (xs (7 * k + 2) = 0)))) f) (ws2 := wL a u o cI cZ cL (nxC ((bIn (xs (7 * k + 1))) || false || false) C (incC C (xs (7 * k + 1)) (!decide (xs (7 * k + 2) = 0)))) f (incMs M (xs (7 * k + 1)) (!decide (xs (7 * k + 2) = 0)))) hx hb hml hown ht hN kV_L_88 (r_X4_incident l D u cI cZ M z.2.2.1 z.2.2.2.1 z.2.2.2.2.1 (xs (7 * k + 1)) (!decide (xs (7 * k + 2) = 0))) ⟨Nat.le_of_ble_eq_true rfl, Nat.le_of_ble_eq_true rfl⟩ hP hD hS hK2 [19, 20, 21, 22, 23, 24, 25, 26, 27, 28, 29, 30, 31, 32, 33] [0, 1, 2, 3, 4, 5, 6, 7, 8, 9, 10, 11, 12, 13, 14, 15, 16, 17, 18] [0, 1, 2, 3, 4, 5, 6, 7, 8, 9, 10, 11, 12, 13, 14, 15, 16, 17, 18, 19, 20, 21, 22, 23, 24, 25, 26, 27, 28, 29, 30, 31, 32, 33] rfl rfl (by decide) (by decide) (by decide) rfl rfl (by decide) rfl rfl rfl rfl hl.1 rfl (Nat.le_of_ble_eq_true rfl) dL_law_416 ⟨(show 34 + k + 1 ≤ 1079 by omega), (show 3399 + 6 * k + 6 ≤ 11717 by omega)⟩ (fun H locs hP hD hS => ?_)
    refine lv_aload_n hx hb dL_law_419 rfl (lv_at hl 3 rfl) ?_
    refine xrV (As := []) (rest := []) hx hb hml hown ht hN kV_L_74 (r_X4_thrown l D u cI cZ (incMs M (xs (7 * k + 1)) (!decide (xs (7 * k + 2) = 0)))) ⟨Nat.le_of_ble_eq_true rfl, Nat.le_of_ble_eq_true rfl⟩ (xP_sub (isC := [19, 20, 21, 22, 23, 24, 25, 26, 27, 28, 29, 30, 31, 32, 33]) hP rfl) hK2 rfl rfl rfl rfl hl.1 rfl (Nat.le_of_ble_eq_true rfl) dL_law_420 ⟨(show 34 + k + 1 ≤ 1079 by omega), (show 3399 + 6 * k + 6 ≤ 11717 by omega)⟩ ?_
    refine lv_iload hx hb dL_law_423 (lv_at hl 0 rfl) ?_
    refine lv_icmp_eq (tgt := 430) hx hb dL_law_425 (by decide) (fun _ => ?_) (fun h9 => absurd g.2 h9)
    refine lv_goto (tgt := 1137) hx hb dL_law_430 (by decide) ?_
    exact W.widen (k := 34 + (k + 1)) (n := 3399 + 6 * (k + 1)) (by omega) (by omega) (kk _ _ _ _ _ _ g.1 hP hD hS (lv_sub hl [1, 2, 3, 4, 5] rfl))
  · skip
    refine lv_iconst (v := bI (!decide (xs (7 * k + 2) = 0))) hx hb dL_law_385 (by rw [bI_dt hz]; decide) ?_
    refine lv_goto (tgt := 390) hx hb dL_law_386 (by decide) ?_
    refine xwL (As := [.ref (a 17), .int (xs (7 * k + 1)), .int (bI (!decide (xs (7 * k + 2) = 0)))]) (rest := []) (wr := wM u cI cZ M) (ws2 := wL a u o cI cZ cL (nxC ((bIn (xs (7 * k + 1))) || false || false) C (incC C (xs (7 * k + 1)) (!decide (xs (7 * k + 2) = 0)))) f M) hx hb hml hown ht hN hT9 hE kW_86 (w_incident l D hl9 s.heap.size a o cI cZ cL C z.1 f (xs (7 * k + 1)) (!decide (xs (7 * k + 2) = 0))) ⟨Nat.le_of_ble_eq_true rfl, Nat.le_of_ble_eq_true rfl⟩ hP hD hS hK [0, 1, 2, 3, 4, 5, 6, 7, 8, 9, 10, 11, 12, 13, 14, 15, 16, 17, 18] [19, 20, 21, 22, 23, 24, 25, 26, 27, 28, 29, 30, 31, 32, 33] [15, 16, 17, 18, 19, 20, 21, 22, 23, 24, 25, 26, 27, 28, 29, 30, 31, 32, 33, 0, 1, 2, 3, 4, 5, 6, 7, 8, 9, 10, 11, 12, 13, 14] rfl rfl (by decide) (by decide) (by decide) rfl rfl (by decide) rfl hl.1 rfl (Nat.le_of_ble_eq_true rfl) dL_law_390 ⟨(show 34 + k + 1 ≤ 1079 by omega), (show 3399 + 6 * k + 6 ≤ 11717 by omega)⟩ (fun H locs hP hD hS => ?_)
    have g := p_incident (C := C) (M := M) (k := k) (i1 := (xs (7 * k + 1))) (b1 := (!decide (xs (7 * k + 2) = 0))) hi
    refine lv_istore (lv' := [(5, .int (thrM (bIn (xs (7 * k + 1))) (false) (false))), (0, .ref (b)), (1, .ref (a 17)), (2, .ref (u 0)), (3, .ref (o)), (4, .int (nI (7 * k)))]) hx hb dL_law_393 hl (by decide) rfl (fun ls hl => ?_)
    refine lv_aload_n hx hb dL_law_395 rfl (lv_at hl 3 rfl) ?_
    refine lv_aload_n hx hb dL_law_396 rfl (lv_at hl 1 rfl) ?_
    refine lv_iload hx hb dL_law_397 (lv_at hl 5 rfl) ?_
    refine lv_iconst (v := nI 1) hx hb dL_law_399 (by decide) ?_
    refine lv_iadd hx hb dL_law_400 ?_
    refine xtop (y := nI (7 * k + 1)) (nI_add _ _) ?_
    refine xs_ld (i := 7 * k + 1) hx hb hX hbl hL hS (by omega) dL_law_401 ?_
    refine lv_aload_n hx hb dL_law_402 rfl (lv_at hl 1 rfl) ?_
    refine lv_iload hx hb dL_law_403 (lv_at hl 5 rfl) ?_
    refine lv_iconst (v := nI 2) hx hb dL_law_405 (by decide) ?_
    refine lv_iadd hx hb dL_law_406 ?_
    refine xtop (y := nI (7 * k + 2)) (nI_add _ _) ?_
    refine xs_ld (i := 7 * k + 2) hx hb hX hbl hL hS (by omega) dL_law_407 ?_
    refine lv_if_eq (tgt := 415) hx hb dL_law_408 (by decide) (fun h9 => absurd h9 hz) (fun _ => ?_)
    refine lv_iconst (v := bI (!decide (xs (7 * k + 2) = 0))) hx hb dL_law_411 (by rw [bI_dt hz]; decide) ?_
    refine lv_goto (tgt := 416) hx hb dL_law_412 (by decide) ?_
    refine xwV (As := [.int (xs (7 * k + 1)), .int (bI (!decide (xs (7 * k + 2) = 0)))]) (rest := []) (wr := wJ a o cI cZ cL (nxC ((bIn (xs (7 * k + 1))) || false || false) C (incC C (xs (7 * k + 1)) (!decide (xs (7 * k + 2) = 0)))) f) (ws2 := wL a u o cI cZ cL (nxC ((bIn (xs (7 * k + 1))) || false || false) C (incC C (xs (7 * k + 1)) (!decide (xs (7 * k + 2) = 0)))) f (incMs M (xs (7 * k + 1)) (!decide (xs (7 * k + 2) = 0)))) hx hb hml hown ht hN kV_L_88 (r_X4_incident l D u cI cZ M z.2.2.1 z.2.2.2.1 z.2.2.2.2.1 (xs (7 * k + 1)) (!decide (xs (7 * k + 2) = 0))) ⟨Nat.le_of_ble_eq_true rfl, Nat.le_of_ble_eq_true rfl⟩ hP hD hS hK2 [19, 20, 21, 22, 23, 24, 25, 26, 27, 28, 29, 30, 31, 32, 33] [0, 1, 2, 3, 4, 5, 6, 7, 8, 9, 10, 11, 12, 13, 14, 15, 16, 17, 18] [0, 1, 2, 3, 4, 5, 6, 7, 8, 9, 10, 11, 12, 13, 14, 15, 16, 17, 18, 19, 20, 21, 22, 23, 24, 25, 26, 27, 28, 29, 30, 31, 32, 33] rfl rfl (by decide) (by decide) (by decide) rfl rfl (by decide) rfl rfl rfl rfl hl.1 rfl (Nat.le_of_ble_eq_true rfl) dL_law_416 ⟨(show 34 + k + 1 ≤ 1079 by omega), (show 3399 + 6 * k + 6 ≤ 11717 by omega)⟩ (fun H locs hP hD hS => ?_)
    refine lv_aload_n hx hb dL_law_419 rfl (lv_at hl 3 rfl) ?_
    refine xrV (As := []) (rest := []) hx hb hml hown ht hN kV_L_74 (r_X4_thrown l D u cI cZ (incMs M (xs (7 * k + 1)) (!decide (xs (7 * k + 2) = 0)))) ⟨Nat.le_of_ble_eq_true rfl, Nat.le_of_ble_eq_true rfl⟩ (xP_sub (isC := [19, 20, 21, 22, 23, 24, 25, 26, 27, 28, 29, 30, 31, 32, 33]) hP rfl) hK2 rfl rfl rfl rfl hl.1 rfl (Nat.le_of_ble_eq_true rfl) dL_law_420 ⟨(show 34 + k + 1 ≤ 1079 by omega), (show 3399 + 6 * k + 6 ≤ 11717 by omega)⟩ ?_
    refine lv_iload hx hb dL_law_423 (lv_at hl 0 rfl) ?_
    refine lv_icmp_eq (tgt := 430) hx hb dL_law_425 (by decide) (fun _ => ?_) (fun h9 => absurd g.2 h9)
    refine lv_goto (tgt := 1137) hx hb dL_law_430 (by decide) ?_
    exact W.widen (k := 34 + (k + 1)) (n := 3399 + 6 * (k + 1)) (by omega) (by omega) (kk _ _ _ _ _ _ g.1 hP hD hS (lv_sub hl [1, 2, 3, 4, 5] rfl))
set_option maxHeartbeats 8000000 in
set_option maxRecDepth 100000 in
theorem la_step (l : Launch) {p : Program} {e : Env} {s : State} {m : MethodId} {below : List Frame} {meth : Method} {cd : Code} {D : va_G} {cI cZ cL : ClassId} {a u : Nat → Nat} {o b L k : Nat} {xs : Nat → Int32} {Q : State → Prop} (hl9 : l.stackTraces = false) (hx : p.tables.exec = Jvm.exec) (hb : cd.code = cL_law) (hml : cd.maxLocals = 7) (hown : s.vm.findClass RL = some m.cls) (ht : ∀ w ∈ wBIG, w.before #[Value.ref b] s = true) (hN : xN s) (hT9 : xT s.heap.size s) (hE : xE s) (hX : va_X b L xs s s.heap) (hbl : b < s.heap.size) (hL : L ≤ 3584) (hK : va_K D vwCl (tyJ cI cZ cL) s) (hk : 7 * k + 7 ≤ L)
    (kk : ∀ (C : CS) (M : MS) (f : Nat → Int64) (H : Heap) (locs : List Loc) (ls : Array Slot), inv C M (k + 1) → va_P D vwCl (wL a u o cI cZ cL C f M) H → va_D (fun q => s.heap.size ≤ q) (wL a u o cI cZ cL C f M) → va_S (fun q => s.heap.size ≤ q) s.heap H locs → lv_has ls 7 [(0, .ref b), (1, .ref (a 17)), (2, .ref (u 0)), (3, .ref o), (4, .int (nI (7 * k)))] → W p l e room_1 s m #[Value.ref b] below meth cd H locs (34 + (k + 1)) (3399 + 6 * (k + 1)) Q (F0 m 1137 ls []))
    {C : CS} {M : MS} {f : Nat → Int64} {H : Heap} {locs : List Loc} (hi : inv C M k) (hP : va_P D vwCl (wL a u o cI cZ cL C f M) H) (hD : va_D (fun q => s.heap.size ≤ q) (wL a u o cI cZ cL C f M)) (hS : va_S (fun q => s.heap.size ≤ q) s.heap H locs) {ls : Array Slot} (hl : lv_has ls 7 [(0, .ref b), (1, .ref (a 17)), (2, .ref (u 0)), (3, .ref o), (4, .int (nI (7 * k)))]) :
    W p l e room_1 s m #[Value.ref b] below meth cd H locs (34 + k) (3399 + 6 * k) Q (F0 m 433 ls []) := by
  have hK2 := hK.sub (tys' := tyL cI cZ) [0, 1] rfl
  have z := hi.c (by omega)
  refine lv_aload_n hx hb dL_law_433 rfl (lv_at hl 1 rfl) ?_
  refine lv_aload_n hx hb dL_law_434 rfl (lv_at hl 0 rfl) ?_
  refine lv_iload hx hb dL_law_435 (lv_at hl 4 rfl) ?_
  refine lv_iconst (v := nI 1) hx hb dL_law_437 (by decide) ?_
  refine lv_iadd hx hb dL_law_438 ?_
  refine xtop (y := nI (7 * k + 1)) (nI_add _ _) ?_
  refine xs_ld (i := 7 * k + 1) hx hb hX hbl hL hS (by omega) dL_law_439 ?_
  refine lv_aload_n hx hb dL_law_440 rfl (lv_at hl 0 rfl) ?_
  refine lv_iload hx hb dL_law_441 (lv_at hl 4 rfl) ?_
  refine lv_iconst (v := nI 2) hx hb dL_law_443 (by decide) ?_
  refine lv_iadd hx hb dL_law_444 ?_
  refine xtop (y := nI (7 * k + 2)) (nI_add _ _) ?_
  refine xs_ld (i := 7 * k + 2) hx hb hX hbl hL hS (by omega) dL_law_445 ?_
  refine lv_aload_n hx hb dL_law_446 rfl (lv_at hl 0 rfl) ?_
  refine lv_iload hx hb dL_law_447 (lv_at hl 4 rfl) ?_
  refine lv_iconst (v := nI 3) hx hb dL_law_449 (by decide) ?_
  refine lv_iadd hx hb dL_law_450 ?_
  refine xtop (y := nI (7 * k + 3)) (nI_add _ _) ?_
  refine xs_ld (i := 7 * k + 3) hx hb hX hbl hL hS (by omega) dL_law_451 ?_
  refine lv_aload_n hx hb dL_law_452 rfl (lv_at hl 3 rfl) ?_
  refine xwL (As := [.ref (a 17), .int (xs (7 * k + 1)), .int (xs (7 * k + 2)), .int (xs (7 * k + 3)), .ref (o)]) (rest := []) (wr := wM u cI cZ M) (ws2 := wL a u o cI cZ cL (nxC ((bUp (xs (7 * k + 1)) (xs (7 * k + 2))) || (bSd (xs (7 * k + 2)) (xs (7 * k + 3))) || (fuR (cR C) (xs (7 * k + 1)) (xs (7 * k + 2)))) C (stepC C (xs (7 * k + 1)) (xs (7 * k + 2)) (xs (7 * k + 3)))) (nxF ((bUp (xs (7 * k + 1)) (xs (7 * k + 2))) || (bSd (xs (7 * k + 2)) (xs (7 * k + 3))) || (fuR (cR C) (xs (7 * k + 1)) (xs (7 * k + 2)))) f (stepCr C (xs (7 * k + 1)) (xs (7 * k + 2))).toInt64) M) hx hb hml hown ht hN hT9 hE kW_89 (w_step l D hl9 s.heap.size a o cI cZ cL C z.1 f (xs (7 * k + 1)) (xs (7 * k + 2)) (xs (7 * k + 3))) ⟨Nat.le_of_ble_eq_true rfl, Nat.le_of_ble_eq_true rfl⟩ hP hD hS hK [0, 1, 2, 3, 4, 5, 6, 7, 8, 9, 10, 11, 12, 13, 14, 15, 16, 17, 18] [19, 20, 21, 22, 23, 24, 25, 26, 27, 28, 29, 30, 31, 32, 33] [15, 16, 17, 18, 19, 20, 21, 22, 23, 24, 25, 26, 27, 28, 29, 30, 31, 32, 33, 0, 1, 2, 3, 4, 5, 6, 7, 8, 9, 10, 11, 12, 13, 14] rfl rfl (by decide) (by decide) (by decide) rfl rfl (by decide) rfl hl.1 rfl (Nat.le_of_ble_eq_true rfl) dL_law_453 ⟨(show 34 + k + 1 ≤ 1079 by omega), (show 3399 + 6 * k + 6 ≤ 11717 by omega)⟩ (fun H locs hP hD hS => ?_)
  have g := p_step (C := C) (M := M) (k := k) (f := f) (u1 := (xs (7 * k + 1))) (p1 := (xs (7 * k + 2))) (s1 := (xs (7 * k + 3))) hi
  refine lv_istore (lv' := [(5, .int (thrM (bUp (xs (7 * k + 1)) (xs (7 * k + 2))) (bSd (xs (7 * k + 2)) (xs (7 * k + 3))) (fuR (cR C) (xs (7 * k + 1)) (xs (7 * k + 2))))), (0, .ref (b)), (1, .ref (a 17)), (2, .ref (u 0)), (3, .ref (o)), (4, .int (nI (7 * k)))]) hx hb dL_law_456 hl (by decide) rfl (fun ls hl => ?_)
  refine lv_aload_n hx hb dL_law_458 rfl (lv_at hl 3 rfl) ?_
  refine lv_aload_n hx hb dL_law_459 rfl (lv_at hl 1 rfl) ?_
  refine lv_iload hx hb dL_law_460 (lv_at hl 5 rfl) ?_
  refine lv_iconst (v := nI 1) hx hb dL_law_462 (by decide) ?_
  refine lv_iadd hx hb dL_law_463 ?_
  refine xtop (y := nI (7 * k + 1)) (nI_add _ _) ?_
  refine xs_ld (i := 7 * k + 1) hx hb hX hbl hL hS (by omega) dL_law_464 ?_
  refine lv_aload_n hx hb dL_law_465 rfl (lv_at hl 1 rfl) ?_
  refine lv_iload hx hb dL_law_466 (lv_at hl 5 rfl) ?_
  refine lv_iconst (v := nI 2) hx hb dL_law_468 (by decide) ?_
  refine lv_iadd hx hb dL_law_469 ?_
  refine xtop (y := nI (7 * k + 2)) (nI_add _ _) ?_
  refine xs_ld (i := 7 * k + 2) hx hb hX hbl hL hS (by omega) dL_law_470 ?_
  refine lv_aload_n hx hb dL_law_471 rfl (lv_at hl 1 rfl) ?_
  refine lv_iload hx hb dL_law_472 (lv_at hl 5 rfl) ?_
  refine lv_iconst (v := nI 3) hx hb dL_law_474 (by decide) ?_
  refine lv_iadd hx hb dL_law_475 ?_
  refine xtop (y := nI (7 * k + 3)) (nI_add _ _) ?_
  refine xs_ld (i := 7 * k + 3) hx hb hX hbl hL hS (by omega) dL_law_476 ?_
  refine xwV (As := [.int (xs (7 * k + 1)), .int (xs (7 * k + 2)), .int (xs (7 * k + 3))]) (rest := []) (wr := wJ a o cI cZ cL (nxC ((bUp (xs (7 * k + 1)) (xs (7 * k + 2))) || (bSd (xs (7 * k + 2)) (xs (7 * k + 3))) || (fuR (cR C) (xs (7 * k + 1)) (xs (7 * k + 2)))) C (stepC C (xs (7 * k + 1)) (xs (7 * k + 2)) (xs (7 * k + 3)))) (nxF ((bUp (xs (7 * k + 1)) (xs (7 * k + 2))) || (bSd (xs (7 * k + 2)) (xs (7 * k + 3))) || (fuR (cR C) (xs (7 * k + 1)) (xs (7 * k + 2)))) f (stepCr C (xs (7 * k + 1)) (xs (7 * k + 2))).toInt64)) (ws2 := wL a u o cI cZ cL (nxC ((bUp (xs (7 * k + 1)) (xs (7 * k + 2))) || (bSd (xs (7 * k + 2)) (xs (7 * k + 3))) || (fuR (cR C) (xs (7 * k + 1)) (xs (7 * k + 2)))) C (stepC C (xs (7 * k + 1)) (xs (7 * k + 2)) (xs (7 * k + 3)))) (nxF ((bUp (xs (7 * k + 1)) (xs (7 * k + 2))) || (bSd (xs (7 * k + 2)) (xs (7 * k + 3))) || (fuR (cR C) (xs (7 * k + 1)) (xs (7 * k + 2)))) f (stepCr C (xs (7 * k + 1)) (xs (7 * k + 2))).toInt64) (stepMs M (xs (7 * k + 1)) (xs (7 * k + 2)) (xs (7 * k + 3)))) hx hb hml hown ht hN kV_L_92 (r_X4_step l D u cI cZ M z.2.2.1 z.2.2.2.1 z.2.2.2.2.1 (xs (7 * k + 1)) (xs (7 * k + 2)) (xs (7 * k + 3))) ⟨Nat.le_of_ble_eq_true rfl, Nat.le_of_ble_eq_true rfl⟩ hP hD hS hK2 [19, 20, 21, 22, 23, 24, 25, 26, 27, 28, 29, 30, 31, 32, 33] [0, 1, 2, 3, 4, 5, 6, 7, 8, 9, 10, 11, 12, 13, 14, 15, 16, 17, 18] [0, 1, 2, 3, 4, 5, 6, 7, 8, 9, 10, 11, 12, 13, 14, 15, 16, 17, 18, 19, 20, 21, 22, 23, 24, 25, 26, 27, 28, 29, 30, 31, 32, 33] rfl rfl (by decide) (by decide) (by decide) rfl rfl (by decide) rfl rfl rfl rfl hl.1 rfl (Nat.le_of_ble_eq_true rfl) dL_law_477 ⟨(show 34 + k + 1 ≤ 1079 by omega), (show 3399 + 6 * k + 6 ≤ 11717 by omega)⟩ (fun H locs hP hD hS => ?_)
  refine lv_istore (lv' := [(6, .int (stepMr M (xs (7 * k + 1)) (xs (7 * k + 2)) (xs (7 * k + 3)))), (5, .int (thrM (bUp (xs (7 * k + 1)) (xs (7 * k + 2))) (bSd (xs (7 * k + 2)) (xs (7 * k + 3))) (fuR (cR C) (xs (7 * k + 1)) (xs (7 * k + 2))))), (0, .ref (b)), (1, .ref (a 17)), (2, .ref (u 0)), (3, .ref (o)), (4, .int (nI (7 * k)))]) hx hb dL_law_480 hl (by decide) rfl (fun ls hl => ?_)
  refine lv_aload_n hx hb dL_law_482 rfl (lv_at hl 4 rfl) ?_
  refine xrV (As := []) (rest := []) hx hb hml hown ht hN kV_L_74 (r_X4_thrown l D u cI cZ (stepMs M (xs (7 * k + 1)) (xs (7 * k + 2)) (xs (7 * k + 3)))) ⟨Nat.le_of_ble_eq_true rfl, Nat.le_of_ble_eq_true rfl⟩ (xP_sub (isC := [19, 20, 21, 22, 23, 24, 25, 26, 27, 28, 29, 30, 31, 32, 33]) hP rfl) hK2 rfl rfl rfl rfl hl.1 rfl (Nat.le_of_ble_eq_true rfl) dL_law_483 ⟨(show 34 + k + 1 ≤ 1079 by omega), (show 3399 + 6 * k + 6 ≤ 11717 by omega)⟩ ?_
  refine lv_iload hx hb dL_law_486 (lv_at hl 1 rfl) ?_
  refine lv_icmp_eq (tgt := 493) hx hb dL_law_488 (by decide) (fun _ => ?_) (fun h9 => absurd g.2.1 h9)
  refine lv_iload hx hb dL_law_493 (lv_at hl 1 rfl) ?_
  refine lv_if_ne (tgt := 510) hx hb dL_law_495 (by decide) (fun _ => ?_) (fun hz => ?_)
  · skip
    refine lv_goto (tgt := 1137) hx hb dL_law_510 (by decide) ?_
    exact W.widen (k := 34 + (k + 1)) (n := 3399 + 6 * (k + 1)) (by omega) (by omega) (kk _ _ _ _ _ _ g.1 hP hD hS (lv_sub hl [2, 3, 4, 5, 6] rfl))
  · have g2 := g.2.2 hz
    refine lv_aload_n hx hb dL_law_498 rfl (lv_at hl 5 rfl) ?_
    refine lv_iconst (v := nI 0) hx hb dL_law_499 (by decide) ?_
    refine xl_lald hx hb hK hP 18 2 rfl rfl dL_law_500 ?_
    refine lv_iload hx hb dL_law_501 (lv_at hl 0 rfl) ?_
    refine lv_i2l (v := (stepMr M (xs (7 * k + 1)) (xs (7 * k + 2)) (xs (7 * k + 3))).toInt64) hx hb dL_law_503 rfl ?_
    refine xl_lcmp hx hb (g2.trans (by first | rfl | decide)) dL_law_504 ?_
    refine lv_if_eq (tgt := 510) hx hb dL_law_505 (by decide) (fun _ => ?_) (fun h9 => absurd rfl h9)
    refine lv_goto (tgt := 1137) hx hb dL_law_510 (by decide) ?_
    exact W.widen (k := 34 + (k + 1)) (n := 3399 + 6 * (k + 1)) (by omega) (by omega) (kk _ _ _ _ _ _ g.1 hP hD hS (lv_sub hl [2, 3, 4, 5, 6] rfl))
set_option maxHeartbeats 8000000 in
set_option maxRecDepth 100000 in
theorem la_tick (l : Launch) {p : Program} {e : Env} {s : State} {m : MethodId} {below : List Frame} {meth : Method} {cd : Code} {D : va_G} {cI cZ cL : ClassId} {a u : Nat → Nat} {o b L k : Nat} {xs : Nat → Int32} {Q : State → Prop} (hl9 : l.stackTraces = false) (hx : p.tables.exec = Jvm.exec) (hb : cd.code = cL_law) (hml : cd.maxLocals = 7) (hown : s.vm.findClass RL = some m.cls) (ht : ∀ w ∈ wBIG, w.before #[Value.ref b] s = true) (hN : xN s) (hT9 : xT s.heap.size s) (hE : xE s) (hX : va_X b L xs s s.heap) (hbl : b < s.heap.size) (hL : L ≤ 3584) (hK : va_K D vwCl (tyJ cI cZ cL) s) (hk : 7 * k + 7 ≤ L)
    (kk : ∀ (C : CS) (M : MS) (f : Nat → Int64) (H : Heap) (locs : List Loc) (ls : Array Slot), inv C M (k + 1) → va_P D vwCl (wL a u o cI cZ cL C f M) H → va_D (fun q => s.heap.size ≤ q) (wL a u o cI cZ cL C f M) → va_S (fun q => s.heap.size ≤ q) s.heap H locs → lv_has ls 7 [(0, .ref b), (1, .ref (a 17)), (2, .ref (u 0)), (3, .ref o), (4, .int (nI (7 * k)))] → W p l e room_1 s m #[Value.ref b] below meth cd H locs (34 + (k + 1)) (3399 + 6 * (k + 1)) Q (F0 m 1137 ls []))
    {C : CS} {M : MS} {f : Nat → Int64} {H : Heap} {locs : List Loc} (hi : inv C M k) (hP : va_P D vwCl (wL a u o cI cZ cL C f M) H) (hD : va_D (fun q => s.heap.size ≤ q) (wL a u o cI cZ cL C f M)) (hS : va_S (fun q => s.heap.size ≤ q) s.heap H locs) {ls : Array Slot} (hl : lv_has ls 7 [(0, .ref b), (1, .ref (a 17)), (2, .ref (u 0)), (3, .ref o), (4, .int (nI (7 * k)))]) :
    W p l e room_1 s m #[Value.ref b] below meth cd H locs (34 + k) (3399 + 6 * k) Q (F0 m 513 ls []) := by
  have hK2 := hK.sub (tys' := tyL cI cZ) [0, 1] rfl
  have z := hi.c (by omega)
  refine lv_aload_n hx hb dL_law_513 rfl (lv_at hl 1 rfl) ?_
  refine lv_aload_n hx hb dL_law_514 rfl (lv_at hl 0 rfl) ?_
  refine lv_iload hx hb dL_law_515 (lv_at hl 4 rfl) ?_
  refine lv_iconst (v := nI 1) hx hb dL_law_517 (by decide) ?_
  refine lv_iadd hx hb dL_law_518 ?_
  refine xtop (y := nI (7 * k + 1)) (nI_add _ _) ?_
  refine xs_ld (i := 7 * k + 1) hx hb hX hbl hL hS (by omega) dL_law_519 ?_
  refine lv_aload_n hx hb dL_law_520 rfl (lv_at hl 3 rfl) ?_
  refine xwL (As := [.ref (a 17), .int (xs (7 * k + 1)), .ref (o)]) (rest := []) (wr := wM u cI cZ M) (ws2 := wL a u o cI cZ cL (nxC ((bTk (cT C) (xs (7 * k + 1))) || false || false) C ((tkS C (ix (xs (7 * k + 1)))).1)) (nxF ((bTk (cT C) (xs (7 * k + 1))) || false || false) f (tickCr C (xs (7 * k + 1))).toInt64) M) hx hb hml hown ht hN hT9 hE kW_93 (w_tick l D hl9 s.heap.size a o cI cZ cL C z.1 f (xs (7 * k + 1))) ⟨Nat.le_of_ble_eq_true rfl, Nat.le_of_ble_eq_true rfl⟩ hP hD hS hK [0, 1, 2, 3, 4, 5, 6, 7, 8, 9, 10, 11, 12, 13, 14, 15, 16, 17, 18] [19, 20, 21, 22, 23, 24, 25, 26, 27, 28, 29, 30, 31, 32, 33] [15, 16, 17, 18, 19, 20, 21, 22, 23, 24, 25, 26, 27, 28, 29, 30, 31, 32, 33, 0, 1, 2, 3, 4, 5, 6, 7, 8, 9, 10, 11, 12, 13, 14] rfl rfl (by decide) (by decide) (by decide) rfl rfl (by decide) rfl hl.1 rfl (Nat.le_of_ble_eq_true rfl) dL_law_521 ⟨(show 34 + k + 1 ≤ 1079 by omega), (show 3399 + 6 * k + 6 ≤ 11717 by omega)⟩ (fun H locs hP hD hS => ?_)
  have g := p_tick (C := C) (M := M) (k := k) (f := f) (v1 := (xs (7 * k + 1))) hi
  refine lv_istore (lv' := [(5, .int (thrM (bTk (cT C) (xs (7 * k + 1))) (false) (false))), (0, .ref (b)), (1, .ref (a 17)), (2, .ref (u 0)), (3, .ref (o)), (4, .int (nI (7 * k)))]) hx hb dL_law_524 hl (by decide) rfl (fun ls hl => ?_)
  refine lv_aload_n hx hb dL_law_526 rfl (lv_at hl 3 rfl) ?_
  refine lv_aload_n hx hb dL_law_527 rfl (lv_at hl 1 rfl) ?_
  refine lv_iload hx hb dL_law_528 (lv_at hl 5 rfl) ?_
  refine lv_iconst (v := nI 1) hx hb dL_law_530 (by decide) ?_
  refine lv_iadd hx hb dL_law_531 ?_
  refine xtop (y := nI (7 * k + 1)) (nI_add _ _) ?_
  refine xs_ld (i := 7 * k + 1) hx hb hX hbl hL hS (by omega) dL_law_532 ?_
  refine xwV (As := [.int (xs (7 * k + 1))]) (rest := []) (wr := wJ a o cI cZ cL (nxC ((bTk (cT C) (xs (7 * k + 1))) || false || false) C ((tkS C (ix (xs (7 * k + 1)))).1)) (nxF ((bTk (cT C) (xs (7 * k + 1))) || false || false) f (tickCr C (xs (7 * k + 1))).toInt64)) (ws2 := wL a u o cI cZ cL (nxC ((bTk (cT C) (xs (7 * k + 1))) || false || false) C ((tkS C (ix (xs (7 * k + 1)))).1)) (nxF ((bTk (cT C) (xs (7 * k + 1))) || false || false) f (tickCr C (xs (7 * k + 1))).toInt64) (tickMs M (xs (7 * k + 1)))) hx hb hml hown ht hN kV_L_96 (r_X4_tick l D u cI cZ M z.2.2.1 z.2.2.2.1 z.2.2.2.2.2.1 (xs (7 * k + 1))) ⟨Nat.le_of_ble_eq_true rfl, Nat.le_of_ble_eq_true rfl⟩ hP hD hS hK2 [19, 20, 21, 22, 23, 24, 25, 26, 27, 28, 29, 30, 31, 32, 33] [0, 1, 2, 3, 4, 5, 6, 7, 8, 9, 10, 11, 12, 13, 14, 15, 16, 17, 18] [0, 1, 2, 3, 4, 5, 6, 7, 8, 9, 10, 11, 12, 13, 14, 15, 16, 17, 18, 19, 20, 21, 22, 23, 24, 25, 26, 27, 28, 29, 30, 31, 32, 33] rfl rfl (by decide) (by decide) (by decide) rfl rfl (by decide) rfl rfl rfl rfl hl.1 rfl (Nat.le_of_ble_eq_true rfl) dL_law_533 ⟨(show 34 + k + 1 ≤ 1079 by omega), (show 3399 + 6 * k + 6 ≤ 11717 by omega)⟩ (fun H locs hP hD hS => ?_)
  refine lv_istore (lv' := [(6, .int (tickMr M (xs (7 * k + 1)))), (5, .int (thrM (bTk (cT C) (xs (7 * k + 1))) (false) (false))), (0, .ref (b)), (1, .ref (a 17)), (2, .ref (u 0)), (3, .ref (o)), (4, .int (nI (7 * k)))]) hx hb dL_law_536 hl (by decide) rfl (fun ls hl => ?_)
  refine lv_aload_n hx hb dL_law_538 rfl (lv_at hl 4 rfl) ?_
  refine xrV (As := []) (rest := []) hx hb hml hown ht hN kV_L_74 (r_X4_thrown l D u cI cZ (tickMs M (xs (7 * k + 1)))) ⟨Nat.le_of_ble_eq_true rfl, Nat.le_of_ble_eq_true rfl⟩ (xP_sub (isC := [19, 20, 21, 22, 23, 24, 25, 26, 27, 28, 29, 30, 31, 32, 33]) hP rfl) hK2 rfl rfl rfl rfl hl.1 rfl (Nat.le_of_ble_eq_true rfl) dL_law_539 ⟨(show 34 + k + 1 ≤ 1079 by omega), (show 3399 + 6 * k + 6 ≤ 11717 by omega)⟩ ?_
  refine lv_iload hx hb dL_law_542 (lv_at hl 1 rfl) ?_
  refine lv_icmp_eq (tgt := 549) hx hb dL_law_544 (by decide) (fun _ => ?_) (fun h9 => absurd g.2.1 h9)
  refine lv_iload hx hb dL_law_549 (lv_at hl 1 rfl) ?_
  refine lv_if_ne (tgt := 566) hx hb dL_law_551 (by decide) (fun _ => ?_) (fun hz => ?_)
  · skip
    refine lv_goto (tgt := 1137) hx hb dL_law_566 (by decide) ?_
    exact W.widen (k := 34 + (k + 1)) (n := 3399 + 6 * (k + 1)) (by omega) (by omega) (kk _ _ _ _ _ _ g.1 hP hD hS (lv_sub hl [2, 3, 4, 5, 6] rfl))
  · have g2 := g.2.2 hz
    refine lv_aload_n hx hb dL_law_554 rfl (lv_at hl 5 rfl) ?_
    refine lv_iconst (v := nI 0) hx hb dL_law_555 (by decide) ?_
    refine xl_lald hx hb hK hP 18 2 rfl rfl dL_law_556 ?_
    refine lv_iload hx hb dL_law_557 (lv_at hl 0 rfl) ?_
    refine lv_i2l (v := (tickMr M (xs (7 * k + 1))).toInt64) hx hb dL_law_559 rfl ?_
    refine xl_lcmp hx hb (g2.trans (by first | rfl | decide)) dL_law_560 ?_
    refine lv_if_eq (tgt := 566) hx hb dL_law_561 (by decide) (fun _ => ?_) (fun h9 => absurd rfl h9)
    refine lv_goto (tgt := 1137) hx hb dL_law_566 (by decide) ?_
    exact W.widen (k := 34 + (k + 1)) (n := 3399 + 6 * (k + 1)) (by omega) (by omega) (kk _ _ _ _ _ _ g.1 hP hD hS (lv_sub hl [2, 3, 4, 5, 6] rfl))
set_option maxHeartbeats 8000000 in
set_option maxRecDepth 100000 in
theorem la_clock (l : Launch) {p : Program} {e : Env} {s : State} {m : MethodId} {below : List Frame} {meth : Method} {cd : Code} {D : va_G} {cI cZ cL : ClassId} {a u : Nat → Nat} {o b L k : Nat} {xs : Nat → Int32} {Q : State → Prop} (hl9 : l.stackTraces = false) (hx : p.tables.exec = Jvm.exec) (hb : cd.code = cL_law) (hml : cd.maxLocals = 7) (hown : s.vm.findClass RL = some m.cls) (ht : ∀ w ∈ wBIG, w.before #[Value.ref b] s = true) (hN : xN s) (hT9 : xT s.heap.size s) (hE : xE s) (hX : va_X b L xs s s.heap) (hbl : b < s.heap.size) (hL : L ≤ 3584) (hK : va_K D vwCl (tyJ cI cZ cL) s) (hk : 7 * k + 7 ≤ L)
    (kk : ∀ (C : CS) (M : MS) (f : Nat → Int64) (H : Heap) (locs : List Loc) (ls : Array Slot), inv C M (k + 1) → va_P D vwCl (wL a u o cI cZ cL C f M) H → va_D (fun q => s.heap.size ≤ q) (wL a u o cI cZ cL C f M) → va_S (fun q => s.heap.size ≤ q) s.heap H locs → lv_has ls 7 [(0, .ref b), (1, .ref (a 17)), (2, .ref (u 0)), (3, .ref o), (4, .int (nI (7 * k)))] → W p l e room_1 s m #[Value.ref b] below meth cd H locs (34 + (k + 1)) (3399 + 6 * (k + 1)) Q (F0 m 1137 ls []))
    {C : CS} {M : MS} {f : Nat → Int64} {H : Heap} {locs : List Loc} (hi : inv C M k) (hP : va_P D vwCl (wL a u o cI cZ cL C f M) H) (hD : va_D (fun q => s.heap.size ≤ q) (wL a u o cI cZ cL C f M)) (hS : va_S (fun q => s.heap.size ≤ q) s.heap H locs) {ls : Array Slot} (hl : lv_has ls 7 [(0, .ref b), (1, .ref (a 17)), (2, .ref (u 0)), (3, .ref o), (4, .int (nI (7 * k)))]) :
    W p l e room_1 s m #[Value.ref b] below meth cd H locs (34 + k) (3399 + 6 * k) Q (F0 m 569 ls []) := by
  have hK2 := hK.sub (tys' := tyL cI cZ) [0, 1] rfl
  have z := hi.c (by omega)
  refine lv_aload_n hx hb dL_law_569 rfl (lv_at hl 1 rfl) ?_
  refine xrV (As := []) (rest := []) hx hb hml hown ht hN kV_L_97 (r_X3_clock l D a cI cZ C) ⟨Nat.le_of_ble_eq_true rfl, Nat.le_of_ble_eq_true rfl⟩ (xP_sub (isC := [0, 1, 2, 3, 4, 5, 6, 7, 8, 9, 10, 11, 12, 13, 14, 15, 16, 17]) hP rfl) hK2 rfl rfl rfl rfl hl.1 rfl (Nat.le_of_ble_eq_true rfl) dL_law_570 ⟨(show 34 + k ≤ 1079 by omega), (show 3399 + 6 * k ≤ 11717 by omega)⟩ ?_
  refine lv_aload_n hx hb dL_law_573 rfl (lv_at hl 2 rfl) ?_
  refine xwV (As := []) (rest := [.int (nI (cT C))]) (wr := wJ a o cI cZ cL C f) (ws2 := wL a u o cI cZ cL C f (setE M (nI 0))) hx hb hml hown ht hN kV_L_100 (r_X4_clock l D u cI cZ M) ⟨Nat.le_of_ble_eq_true rfl, Nat.le_of_ble_eq_true rfl⟩ hP hD hS hK2 [19, 20, 21, 22, 23, 24, 25, 26, 27, 28, 29, 30, 31, 32, 33] [0, 1, 2, 3, 4, 5, 6, 7, 8, 9, 10, 11, 12, 13, 14, 15, 16, 17, 18] [0, 1, 2, 3, 4, 5, 6, 7, 8, 9, 10, 11, 12, 13, 14, 15, 16, 17, 18, 19, 20, 21, 22, 23, 24, 25, 26, 27, 28, 29, 30, 31, 32, 33] rfl rfl (by decide) (by decide) (by decide) rfl rfl (by decide) rfl rfl rfl rfl hl.1 rfl (Nat.le_of_ble_eq_true rfl) dL_law_574 ⟨(show 34 + k ≤ 1079 by omega), (show 3399 + 6 * k ≤ 11717 by omega)⟩ (fun H locs hP hD hS => ?_)
  refine lv_icmp_eq (tgt := 1137) hx hb dL_law_577 (by decide) (fun _ => ?_) (fun h9 => absurd (congrArg nI hi.1.1.2.2.2.2.1) h9)
  exact W.widen (k := 34 + (k + 1)) (n := 3399 + 6 * (k + 1)) (by omega) (by omega) (kk _ _ _ _ _ _ (inv_E hi) hP hD hS (lv_sub hl [0, 1, 2, 3, 4] rfl))
set_option maxHeartbeats 8000000 in
set_option maxRecDepth 100000 in
theorem la_closed (l : Launch) {p : Program} {e : Env} {s : State} {m : MethodId} {below : List Frame} {meth : Method} {cd : Code} {D : va_G} {cI cZ cL : ClassId} {a u : Nat → Nat} {o b L k : Nat} {xs : Nat → Int32} {Q : State → Prop} (hl9 : l.stackTraces = false) (hx : p.tables.exec = Jvm.exec) (hb : cd.code = cL_law) (hml : cd.maxLocals = 7) (hown : s.vm.findClass RL = some m.cls) (ht : ∀ w ∈ wBIG, w.before #[Value.ref b] s = true) (hN : xN s) (hT9 : xT s.heap.size s) (hE : xE s) (hX : va_X b L xs s s.heap) (hbl : b < s.heap.size) (hL : L ≤ 3584) (hK : va_K D vwCl (tyJ cI cZ cL) s) (hk : 7 * k + 7 ≤ L)
    (kk : ∀ (C : CS) (M : MS) (f : Nat → Int64) (H : Heap) (locs : List Loc) (ls : Array Slot), inv C M (k + 1) → va_P D vwCl (wL a u o cI cZ cL C f M) H → va_D (fun q => s.heap.size ≤ q) (wL a u o cI cZ cL C f M) → va_S (fun q => s.heap.size ≤ q) s.heap H locs → lv_has ls 7 [(0, .ref b), (1, .ref (a 17)), (2, .ref (u 0)), (3, .ref o), (4, .int (nI (7 * k)))] → W p l e room_1 s m #[Value.ref b] below meth cd H locs (34 + (k + 1)) (3399 + 6 * (k + 1)) Q (F0 m 1137 ls []))
    {C : CS} {M : MS} {f : Nat → Int64} {H : Heap} {locs : List Loc} (hi : inv C M k) (hP : va_P D vwCl (wL a u o cI cZ cL C f M) H) (hD : va_D (fun q => s.heap.size ≤ q) (wL a u o cI cZ cL C f M)) (hS : va_S (fun q => s.heap.size ≤ q) s.heap H locs) {ls : Array Slot} (hl : lv_has ls 7 [(0, .ref b), (1, .ref (a 17)), (2, .ref (u 0)), (3, .ref o), (4, .int (nI (7 * k)))]) :
    W p l e room_1 s m #[Value.ref b] below meth cd H locs (34 + k) (3399 + 6 * k) Q (F0 m 582 ls []) := by
  have hK2 := hK.sub (tys' := tyL cI cZ) [0, 1] rfl
  have z := hi.c (by omega)
  refine lv_aload_n hx hb dL_law_582 rfl (lv_at hl 1 rfl) ?_
  refine lv_aload_n hx hb dL_law_583 rfl (lv_at hl 0 rfl) ?_
  refine lv_iload hx hb dL_law_584 (lv_at hl 4 rfl) ?_
  refine lv_iconst (v := nI 1) hx hb dL_law_586 (by decide) ?_
  refine lv_iadd hx hb dL_law_587 ?_
  refine xtop (y := nI (7 * k + 1)) (nI_add _ _) ?_
  refine xs_ld (i := 7 * k + 1) hx hb hX hbl hL hS (by omega) dL_law_588 ?_
  refine lv_aload_n hx hb dL_law_589 rfl (lv_at hl 0 rfl) ?_
  refine lv_iload hx hb dL_law_590 (lv_at hl 4 rfl) ?_
  refine lv_iconst (v := nI 2) hx hb dL_law_592 (by decide) ?_
  refine lv_iadd hx hb dL_law_593 ?_
  refine xtop (y := nI (7 * k + 2)) (nI_add _ _) ?_
  refine xs_ld (i := 7 * k + 2) hx hb hX hbl hL hS (by omega) dL_law_594 ?_
  refine lv_aload_n hx hb dL_law_595 rfl (lv_at hl 0 rfl) ?_
  refine lv_iload hx hb dL_law_596 (lv_at hl 4 rfl) ?_
  refine lv_iconst (v := nI 3) hx hb dL_law_598 (by decide) ?_
  refine lv_iadd hx hb dL_law_599 ?_
  refine xtop (y := nI (7 * k + 3)) (nI_add _ _) ?_
  refine xs_ld (i := 7 * k + 3) hx hb hX hbl hL hS (by omega) dL_law_600 ?_
  refine lv_aload_n hx hb dL_law_601 rfl (lv_at hl 3 rfl) ?_
  refine xwL (As := [.ref (a 17), .int (xs (7 * k + 1)), .int (xs (7 * k + 2)), .int (xs (7 * k + 3)), .ref (o)]) (rest := []) (wr := wM u cI cZ M) (ws2 := wL a u o cI cZ cL (nxC ((bPc (xs (7 * k + 1))) || (bSt (xs (7 * k + 2)) (xs (7 * k + 3))) || false) C (C)) (nxF ((bPc (xs (7 * k + 1))) || (bSt (xs (7 * k + 2)) (xs (7 * k + 3))) || false) f (bI (closedK (cK C) (plI (xs (7 * k + 1)) (xs (7 * k + 2))) (xs (7 * k + 3)))).toInt64) M) hx hb hml hown ht hN hT9 hE kW_101 (w_closed l D hl9 s.heap.size a o cI cZ cL C z.1 f (xs (7 * k + 1)) (xs (7 * k + 2)) (xs (7 * k + 3))) ⟨Nat.le_of_ble_eq_true rfl, Nat.le_of_ble_eq_true rfl⟩ hP hD hS hK [0, 1, 2, 3, 4, 5, 6, 7, 8, 9, 10, 11, 12, 13, 14, 15, 16, 17, 18] [19, 20, 21, 22, 23, 24, 25, 26, 27, 28, 29, 30, 31, 32, 33] [15, 16, 17, 18, 19, 20, 21, 22, 23, 24, 25, 26, 27, 28, 29, 30, 31, 32, 33, 0, 1, 2, 3, 4, 5, 6, 7, 8, 9, 10, 11, 12, 13, 14] rfl rfl (by decide) (by decide) (by decide) rfl rfl (by decide) rfl hl.1 rfl (Nat.le_of_ble_eq_true rfl) dL_law_602 ⟨(show 34 + k + 1 ≤ 1079 by omega), (show 3399 + 6 * k + 6 ≤ 11717 by omega)⟩ (fun H locs hP hD hS => ?_)
  have g := p_closed (C := C) (M := M) (k := k) (f := f) (p1 := (xs (7 * k + 1))) (s1 := (xs (7 * k + 2))) (t1 := (xs (7 * k + 3))) hi
  refine lv_istore (lv' := [(5, .int (thrM (bPc (xs (7 * k + 1))) (bSt (xs (7 * k + 2)) (xs (7 * k + 3))) (false))), (0, .ref (b)), (1, .ref (a 17)), (2, .ref (u 0)), (3, .ref (o)), (4, .int (nI (7 * k)))]) hx hb dL_law_605 hl (by decide) rfl (fun ls hl => ?_)
  refine lv_aload_n hx hb dL_law_607 rfl (lv_at hl 3 rfl) ?_
  refine lv_aload_n hx hb dL_law_608 rfl (lv_at hl 1 rfl) ?_
  refine lv_iload hx hb dL_law_609 (lv_at hl 5 rfl) ?_
  refine lv_iconst (v := nI 1) hx hb dL_law_611 (by decide) ?_
  refine lv_iadd hx hb dL_law_612 ?_
  refine xtop (y := nI (7 * k + 1)) (nI_add _ _) ?_
  refine xs_ld (i := 7 * k + 1) hx hb hX hbl hL hS (by omega) dL_law_613 ?_
  refine lv_aload_n hx hb dL_law_614 rfl (lv_at hl 1 rfl) ?_
  refine lv_iload hx hb dL_law_615 (lv_at hl 5 rfl) ?_
  refine lv_iconst (v := nI 2) hx hb dL_law_617 (by decide) ?_
  refine lv_iadd hx hb dL_law_618 ?_
  refine xtop (y := nI (7 * k + 2)) (nI_add _ _) ?_
  refine xs_ld (i := 7 * k + 2) hx hb hX hbl hL hS (by omega) dL_law_619 ?_
  refine lv_aload_n hx hb dL_law_620 rfl (lv_at hl 1 rfl) ?_
  refine lv_iload hx hb dL_law_621 (lv_at hl 5 rfl) ?_
  refine lv_iconst (v := nI 3) hx hb dL_law_623 (by decide) ?_
  refine lv_iadd hx hb dL_law_624 ?_
  refine xtop (y := nI (7 * k + 3)) (nI_add _ _) ?_
  refine xs_ld (i := 7 * k + 3) hx hb hX hbl hL hS (by omega) dL_law_625 ?_
  refine xwV (As := [.int (xs (7 * k + 1)), .int (xs (7 * k + 2)), .int (xs (7 * k + 3))]) (rest := []) (wr := wJ a o cI cZ cL (nxC ((bPc (xs (7 * k + 1))) || (bSt (xs (7 * k + 2)) (xs (7 * k + 3))) || false) C (C)) (nxF ((bPc (xs (7 * k + 1))) || (bSt (xs (7 * k + 2)) (xs (7 * k + 3))) || false) f (bI (closedK (cK C) (plI (xs (7 * k + 1)) (xs (7 * k + 2))) (xs (7 * k + 3)))).toInt64)) (ws2 := wL a u o cI cZ cL (nxC ((bPc (xs (7 * k + 1))) || (bSt (xs (7 * k + 2)) (xs (7 * k + 3))) || false) C (C)) (nxF ((bPc (xs (7 * k + 1))) || (bSt (xs (7 * k + 2)) (xs (7 * k + 3))) || false) f (bI (closedK (cK C) (plI (xs (7 * k + 1)) (xs (7 * k + 2))) (xs (7 * k + 3)))).toInt64) (closedMs M (xs (7 * k + 1)) (xs (7 * k + 2)) (xs (7 * k + 3)))) hx hb hml hown ht hN kV_L_103 (r_X4_closed l D u cI cZ M z.2.2.1 (xs (7 * k + 1)) (xs (7 * k + 2)) (xs (7 * k + 3))) ⟨Nat.le_of_ble_eq_true rfl, Nat.le_of_ble_eq_true rfl⟩ hP hD hS hK2 [19, 20, 21, 22, 23, 24, 25, 26, 27, 28, 29, 30, 31, 32, 33] [0, 1, 2, 3, 4, 5, 6, 7, 8, 9, 10, 11, 12, 13, 14, 15, 16, 17, 18] [0, 1, 2, 3, 4, 5, 6, 7, 8, 9, 10, 11, 12, 13, 14, 15, 16, 17, 18, 19, 20, 21, 22, 23, 24, 25, 26, 27, 28, 29, 30, 31, 32, 33] rfl rfl (by decide) (by decide) (by decide) rfl rfl (by decide) rfl rfl rfl rfl hl.1 rfl (Nat.le_of_ble_eq_true rfl) dL_law_626 ⟨(show 34 + k + 1 ≤ 1079 by omega), (show 3399 + 6 * k + 6 ≤ 11717 by omega)⟩ (fun H locs hP hD hS => ?_)
  refine lv_istore (lv' := [(6, .int (closedMr M (xs (7 * k + 1)) (xs (7 * k + 2)) (xs (7 * k + 3)))), (5, .int (thrM (bPc (xs (7 * k + 1))) (bSt (xs (7 * k + 2)) (xs (7 * k + 3))) (false))), (0, .ref (b)), (1, .ref (a 17)), (2, .ref (u 0)), (3, .ref (o)), (4, .int (nI (7 * k)))]) hx hb dL_law_629 hl (by decide) rfl (fun ls hl => ?_)
  refine lv_aload_n hx hb dL_law_631 rfl (lv_at hl 4 rfl) ?_
  refine xrV (As := []) (rest := []) hx hb hml hown ht hN kV_L_74 (r_X4_thrown l D u cI cZ (closedMs M (xs (7 * k + 1)) (xs (7 * k + 2)) (xs (7 * k + 3)))) ⟨Nat.le_of_ble_eq_true rfl, Nat.le_of_ble_eq_true rfl⟩ (xP_sub (isC := [19, 20, 21, 22, 23, 24, 25, 26, 27, 28, 29, 30, 31, 32, 33]) hP rfl) hK2 rfl rfl rfl rfl hl.1 rfl (Nat.le_of_ble_eq_true rfl) dL_law_632 ⟨(show 34 + k + 1 ≤ 1079 by omega), (show 3399 + 6 * k + 6 ≤ 11717 by omega)⟩ ?_
  refine lv_iload hx hb dL_law_635 (lv_at hl 1 rfl) ?_
  refine lv_icmp_eq (tgt := 642) hx hb dL_law_637 (by decide) (fun _ => ?_) (fun h9 => absurd g.2.1 h9)
  refine lv_iload hx hb dL_law_642 (lv_at hl 1 rfl) ?_
  refine lv_if_ne (tgt := 666) hx hb dL_law_644 (by decide) (fun _ => ?_) (fun hz => ?_)
  · skip
    refine lv_goto (tgt := 1137) hx hb dL_law_666 (by decide) ?_
    exact W.widen (k := 34 + (k + 1)) (n := 3399 + 6 * (k + 1)) (by omega) (by omega) (kk _ _ _ _ _ _ g.1 hP hD hS (lv_sub hl [2, 3, 4, 5, 6] rfl))
  · have g2 := g.2.2 hz
    refine lv_aload_n hx hb dL_law_647 rfl (lv_at hl 5 rfl) ?_
    refine lv_iconst (v := nI 0) hx hb dL_law_648 (by decide) ?_
    refine xl_lald hx hb hK hP 18 2 rfl rfl dL_law_649 ?_
    refine lv_iload hx hb dL_law_650 (lv_at hl 0 rfl) ?_
    refine lv_if_eq (tgt := 659) hx hb dL_law_652 (by decide) (fun hy => ?_) (fun hy => ?_)
    · rw [hy] at g2
      refine lv_lconst (v := 0) hx hb dL_law_659 (by decide) ?_
      refine xl_lcmp hx hb (g2.trans (by first | rfl | decide)) dL_law_660 ?_
      refine lv_if_eq (tgt := 666) hx hb dL_law_661 (by decide) (fun _ => ?_) (fun h9 => absurd rfl h9)
      refine lv_goto (tgt := 1137) hx hb dL_law_666 (by decide) ?_
      exact W.widen (k := 34 + (k + 1)) (n := 3399 + 6 * (k + 1)) (by omega) (by omega) (kk _ _ _ _ _ _ g.1 hP hD hS (lv_sub hl [2, 3, 4, 5, 6] rfl))
    · rw [closed01.resolve_left hy] at g2
      refine lv_lconst (v := 1) hx hb dL_law_655 (by decide) ?_
      refine lv_goto (tgt := 660) hx hb dL_law_656 (by decide) ?_
      refine xl_lcmp hx hb (g2.trans (by first | rfl | decide)) dL_law_660 ?_
      refine lv_if_eq (tgt := 666) hx hb dL_law_661 (by decide) (fun _ => ?_) (fun h9 => absurd rfl h9)
      refine lv_goto (tgt := 1137) hx hb dL_law_666 (by decide) ?_
      exact W.widen (k := 34 + (k + 1)) (n := 3399 + 6 * (k + 1)) (by omega) (by omega) (kk _ _ _ _ _ _ g.1 hP hD hS (lv_sub hl [2, 3, 4, 5, 6] rfl))
set_option maxHeartbeats 8000000 in
set_option maxRecDepth 100000 in
theorem la_minutes (l : Launch) {p : Program} {e : Env} {s : State} {m : MethodId} {below : List Frame} {meth : Method} {cd : Code} {D : va_G} {cI cZ cL : ClassId} {a u : Nat → Nat} {o b L k : Nat} {xs : Nat → Int32} {Q : State → Prop} (hl9 : l.stackTraces = false) (hx : p.tables.exec = Jvm.exec) (hb : cd.code = cL_law) (hml : cd.maxLocals = 7) (hown : s.vm.findClass RL = some m.cls) (ht : ∀ w ∈ wBIG, w.before #[Value.ref b] s = true) (hN : xN s) (hT9 : xT s.heap.size s) (hE : xE s) (hX : va_X b L xs s s.heap) (hbl : b < s.heap.size) (hL : L ≤ 3584) (hK : va_K D vwCl (tyJ cI cZ cL) s) (hk : 7 * k + 7 ≤ L)
    (kk : ∀ (C : CS) (M : MS) (f : Nat → Int64) (H : Heap) (locs : List Loc) (ls : Array Slot), inv C M (k + 1) → va_P D vwCl (wL a u o cI cZ cL C f M) H → va_D (fun q => s.heap.size ≤ q) (wL a u o cI cZ cL C f M) → va_S (fun q => s.heap.size ≤ q) s.heap H locs → lv_has ls 7 [(0, .ref b), (1, .ref (a 17)), (2, .ref (u 0)), (3, .ref o), (4, .int (nI (7 * k)))] → W p l e room_1 s m #[Value.ref b] below meth cd H locs (34 + (k + 1)) (3399 + 6 * (k + 1)) Q (F0 m 1137 ls []))
    {C : CS} {M : MS} {f : Nat → Int64} {H : Heap} {locs : List Loc} (hi : inv C M k) (hP : va_P D vwCl (wL a u o cI cZ cL C f M) H) (hD : va_D (fun q => s.heap.size ≤ q) (wL a u o cI cZ cL C f M)) (hS : va_S (fun q => s.heap.size ≤ q) s.heap H locs) {ls : Array Slot} (hl : lv_has ls 7 [(0, .ref b), (1, .ref (a 17)), (2, .ref (u 0)), (3, .ref o), (4, .int (nI (7 * k)))]) :
    W p l e room_1 s m #[Value.ref b] below meth cd H locs (34 + k) (3399 + 6 * k) Q (F0 m 669 ls []) := by
  have hK2 := hK.sub (tys' := tyL cI cZ) [0, 1] rfl
  have z := hi.c (by omega)
  refine lv_aload_n hx hb dL_law_669 rfl (lv_at hl 1 rfl) ?_
  refine lv_aload_n hx hb dL_law_670 rfl (lv_at hl 0 rfl) ?_
  refine lv_iload hx hb dL_law_671 (lv_at hl 4 rfl) ?_
  refine lv_iconst (v := nI 1) hx hb dL_law_673 (by decide) ?_
  refine lv_iadd hx hb dL_law_674 ?_
  refine xtop (y := nI (7 * k + 1)) (nI_add _ _) ?_
  refine xs_ld (i := 7 * k + 1) hx hb hX hbl hL hS (by omega) dL_law_675 ?_
  refine lv_aload_n hx hb dL_law_676 rfl (lv_at hl 0 rfl) ?_
  refine lv_iload hx hb dL_law_677 (lv_at hl 4 rfl) ?_
  refine lv_iconst (v := nI 2) hx hb dL_law_679 (by decide) ?_
  refine lv_iadd hx hb dL_law_680 ?_
  refine xtop (y := nI (7 * k + 2)) (nI_add _ _) ?_
  refine xs_ld (i := 7 * k + 2) hx hb hX hbl hL hS (by omega) dL_law_681 ?_
  refine lv_aload_n hx hb dL_law_682 rfl (lv_at hl 0 rfl) ?_
  refine lv_iload hx hb dL_law_683 (lv_at hl 4 rfl) ?_
  refine lv_iconst (v := nI 3) hx hb dL_law_685 (by decide) ?_
  refine lv_iadd hx hb dL_law_686 ?_
  refine xtop (y := nI (7 * k + 3)) (nI_add _ _) ?_
  refine xs_ld (i := 7 * k + 3) hx hb hX hbl hL hS (by omega) dL_law_687 ?_
  refine lv_aload_n hx hb dL_law_688 rfl (lv_at hl 0 rfl) ?_
  refine lv_iload hx hb dL_law_689 (lv_at hl 4 rfl) ?_
  refine lv_iconst (v := nI 4) hx hb dL_law_691 (by decide) ?_
  refine lv_iadd hx hb dL_law_692 ?_
  refine xtop (y := nI (7 * k + 4)) (nI_add _ _) ?_
  refine xs_ld (i := 7 * k + 4) hx hb hX hbl hL hS (by omega) dL_law_693 ?_
  refine lv_aload_n hx hb dL_law_694 rfl (lv_at hl 3 rfl) ?_
  refine xwL (As := [.ref (a 17), .int (xs (7 * k + 1)), .int (xs (7 * k + 2)), .int (xs (7 * k + 3)), .int (xs (7 * k + 4)), .ref (o)]) (rest := []) (wr := wM u cI cZ M) (ws2 := wL a u o cI cZ cL (nxC ((bPc (xs (7 * k + 1))) || (bMi (xs (7 * k + 2)) (xs (7 * k + 3)) (xs (7 * k + 4))) || false) C (C)) (nxF ((bPc (xs (7 * k + 1))) || (bMi (xs (7 * k + 2)) (xs (7 * k + 3)) (xs (7 * k + 4))) || false) f (minCr C (xs (7 * k + 1)) (xs (7 * k + 2)) (xs (7 * k + 3)) (xs (7 * k + 4))).toInt64) M) hx hb hml hown ht hN hT9 hE kW_104 (w_minutes l D hl9 s.heap.size a o cI cZ cL C z.1 z.2.1 f (xs (7 * k + 1)) (xs (7 * k + 2)) (xs (7 * k + 3)) (xs (7 * k + 4))) ⟨Nat.le_of_ble_eq_true rfl, Nat.le_of_ble_eq_true rfl⟩ hP hD hS hK [0, 1, 2, 3, 4, 5, 6, 7, 8, 9, 10, 11, 12, 13, 14, 15, 16, 17, 18] [19, 20, 21, 22, 23, 24, 25, 26, 27, 28, 29, 30, 31, 32, 33] [15, 16, 17, 18, 19, 20, 21, 22, 23, 24, 25, 26, 27, 28, 29, 30, 31, 32, 33, 0, 1, 2, 3, 4, 5, 6, 7, 8, 9, 10, 11, 12, 13, 14] rfl rfl (by decide) (by decide) (by decide) rfl rfl (by decide) rfl hl.1 rfl (Nat.le_of_ble_eq_true rfl) dL_law_695 ⟨(show 34 + k + 1 ≤ 1079 by omega), (show 3399 + 6 * k + 6 ≤ 11717 by omega)⟩ (fun H locs hP hD hS => ?_)
  have g := p_minutes (C := C) (M := M) (k := k) (f := f) (p1 := (xs (7 * k + 1))) (s1 := (xs (7 * k + 2))) (a1 := (xs (7 * k + 3))) (b1 := (xs (7 * k + 4))) hi
  refine lv_istore (lv' := [(5, .int (thrM (bPc (xs (7 * k + 1))) (bMi (xs (7 * k + 2)) (xs (7 * k + 3)) (xs (7 * k + 4))) (false))), (0, .ref (b)), (1, .ref (a 17)), (2, .ref (u 0)), (3, .ref (o)), (4, .int (nI (7 * k)))]) hx hb dL_law_698 hl (by decide) rfl (fun ls hl => ?_)
  refine lv_aload_n hx hb dL_law_700 rfl (lv_at hl 3 rfl) ?_
  refine lv_aload_n hx hb dL_law_701 rfl (lv_at hl 1 rfl) ?_
  refine lv_iload hx hb dL_law_702 (lv_at hl 5 rfl) ?_
  refine lv_iconst (v := nI 1) hx hb dL_law_704 (by decide) ?_
  refine lv_iadd hx hb dL_law_705 ?_
  refine xtop (y := nI (7 * k + 1)) (nI_add _ _) ?_
  refine xs_ld (i := 7 * k + 1) hx hb hX hbl hL hS (by omega) dL_law_706 ?_
  refine lv_aload_n hx hb dL_law_707 rfl (lv_at hl 1 rfl) ?_
  refine lv_iload hx hb dL_law_708 (lv_at hl 5 rfl) ?_
  refine lv_iconst (v := nI 2) hx hb dL_law_710 (by decide) ?_
  refine lv_iadd hx hb dL_law_711 ?_
  refine xtop (y := nI (7 * k + 2)) (nI_add _ _) ?_
  refine xs_ld (i := 7 * k + 2) hx hb hX hbl hL hS (by omega) dL_law_712 ?_
  refine lv_aload_n hx hb dL_law_713 rfl (lv_at hl 1 rfl) ?_
  refine lv_iload hx hb dL_law_714 (lv_at hl 5 rfl) ?_
  refine lv_iconst (v := nI 3) hx hb dL_law_716 (by decide) ?_
  refine lv_iadd hx hb dL_law_717 ?_
  refine xtop (y := nI (7 * k + 3)) (nI_add _ _) ?_
  refine xs_ld (i := 7 * k + 3) hx hb hX hbl hL hS (by omega) dL_law_718 ?_
  refine lv_aload_n hx hb dL_law_719 rfl (lv_at hl 1 rfl) ?_
  refine lv_iload hx hb dL_law_720 (lv_at hl 5 rfl) ?_
  refine lv_iconst (v := nI 4) hx hb dL_law_722 (by decide) ?_
  refine lv_iadd hx hb dL_law_723 ?_
  refine xtop (y := nI (7 * k + 4)) (nI_add _ _) ?_
  refine xs_ld (i := 7 * k + 4) hx hb hX hbl hL hS (by omega) dL_law_724 ?_
  refine xwV (As := [.int (xs (7 * k + 1)), .int (xs (7 * k + 2)), .int (xs (7 * k + 3)), .int (xs (7 * k + 4))]) (rest := []) (wr := wJ a o cI cZ cL (nxC ((bPc (xs (7 * k + 1))) || (bMi (xs (7 * k + 2)) (xs (7 * k + 3)) (xs (7 * k + 4))) || false) C (C)) (nxF ((bPc (xs (7 * k + 1))) || (bMi (xs (7 * k + 2)) (xs (7 * k + 3)) (xs (7 * k + 4))) || false) f (minCr C (xs (7 * k + 1)) (xs (7 * k + 2)) (xs (7 * k + 3)) (xs (7 * k + 4))).toInt64)) (ws2 := wL a u o cI cZ cL (nxC ((bPc (xs (7 * k + 1))) || (bMi (xs (7 * k + 2)) (xs (7 * k + 3)) (xs (7 * k + 4))) || false) C (C)) (nxF ((bPc (xs (7 * k + 1))) || (bMi (xs (7 * k + 2)) (xs (7 * k + 3)) (xs (7 * k + 4))) || false) f (minCr C (xs (7 * k + 1)) (xs (7 * k + 2)) (xs (7 * k + 3)) (xs (7 * k + 4))).toInt64) (minMs M (xs (7 * k + 1)) (xs (7 * k + 2)) (xs (7 * k + 3)) (xs (7 * k + 4)))) hx hb hml hown ht hN kV_L_107 (r_X4_minutes l D u cI cZ M z.2.2.1 (xs (7 * k + 1)) (xs (7 * k + 2)) (xs (7 * k + 3)) (xs (7 * k + 4))) ⟨Nat.le_of_ble_eq_true rfl, Nat.le_of_ble_eq_true rfl⟩ hP hD hS hK2 [19, 20, 21, 22, 23, 24, 25, 26, 27, 28, 29, 30, 31, 32, 33] [0, 1, 2, 3, 4, 5, 6, 7, 8, 9, 10, 11, 12, 13, 14, 15, 16, 17, 18] [0, 1, 2, 3, 4, 5, 6, 7, 8, 9, 10, 11, 12, 13, 14, 15, 16, 17, 18, 19, 20, 21, 22, 23, 24, 25, 26, 27, 28, 29, 30, 31, 32, 33] rfl rfl (by decide) (by decide) (by decide) rfl rfl (by decide) rfl rfl rfl rfl hl.1 rfl (Nat.le_of_ble_eq_true rfl) dL_law_725 ⟨(show 34 + k + 1 ≤ 1079 by omega), (show 3399 + 6 * k + 6 ≤ 11717 by omega)⟩ (fun H locs hP hD hS => ?_)
  refine lv_istore (lv' := [(6, .int (minMr M (xs (7 * k + 1)) (xs (7 * k + 2)) (xs (7 * k + 3)) (xs (7 * k + 4)))), (5, .int (thrM (bPc (xs (7 * k + 1))) (bMi (xs (7 * k + 2)) (xs (7 * k + 3)) (xs (7 * k + 4))) (false))), (0, .ref (b)), (1, .ref (a 17)), (2, .ref (u 0)), (3, .ref (o)), (4, .int (nI (7 * k)))]) hx hb dL_law_728 hl (by decide) rfl (fun ls hl => ?_)
  refine lv_aload_n hx hb dL_law_730 rfl (lv_at hl 4 rfl) ?_
  refine xrV (As := []) (rest := []) hx hb hml hown ht hN kV_L_74 (r_X4_thrown l D u cI cZ (minMs M (xs (7 * k + 1)) (xs (7 * k + 2)) (xs (7 * k + 3)) (xs (7 * k + 4)))) ⟨Nat.le_of_ble_eq_true rfl, Nat.le_of_ble_eq_true rfl⟩ (xP_sub (isC := [19, 20, 21, 22, 23, 24, 25, 26, 27, 28, 29, 30, 31, 32, 33]) hP rfl) hK2 rfl rfl rfl rfl hl.1 rfl (Nat.le_of_ble_eq_true rfl) dL_law_731 ⟨(show 34 + k + 1 ≤ 1079 by omega), (show 3399 + 6 * k + 6 ≤ 11717 by omega)⟩ ?_
  refine lv_iload hx hb dL_law_734 (lv_at hl 1 rfl) ?_
  refine lv_icmp_eq (tgt := 741) hx hb dL_law_736 (by decide) (fun _ => ?_) (fun h9 => absurd g.2.1 h9)
  refine lv_iload hx hb dL_law_741 (lv_at hl 1 rfl) ?_
  refine lv_if_ne (tgt := 758) hx hb dL_law_743 (by decide) (fun _ => ?_) (fun hz => ?_)
  · skip
    refine lv_goto (tgt := 1137) hx hb dL_law_758 (by decide) ?_
    exact W.widen (k := 34 + (k + 1)) (n := 3399 + 6 * (k + 1)) (by omega) (by omega) (kk _ _ _ _ _ _ g.1 hP hD hS (lv_sub hl [2, 3, 4, 5, 6] rfl))
  · have g2 := g.2.2 hz
    refine lv_aload_n hx hb dL_law_746 rfl (lv_at hl 5 rfl) ?_
    refine lv_iconst (v := nI 0) hx hb dL_law_747 (by decide) ?_
    refine xl_lald hx hb hK hP 18 2 rfl rfl dL_law_748 ?_
    refine lv_iload hx hb dL_law_749 (lv_at hl 0 rfl) ?_
    refine lv_i2l (v := (minMr M (xs (7 * k + 1)) (xs (7 * k + 2)) (xs (7 * k + 3)) (xs (7 * k + 4))).toInt64) hx hb dL_law_751 rfl ?_
    refine xl_lcmp hx hb (g2.trans (by first | rfl | decide)) dL_law_752 ?_
    refine lv_if_eq (tgt := 758) hx hb dL_law_753 (by decide) (fun _ => ?_) (fun h9 => absurd rfl h9)
    refine lv_goto (tgt := 1137) hx hb dL_law_758 (by decide) ?_
    exact W.widen (k := 34 + (k + 1)) (n := 3399 + 6 * (k + 1)) (by omega) (by omega) (kk _ _ _ _ _ _ g.1 hP hD hS (lv_sub hl [2, 3, 4, 5, 6] rfl))
set_option maxHeartbeats 8000000 in
set_option maxRecDepth 100000 in
theorem la_opens (l : Launch) {p : Program} {e : Env} {s : State} {m : MethodId} {below : List Frame} {meth : Method} {cd : Code} {D : va_G} {cI cZ cL : ClassId} {a u : Nat → Nat} {o b L k : Nat} {xs : Nat → Int32} {Q : State → Prop} (hl9 : l.stackTraces = false) (hx : p.tables.exec = Jvm.exec) (hb : cd.code = cL_law) (hml : cd.maxLocals = 7) (hown : s.vm.findClass RL = some m.cls) (ht : ∀ w ∈ wBIG, w.before #[Value.ref b] s = true) (hN : xN s) (hT9 : xT s.heap.size s) (hE : xE s) (hX : va_X b L xs s s.heap) (hbl : b < s.heap.size) (hL : L ≤ 3584) (hK : va_K D vwCl (tyJ cI cZ cL) s) (hk : 7 * k + 7 ≤ L)
    (kk : ∀ (C : CS) (M : MS) (f : Nat → Int64) (H : Heap) (locs : List Loc) (ls : Array Slot), inv C M (k + 1) → va_P D vwCl (wL a u o cI cZ cL C f M) H → va_D (fun q => s.heap.size ≤ q) (wL a u o cI cZ cL C f M) → va_S (fun q => s.heap.size ≤ q) s.heap H locs → lv_has ls 7 [(0, .ref b), (1, .ref (a 17)), (2, .ref (u 0)), (3, .ref o), (4, .int (nI (7 * k)))] → W p l e room_1 s m #[Value.ref b] below meth cd H locs (34 + (k + 1)) (3399 + 6 * (k + 1)) Q (F0 m 1137 ls []))
    {C : CS} {M : MS} {f : Nat → Int64} {H : Heap} {locs : List Loc} (hi : inv C M k) (hP : va_P D vwCl (wL a u o cI cZ cL C f M) H) (hD : va_D (fun q => s.heap.size ≤ q) (wL a u o cI cZ cL C f M)) (hS : va_S (fun q => s.heap.size ≤ q) s.heap H locs) {ls : Array Slot} (hl : lv_has ls 7 [(0, .ref b), (1, .ref (a 17)), (2, .ref (u 0)), (3, .ref o), (4, .int (nI (7 * k)))]) :
    W p l e room_1 s m #[Value.ref b] below meth cd H locs (34 + k) (3399 + 6 * k) Q (F0 m 761 ls []) := by
  have hK2 := hK.sub (tys' := tyL cI cZ) [0, 1] rfl
  have z := hi.c (by omega)
  refine lv_aload_n hx hb dL_law_761 rfl (lv_at hl 1 rfl) ?_
  refine lv_aload_n hx hb dL_law_762 rfl (lv_at hl 0 rfl) ?_
  refine lv_iload hx hb dL_law_763 (lv_at hl 4 rfl) ?_
  refine lv_iconst (v := nI 1) hx hb dL_law_765 (by decide) ?_
  refine lv_iadd hx hb dL_law_766 ?_
  refine xtop (y := nI (7 * k + 1)) (nI_add _ _) ?_
  refine xs_ld (i := 7 * k + 1) hx hb hX hbl hL hS (by omega) dL_law_767 ?_
  refine lv_aload_n hx hb dL_law_768 rfl (lv_at hl 0 rfl) ?_
  refine lv_iload hx hb dL_law_769 (lv_at hl 4 rfl) ?_
  refine lv_iconst (v := nI 2) hx hb dL_law_771 (by decide) ?_
  refine lv_iadd hx hb dL_law_772 ?_
  refine xtop (y := nI (7 * k + 2)) (nI_add _ _) ?_
  refine xs_ld (i := 7 * k + 2) hx hb hX hbl hL hS (by omega) dL_law_773 ?_
  refine lv_aload_n hx hb dL_law_774 rfl (lv_at hl 0 rfl) ?_
  refine lv_iload hx hb dL_law_775 (lv_at hl 4 rfl) ?_
  refine lv_iconst (v := nI 3) hx hb dL_law_777 (by decide) ?_
  refine lv_iadd hx hb dL_law_778 ?_
  refine xtop (y := nI (7 * k + 3)) (nI_add _ _) ?_
  refine xs_ld (i := 7 * k + 3) hx hb hX hbl hL hS (by omega) dL_law_779 ?_
  refine lv_aload_n hx hb dL_law_780 rfl (lv_at hl 3 rfl) ?_
  refine xwL (As := [.ref (a 17), .int (xs (7 * k + 1)), .int (xs (7 * k + 2)), .int (xs (7 * k + 3)), .ref (o)]) (rest := []) (wr := wM u cI cZ M) (ws2 := wL a u o cI cZ cL (nxC ((bPc (xs (7 * k + 1))) || (bSt (xs (7 * k + 2)) (xs (7 * k + 3))) || false) C (C)) (nxF ((bPc (xs (7 * k + 1))) || (bSt (xs (7 * k + 2)) (xs (7 * k + 3))) || false) f (opCr C (xs (7 * k + 1)) (xs (7 * k + 2)) (xs (7 * k + 3))).toInt64) M) hx hb hml hown ht hN hT9 hE kW_108 (w_opens l D hl9 s.heap.size a o cI cZ cL C z.1 z.2.1 f (xs (7 * k + 1)) (xs (7 * k + 2)) (xs (7 * k + 3))) ⟨Nat.le_of_ble_eq_true rfl, Nat.le_of_ble_eq_true rfl⟩ hP hD hS hK [0, 1, 2, 3, 4, 5, 6, 7, 8, 9, 10, 11, 12, 13, 14, 15, 16, 17, 18] [19, 20, 21, 22, 23, 24, 25, 26, 27, 28, 29, 30, 31, 32, 33] [15, 16, 17, 18, 19, 20, 21, 22, 23, 24, 25, 26, 27, 28, 29, 30, 31, 32, 33, 0, 1, 2, 3, 4, 5, 6, 7, 8, 9, 10, 11, 12, 13, 14] rfl rfl (by decide) (by decide) (by decide) rfl rfl (by decide) rfl hl.1 rfl (Nat.le_of_ble_eq_true rfl) dL_law_781 ⟨(show 34 + k + 1 ≤ 1079 by omega), (show 3399 + 6 * k + 6 ≤ 11717 by omega)⟩ (fun H locs hP hD hS => ?_)
  have g := p_opens (C := C) (M := M) (k := k) (f := f) (p1 := (xs (7 * k + 1))) (s1 := (xs (7 * k + 2))) (t1 := (xs (7 * k + 3))) hi
  refine lv_istore (lv' := [(5, .int (thrM (bPc (xs (7 * k + 1))) (bSt (xs (7 * k + 2)) (xs (7 * k + 3))) (false))), (0, .ref (b)), (1, .ref (a 17)), (2, .ref (u 0)), (3, .ref (o)), (4, .int (nI (7 * k)))]) hx hb dL_law_784 hl (by decide) rfl (fun ls hl => ?_)
  refine lv_aload_n hx hb dL_law_786 rfl (lv_at hl 3 rfl) ?_
  refine lv_aload_n hx hb dL_law_787 rfl (lv_at hl 1 rfl) ?_
  refine lv_iload hx hb dL_law_788 (lv_at hl 5 rfl) ?_
  refine lv_iconst (v := nI 1) hx hb dL_law_790 (by decide) ?_
  refine lv_iadd hx hb dL_law_791 ?_
  refine xtop (y := nI (7 * k + 1)) (nI_add _ _) ?_
  refine xs_ld (i := 7 * k + 1) hx hb hX hbl hL hS (by omega) dL_law_792 ?_
  refine lv_aload_n hx hb dL_law_793 rfl (lv_at hl 1 rfl) ?_
  refine lv_iload hx hb dL_law_794 (lv_at hl 5 rfl) ?_
  refine lv_iconst (v := nI 2) hx hb dL_law_796 (by decide) ?_
  refine lv_iadd hx hb dL_law_797 ?_
  refine xtop (y := nI (7 * k + 2)) (nI_add _ _) ?_
  refine xs_ld (i := 7 * k + 2) hx hb hX hbl hL hS (by omega) dL_law_798 ?_
  refine lv_aload_n hx hb dL_law_799 rfl (lv_at hl 1 rfl) ?_
  refine lv_iload hx hb dL_law_800 (lv_at hl 5 rfl) ?_
  refine lv_iconst (v := nI 3) hx hb dL_law_802 (by decide) ?_
  refine lv_iadd hx hb dL_law_803 ?_
  refine xtop (y := nI (7 * k + 3)) (nI_add _ _) ?_
  refine xs_ld (i := 7 * k + 3) hx hb hX hbl hL hS (by omega) dL_law_804 ?_
  refine xwV (As := [.int (xs (7 * k + 1)), .int (xs (7 * k + 2)), .int (xs (7 * k + 3))]) (rest := []) (wr := wJ a o cI cZ cL (nxC ((bPc (xs (7 * k + 1))) || (bSt (xs (7 * k + 2)) (xs (7 * k + 3))) || false) C (C)) (nxF ((bPc (xs (7 * k + 1))) || (bSt (xs (7 * k + 2)) (xs (7 * k + 3))) || false) f (opCr C (xs (7 * k + 1)) (xs (7 * k + 2)) (xs (7 * k + 3))).toInt64)) (ws2 := wL a u o cI cZ cL (nxC ((bPc (xs (7 * k + 1))) || (bSt (xs (7 * k + 2)) (xs (7 * k + 3))) || false) C (C)) (nxF ((bPc (xs (7 * k + 1))) || (bSt (xs (7 * k + 2)) (xs (7 * k + 3))) || false) f (opCr C (xs (7 * k + 1)) (xs (7 * k + 2)) (xs (7 * k + 3))).toInt64) (closedMs M (xs (7 * k + 1)) (xs (7 * k + 2)) (xs (7 * k + 3)))) hx hb hml hown ht hN kV_L_110 (r_X4_opens l D u cI cZ M z.2.2.1 (xs (7 * k + 1)) (xs (7 * k + 2)) (xs (7 * k + 3))) ⟨Nat.le_of_ble_eq_true rfl, Nat.le_of_ble_eq_true rfl⟩ hP hD hS hK2 [19, 20, 21, 22, 23, 24, 25, 26, 27, 28, 29, 30, 31, 32, 33] [0, 1, 2, 3, 4, 5, 6, 7, 8, 9, 10, 11, 12, 13, 14, 15, 16, 17, 18] [0, 1, 2, 3, 4, 5, 6, 7, 8, 9, 10, 11, 12, 13, 14, 15, 16, 17, 18, 19, 20, 21, 22, 23, 24, 25, 26, 27, 28, 29, 30, 31, 32, 33] rfl rfl (by decide) (by decide) (by decide) rfl rfl (by decide) rfl rfl rfl rfl hl.1 rfl (Nat.le_of_ble_eq_true rfl) dL_law_805 ⟨(show 34 + k + 1 ≤ 1079 by omega), (show 3399 + 6 * k + 6 ≤ 11717 by omega)⟩ (fun H locs hP hD hS => ?_)
  refine lv_istore (lv' := [(6, .int (opensMr M (xs (7 * k + 1)) (xs (7 * k + 2)) (xs (7 * k + 3)))), (5, .int (thrM (bPc (xs (7 * k + 1))) (bSt (xs (7 * k + 2)) (xs (7 * k + 3))) (false))), (0, .ref (b)), (1, .ref (a 17)), (2, .ref (u 0)), (3, .ref (o)), (4, .int (nI (7 * k)))]) hx hb dL_law_808 hl (by decide) rfl (fun ls hl => ?_)
  refine lv_aload_n hx hb dL_law_810 rfl (lv_at hl 4 rfl) ?_
  refine xrV (As := []) (rest := []) hx hb hml hown ht hN kV_L_74 (r_X4_thrown l D u cI cZ (closedMs M (xs (7 * k + 1)) (xs (7 * k + 2)) (xs (7 * k + 3)))) ⟨Nat.le_of_ble_eq_true rfl, Nat.le_of_ble_eq_true rfl⟩ (xP_sub (isC := [19, 20, 21, 22, 23, 24, 25, 26, 27, 28, 29, 30, 31, 32, 33]) hP rfl) hK2 rfl rfl rfl rfl hl.1 rfl (Nat.le_of_ble_eq_true rfl) dL_law_811 ⟨(show 34 + k + 1 ≤ 1079 by omega), (show 3399 + 6 * k + 6 ≤ 11717 by omega)⟩ ?_
  refine lv_iload hx hb dL_law_814 (lv_at hl 1 rfl) ?_
  refine lv_icmp_eq (tgt := 821) hx hb dL_law_816 (by decide) (fun _ => ?_) (fun h9 => absurd g.2.1 h9)
  refine lv_iload hx hb dL_law_821 (lv_at hl 1 rfl) ?_
  refine lv_if_ne (tgt := 838) hx hb dL_law_823 (by decide) (fun _ => ?_) (fun hz => ?_)
  · skip
    refine lv_goto (tgt := 1137) hx hb dL_law_838 (by decide) ?_
    exact W.widen (k := 34 + (k + 1)) (n := 3399 + 6 * (k + 1)) (by omega) (by omega) (kk _ _ _ _ _ _ g.1 hP hD hS (lv_sub hl [2, 3, 4, 5, 6] rfl))
  · have g2 := g.2.2 hz
    refine lv_aload_n hx hb dL_law_826 rfl (lv_at hl 5 rfl) ?_
    refine lv_iconst (v := nI 0) hx hb dL_law_827 (by decide) ?_
    refine xl_lald hx hb hK hP 18 2 rfl rfl dL_law_828 ?_
    refine lv_iload hx hb dL_law_829 (lv_at hl 0 rfl) ?_
    refine lv_i2l (v := (opensMr M (xs (7 * k + 1)) (xs (7 * k + 2)) (xs (7 * k + 3))).toInt64) hx hb dL_law_831 rfl ?_
    refine xl_lcmp hx hb (g2.trans (by first | rfl | decide)) dL_law_832 ?_
    refine lv_if_eq (tgt := 838) hx hb dL_law_833 (by decide) (fun _ => ?_) (fun h9 => absurd rfl h9)
    refine lv_goto (tgt := 1137) hx hb dL_law_838 (by decide) ?_
    exact W.widen (k := 34 + (k + 1)) (n := 3399 + 6 * (k + 1)) (by omega) (by omega) (kk _ _ _ _ _ _ g.1 hP hD hS (lv_sub hl [2, 3, 4, 5, 6] rfl))
set_option maxHeartbeats 8000000 in
set_option maxRecDepth 100000 in
theorem la_reason (l : Launch) {p : Program} {e : Env} {s : State} {m : MethodId} {below : List Frame} {meth : Method} {cd : Code} {D : va_G} {cI cZ cL : ClassId} {a u : Nat → Nat} {o b L k : Nat} {xs : Nat → Int32} {Q : State → Prop} (hl9 : l.stackTraces = false) (hx : p.tables.exec = Jvm.exec) (hb : cd.code = cL_law) (hml : cd.maxLocals = 7) (hown : s.vm.findClass RL = some m.cls) (ht : ∀ w ∈ wBIG, w.before #[Value.ref b] s = true) (hN : xN s) (hT9 : xT s.heap.size s) (hE : xE s) (hX : va_X b L xs s s.heap) (hbl : b < s.heap.size) (hL : L ≤ 3584) (hK : va_K D vwCl (tyJ cI cZ cL) s) (hk : 7 * k + 7 ≤ L)
    (kk : ∀ (C : CS) (M : MS) (f : Nat → Int64) (H : Heap) (locs : List Loc) (ls : Array Slot), inv C M (k + 1) → va_P D vwCl (wL a u o cI cZ cL C f M) H → va_D (fun q => s.heap.size ≤ q) (wL a u o cI cZ cL C f M) → va_S (fun q => s.heap.size ≤ q) s.heap H locs → lv_has ls 7 [(0, .ref b), (1, .ref (a 17)), (2, .ref (u 0)), (3, .ref o), (4, .int (nI (7 * k)))] → W p l e room_1 s m #[Value.ref b] below meth cd H locs (34 + (k + 1)) (3399 + 6 * (k + 1)) Q (F0 m 1137 ls []))
    {C : CS} {M : MS} {f : Nat → Int64} {H : Heap} {locs : List Loc} (hi : inv C M k) (hP : va_P D vwCl (wL a u o cI cZ cL C f M) H) (hD : va_D (fun q => s.heap.size ≤ q) (wL a u o cI cZ cL C f M)) (hS : va_S (fun q => s.heap.size ≤ q) s.heap H locs) {ls : Array Slot} (hl : lv_has ls 7 [(0, .ref b), (1, .ref (a 17)), (2, .ref (u 0)), (3, .ref o), (4, .int (nI (7 * k)))]) :
    W p l e room_1 s m #[Value.ref b] below meth cd H locs (34 + k) (3399 + 6 * k) Q (F0 m 841 ls []) := by
  have hK2 := hK.sub (tys' := tyL cI cZ) [0, 1] rfl
  have z := hi.c (by omega)
  refine lv_aload_n hx hb dL_law_841 rfl (lv_at hl 1 rfl) ?_
  refine lv_aload_n hx hb dL_law_842 rfl (lv_at hl 0 rfl) ?_
  refine lv_iload hx hb dL_law_843 (lv_at hl 4 rfl) ?_
  refine lv_iconst (v := nI 1) hx hb dL_law_845 (by decide) ?_
  refine lv_iadd hx hb dL_law_846 ?_
  refine xtop (y := nI (7 * k + 1)) (nI_add _ _) ?_
  refine xs_ld (i := 7 * k + 1) hx hb hX hbl hL hS (by omega) dL_law_847 ?_
  refine lv_aload_n hx hb dL_law_848 rfl (lv_at hl 0 rfl) ?_
  refine lv_iload hx hb dL_law_849 (lv_at hl 4 rfl) ?_
  refine lv_iconst (v := nI 2) hx hb dL_law_851 (by decide) ?_
  refine lv_iadd hx hb dL_law_852 ?_
  refine xtop (y := nI (7 * k + 2)) (nI_add _ _) ?_
  refine xs_ld (i := 7 * k + 2) hx hb hX hbl hL hS (by omega) dL_law_853 ?_
  refine lv_aload_n hx hb dL_law_854 rfl (lv_at hl 0 rfl) ?_
  refine lv_iload hx hb dL_law_855 (lv_at hl 4 rfl) ?_
  refine lv_iconst (v := nI 3) hx hb dL_law_857 (by decide) ?_
  refine lv_iadd hx hb dL_law_858 ?_
  refine xtop (y := nI (7 * k + 3)) (nI_add _ _) ?_
  refine xs_ld (i := 7 * k + 3) hx hb hX hbl hL hS (by omega) dL_law_859 ?_
  refine lv_aload_n hx hb dL_law_860 rfl (lv_at hl 0 rfl) ?_
  refine lv_iload hx hb dL_law_861 (lv_at hl 4 rfl) ?_
  refine lv_iconst (v := nI 4) hx hb dL_law_863 (by decide) ?_
  refine lv_iadd hx hb dL_law_864 ?_
  refine xtop (y := nI (7 * k + 4)) (nI_add _ _) ?_
  refine xs_ld (i := 7 * k + 4) hx hb hX hbl hL hS (by omega) dL_law_865 ?_
  refine lv_aload_n hx hb dL_law_866 rfl (lv_at hl 3 rfl) ?_
  refine xwL (As := [.ref (a 17), .int (xs (7 * k + 1)), .int (xs (7 * k + 2)), .int (xs (7 * k + 3)), .int (xs (7 * k + 4)), .ref (o)]) (rest := []) (wr := wM u cI cZ M) (ws2 := wL a u o cI cZ cL (nxC ((bPc (xs (7 * k + 1))) || (bRe (xs (7 * k + 2)) (xs (7 * k + 3)) (xs (7 * k + 4))) || false) C (C)) (nxF ((bPc (xs (7 * k + 1))) || (bRe (xs (7 * k + 2)) (xs (7 * k + 3)) (xs (7 * k + 4))) || false) f (holdingK (cK C) (plI (xs (7 * k + 1)) (xs (7 * k + 2))) (xs (7 * k + 3)) (xs (7 * k + 4))).toInt64) M) hx hb hml hown ht hN hT9 hE kW_111 (w_reason l D hl9 s.heap.size a o cI cZ cL C z.1 f (xs (7 * k + 1)) (xs (7 * k + 2)) (xs (7 * k + 3)) (xs (7 * k + 4))) ⟨Nat.le_of_ble_eq_true rfl, Nat.le_of_ble_eq_true rfl⟩ hP hD hS hK [0, 1, 2, 3, 4, 5, 6, 7, 8, 9, 10, 11, 12, 13, 14, 15, 16, 17, 18] [19, 20, 21, 22, 23, 24, 25, 26, 27, 28, 29, 30, 31, 32, 33] [15, 16, 17, 18, 19, 20, 21, 22, 23, 24, 25, 26, 27, 28, 29, 30, 31, 32, 33, 0, 1, 2, 3, 4, 5, 6, 7, 8, 9, 10, 11, 12, 13, 14] rfl rfl (by decide) (by decide) (by decide) rfl rfl (by decide) rfl hl.1 rfl (Nat.le_of_ble_eq_true rfl) dL_law_867 ⟨(show 34 + k + 1 ≤ 1079 by omega), (show 3399 + 6 * k + 6 ≤ 11717 by omega)⟩ (fun H locs hP hD hS => ?_)
  have g := p_reason (C := C) (M := M) (k := k) (f := f) (p1 := (xs (7 * k + 1))) (s1 := (xs (7 * k + 2))) (t1 := (xs (7 * k + 3))) (i1 := (xs (7 * k + 4))) hi
  refine lv_istore (lv' := [(5, .int (thrM (bPc (xs (7 * k + 1))) (bRe (xs (7 * k + 2)) (xs (7 * k + 3)) (xs (7 * k + 4))) (false))), (0, .ref (b)), (1, .ref (a 17)), (2, .ref (u 0)), (3, .ref (o)), (4, .int (nI (7 * k)))]) hx hb dL_law_870 hl (by decide) rfl (fun ls hl => ?_)
  refine lv_aload_n hx hb dL_law_872 rfl (lv_at hl 3 rfl) ?_
  refine lv_aload_n hx hb dL_law_873 rfl (lv_at hl 1 rfl) ?_
  refine lv_iload hx hb dL_law_874 (lv_at hl 5 rfl) ?_
  refine lv_iconst (v := nI 1) hx hb dL_law_876 (by decide) ?_
  refine lv_iadd hx hb dL_law_877 ?_
  refine xtop (y := nI (7 * k + 1)) (nI_add _ _) ?_
  refine xs_ld (i := 7 * k + 1) hx hb hX hbl hL hS (by omega) dL_law_878 ?_
  refine lv_aload_n hx hb dL_law_879 rfl (lv_at hl 1 rfl) ?_
  refine lv_iload hx hb dL_law_880 (lv_at hl 5 rfl) ?_
  refine lv_iconst (v := nI 2) hx hb dL_law_882 (by decide) ?_
  refine lv_iadd hx hb dL_law_883 ?_
  refine xtop (y := nI (7 * k + 2)) (nI_add _ _) ?_
  refine xs_ld (i := 7 * k + 2) hx hb hX hbl hL hS (by omega) dL_law_884 ?_
  refine lv_aload_n hx hb dL_law_885 rfl (lv_at hl 1 rfl) ?_
  refine lv_iload hx hb dL_law_886 (lv_at hl 5 rfl) ?_
  refine lv_iconst (v := nI 3) hx hb dL_law_888 (by decide) ?_
  refine lv_iadd hx hb dL_law_889 ?_
  refine xtop (y := nI (7 * k + 3)) (nI_add _ _) ?_
  refine xs_ld (i := 7 * k + 3) hx hb hX hbl hL hS (by omega) dL_law_890 ?_
  refine lv_aload_n hx hb dL_law_891 rfl (lv_at hl 1 rfl) ?_
  refine lv_iload hx hb dL_law_892 (lv_at hl 5 rfl) ?_
  refine lv_iconst (v := nI 4) hx hb dL_law_894 (by decide) ?_
  refine lv_iadd hx hb dL_law_895 ?_
  refine xtop (y := nI (7 * k + 4)) (nI_add _ _) ?_
  refine xs_ld (i := 7 * k + 4) hx hb hX hbl hL hS (by omega) dL_law_896 ?_
  refine xwV (As := [.int (xs (7 * k + 1)), .int (xs (7 * k + 2)), .int (xs (7 * k + 3)), .int (xs (7 * k + 4))]) (rest := []) (wr := wJ a o cI cZ cL (nxC ((bPc (xs (7 * k + 1))) || (bRe (xs (7 * k + 2)) (xs (7 * k + 3)) (xs (7 * k + 4))) || false) C (C)) (nxF ((bPc (xs (7 * k + 1))) || (bRe (xs (7 * k + 2)) (xs (7 * k + 3)) (xs (7 * k + 4))) || false) f (holdingK (cK C) (plI (xs (7 * k + 1)) (xs (7 * k + 2))) (xs (7 * k + 3)) (xs (7 * k + 4))).toInt64)) (ws2 := wL a u o cI cZ cL (nxC ((bPc (xs (7 * k + 1))) || (bRe (xs (7 * k + 2)) (xs (7 * k + 3)) (xs (7 * k + 4))) || false) C (C)) (nxF ((bPc (xs (7 * k + 1))) || (bRe (xs (7 * k + 2)) (xs (7 * k + 3)) (xs (7 * k + 4))) || false) f (holdingK (cK C) (plI (xs (7 * k + 1)) (xs (7 * k + 2))) (xs (7 * k + 3)) (xs (7 * k + 4))).toInt64) (reasMs M (xs (7 * k + 1)) (xs (7 * k + 2)) (xs (7 * k + 3)) (xs (7 * k + 4)))) hx hb hml hown ht hN kV_L_113 (r_X4_reason l D u cI cZ M z.2.2.1 (xs (7 * k + 1)) (xs (7 * k + 2)) (xs (7 * k + 3)) (xs (7 * k + 4))) ⟨Nat.le_of_ble_eq_true rfl, Nat.le_of_ble_eq_true rfl⟩ hP hD hS hK2 [19, 20, 21, 22, 23, 24, 25, 26, 27, 28, 29, 30, 31, 32, 33] [0, 1, 2, 3, 4, 5, 6, 7, 8, 9, 10, 11, 12, 13, 14, 15, 16, 17, 18] [0, 1, 2, 3, 4, 5, 6, 7, 8, 9, 10, 11, 12, 13, 14, 15, 16, 17, 18, 19, 20, 21, 22, 23, 24, 25, 26, 27, 28, 29, 30, 31, 32, 33] rfl rfl (by decide) (by decide) (by decide) rfl rfl (by decide) rfl rfl rfl rfl hl.1 rfl (Nat.le_of_ble_eq_true rfl) dL_law_897 ⟨(show 34 + k + 1 ≤ 1079 by omega), (show 3399 + 6 * k + 6 ≤ 11717 by omega)⟩ (fun H locs hP hD hS => ?_)
  refine lv_istore (lv' := [(6, .int (reasMr M (xs (7 * k + 1)) (xs (7 * k + 2)) (xs (7 * k + 3)) (xs (7 * k + 4)))), (5, .int (thrM (bPc (xs (7 * k + 1))) (bRe (xs (7 * k + 2)) (xs (7 * k + 3)) (xs (7 * k + 4))) (false))), (0, .ref (b)), (1, .ref (a 17)), (2, .ref (u 0)), (3, .ref (o)), (4, .int (nI (7 * k)))]) hx hb dL_law_900 hl (by decide) rfl (fun ls hl => ?_)
  refine lv_aload_n hx hb dL_law_902 rfl (lv_at hl 4 rfl) ?_
  refine xrV (As := []) (rest := []) hx hb hml hown ht hN kV_L_74 (r_X4_thrown l D u cI cZ (reasMs M (xs (7 * k + 1)) (xs (7 * k + 2)) (xs (7 * k + 3)) (xs (7 * k + 4)))) ⟨Nat.le_of_ble_eq_true rfl, Nat.le_of_ble_eq_true rfl⟩ (xP_sub (isC := [19, 20, 21, 22, 23, 24, 25, 26, 27, 28, 29, 30, 31, 32, 33]) hP rfl) hK2 rfl rfl rfl rfl hl.1 rfl (Nat.le_of_ble_eq_true rfl) dL_law_903 ⟨(show 34 + k + 1 ≤ 1079 by omega), (show 3399 + 6 * k + 6 ≤ 11717 by omega)⟩ ?_
  refine lv_iload hx hb dL_law_906 (lv_at hl 1 rfl) ?_
  refine lv_icmp_eq (tgt := 913) hx hb dL_law_908 (by decide) (fun _ => ?_) (fun h9 => absurd g.2.1 h9)
  refine lv_iload hx hb dL_law_913 (lv_at hl 1 rfl) ?_
  refine lv_if_ne (tgt := 930) hx hb dL_law_915 (by decide) (fun _ => ?_) (fun hz => ?_)
  · skip
    refine lv_goto (tgt := 1137) hx hb dL_law_930 (by decide) ?_
    exact W.widen (k := 34 + (k + 1)) (n := 3399 + 6 * (k + 1)) (by omega) (by omega) (kk _ _ _ _ _ _ g.1 hP hD hS (lv_sub hl [2, 3, 4, 5, 6] rfl))
  · have g2 := g.2.2 hz
    refine lv_aload_n hx hb dL_law_918 rfl (lv_at hl 5 rfl) ?_
    refine lv_iconst (v := nI 0) hx hb dL_law_919 (by decide) ?_
    refine xl_lald hx hb hK hP 18 2 rfl rfl dL_law_920 ?_
    refine lv_iload hx hb dL_law_921 (lv_at hl 0 rfl) ?_
    refine lv_i2l (v := (reasMr M (xs (7 * k + 1)) (xs (7 * k + 2)) (xs (7 * k + 3)) (xs (7 * k + 4))).toInt64) hx hb dL_law_923 rfl ?_
    refine xl_lcmp hx hb (g2.trans (by first | rfl | decide)) dL_law_924 ?_
    refine lv_if_eq (tgt := 930) hx hb dL_law_925 (by decide) (fun _ => ?_) (fun h9 => absurd rfl h9)
    refine lv_goto (tgt := 1137) hx hb dL_law_930 (by decide) ?_
    exact W.widen (k := 34 + (k + 1)) (n := 3399 + 6 * (k + 1)) (by omega) (by omega) (kk _ _ _ _ _ _ g.1 hP hD hS (lv_sub hl [2, 3, 4, 5, 6] rfl))
set_option maxHeartbeats 8000000 in
set_option maxRecDepth 100000 in
theorem la_speed (l : Launch) {p : Program} {e : Env} {s : State} {m : MethodId} {below : List Frame} {meth : Method} {cd : Code} {D : va_G} {cI cZ cL : ClassId} {a u : Nat → Nat} {o b L k : Nat} {xs : Nat → Int32} {Q : State → Prop} (hl9 : l.stackTraces = false) (hx : p.tables.exec = Jvm.exec) (hb : cd.code = cL_law) (hml : cd.maxLocals = 7) (hown : s.vm.findClass RL = some m.cls) (ht : ∀ w ∈ wBIG, w.before #[Value.ref b] s = true) (hN : xN s) (hT9 : xT s.heap.size s) (hE : xE s) (hX : va_X b L xs s s.heap) (hbl : b < s.heap.size) (hL : L ≤ 3584) (hK : va_K D vwCl (tyJ cI cZ cL) s) (hk : 7 * k + 7 ≤ L)
    (kk : ∀ (C : CS) (M : MS) (f : Nat → Int64) (H : Heap) (locs : List Loc) (ls : Array Slot), inv C M (k + 1) → va_P D vwCl (wL a u o cI cZ cL C f M) H → va_D (fun q => s.heap.size ≤ q) (wL a u o cI cZ cL C f M) → va_S (fun q => s.heap.size ≤ q) s.heap H locs → lv_has ls 7 [(0, .ref b), (1, .ref (a 17)), (2, .ref (u 0)), (3, .ref o), (4, .int (nI (7 * k)))] → W p l e room_1 s m #[Value.ref b] below meth cd H locs (34 + (k + 1)) (3399 + 6 * (k + 1)) Q (F0 m 1137 ls []))
    {C : CS} {M : MS} {f : Nat → Int64} {H : Heap} {locs : List Loc} (hi : inv C M k) (hP : va_P D vwCl (wL a u o cI cZ cL C f M) H) (hD : va_D (fun q => s.heap.size ≤ q) (wL a u o cI cZ cL C f M)) (hS : va_S (fun q => s.heap.size ≤ q) s.heap H locs) {ls : Array Slot} (hl : lv_has ls 7 [(0, .ref b), (1, .ref (a 17)), (2, .ref (u 0)), (3, .ref o), (4, .int (nI (7 * k)))]) :
    W p l e room_1 s m #[Value.ref b] below meth cd H locs (34 + k) (3399 + 6 * k) Q (F0 m 933 ls []) := by
  have hK2 := hK.sub (tys' := tyL cI cZ) [0, 1] rfl
  have z := hi.c (by omega)
  refine lv_aload_n hx hb dL_law_933 rfl (lv_at hl 1 rfl) ?_
  refine lv_aload_n hx hb dL_law_934 rfl (lv_at hl 0 rfl) ?_
  refine lv_iload hx hb dL_law_935 (lv_at hl 4 rfl) ?_
  refine lv_iconst (v := nI 1) hx hb dL_law_937 (by decide) ?_
  refine lv_iadd hx hb dL_law_938 ?_
  refine xtop (y := nI (7 * k + 1)) (nI_add _ _) ?_
  refine xs_ld (i := 7 * k + 1) hx hb hX hbl hL hS (by omega) dL_law_939 ?_
  refine lv_aload_n hx hb dL_law_940 rfl (lv_at hl 0 rfl) ?_
  refine lv_iload hx hb dL_law_941 (lv_at hl 4 rfl) ?_
  refine lv_iconst (v := nI 2) hx hb dL_law_943 (by decide) ?_
  refine lv_iadd hx hb dL_law_944 ?_
  refine xtop (y := nI (7 * k + 2)) (nI_add _ _) ?_
  refine xs_ld (i := 7 * k + 2) hx hb hX hbl hL hS (by omega) dL_law_945 ?_
  refine lv_aload_n hx hb dL_law_946 rfl (lv_at hl 0 rfl) ?_
  refine lv_iload hx hb dL_law_947 (lv_at hl 4 rfl) ?_
  refine lv_iconst (v := nI 3) hx hb dL_law_949 (by decide) ?_
  refine lv_iadd hx hb dL_law_950 ?_
  refine xtop (y := nI (7 * k + 3)) (nI_add _ _) ?_
  refine xs_ld (i := 7 * k + 3) hx hb hX hbl hL hS (by omega) dL_law_951 ?_
  refine lv_aload_n hx hb dL_law_952 rfl (lv_at hl 3 rfl) ?_
  refine xwL (As := [.ref (a 17), .int (xs (7 * k + 1)), .int (xs (7 * k + 2)), .int (xs (7 * k + 3)), .ref (o)]) (rest := []) (wr := wM u cI cZ M) (ws2 := wL a u o cI cZ cL (nxC ((bPc (xs (7 * k + 1))) || (bSt (xs (7 * k + 2)) (xs (7 * k + 3))) || false) C (C)) (nxF ((bPc (xs (7 * k + 1))) || (bSt (xs (7 * k + 2)) (xs (7 * k + 3))) || false) f (percentK (cK C) (plI (xs (7 * k + 1)) (xs (7 * k + 2))) (xs (7 * k + 3))).toInt64) M) hx hb hml hown ht hN hT9 hE kW_114 (w_speed l D hl9 s.heap.size a o cI cZ cL C z.1 f (xs (7 * k + 1)) (xs (7 * k + 2)) (xs (7 * k + 3))) ⟨Nat.le_of_ble_eq_true rfl, Nat.le_of_ble_eq_true rfl⟩ hP hD hS hK [0, 1, 2, 3, 4, 5, 6, 7, 8, 9, 10, 11, 12, 13, 14, 15, 16, 17, 18] [19, 20, 21, 22, 23, 24, 25, 26, 27, 28, 29, 30, 31, 32, 33] [15, 16, 17, 18, 19, 20, 21, 22, 23, 24, 25, 26, 27, 28, 29, 30, 31, 32, 33, 0, 1, 2, 3, 4, 5, 6, 7, 8, 9, 10, 11, 12, 13, 14] rfl rfl (by decide) (by decide) (by decide) rfl rfl (by decide) rfl hl.1 rfl (Nat.le_of_ble_eq_true rfl) dL_law_953 ⟨(show 34 + k + 1 ≤ 1079 by omega), (show 3399 + 6 * k + 6 ≤ 11717 by omega)⟩ (fun H locs hP hD hS => ?_)
  have g := p_speed (C := C) (M := M) (k := k) (f := f) (p1 := (xs (7 * k + 1))) (s1 := (xs (7 * k + 2))) (t1 := (xs (7 * k + 3))) hi
  refine lv_istore (lv' := [(5, .int (thrM (bPc (xs (7 * k + 1))) (bSt (xs (7 * k + 2)) (xs (7 * k + 3))) (false))), (0, .ref (b)), (1, .ref (a 17)), (2, .ref (u 0)), (3, .ref (o)), (4, .int (nI (7 * k)))]) hx hb dL_law_956 hl (by decide) rfl (fun ls hl => ?_)
  refine lv_aload_n hx hb dL_law_958 rfl (lv_at hl 3 rfl) ?_
  refine lv_aload_n hx hb dL_law_959 rfl (lv_at hl 1 rfl) ?_
  refine lv_iload hx hb dL_law_960 (lv_at hl 5 rfl) ?_
  refine lv_iconst (v := nI 1) hx hb dL_law_962 (by decide) ?_
  refine lv_iadd hx hb dL_law_963 ?_
  refine xtop (y := nI (7 * k + 1)) (nI_add _ _) ?_
  refine xs_ld (i := 7 * k + 1) hx hb hX hbl hL hS (by omega) dL_law_964 ?_
  refine lv_aload_n hx hb dL_law_965 rfl (lv_at hl 1 rfl) ?_
  refine lv_iload hx hb dL_law_966 (lv_at hl 5 rfl) ?_
  refine lv_iconst (v := nI 2) hx hb dL_law_968 (by decide) ?_
  refine lv_iadd hx hb dL_law_969 ?_
  refine xtop (y := nI (7 * k + 2)) (nI_add _ _) ?_
  refine xs_ld (i := 7 * k + 2) hx hb hX hbl hL hS (by omega) dL_law_970 ?_
  refine lv_aload_n hx hb dL_law_971 rfl (lv_at hl 1 rfl) ?_
  refine lv_iload hx hb dL_law_972 (lv_at hl 5 rfl) ?_
  refine lv_iconst (v := nI 3) hx hb dL_law_974 (by decide) ?_
  refine lv_iadd hx hb dL_law_975 ?_
  refine xtop (y := nI (7 * k + 3)) (nI_add _ _) ?_
  refine xs_ld (i := 7 * k + 3) hx hb hX hbl hL hS (by omega) dL_law_976 ?_
  refine xwV (As := [.int (xs (7 * k + 1)), .int (xs (7 * k + 2)), .int (xs (7 * k + 3))]) (rest := []) (wr := wJ a o cI cZ cL (nxC ((bPc (xs (7 * k + 1))) || (bSt (xs (7 * k + 2)) (xs (7 * k + 3))) || false) C (C)) (nxF ((bPc (xs (7 * k + 1))) || (bSt (xs (7 * k + 2)) (xs (7 * k + 3))) || false) f (percentK (cK C) (plI (xs (7 * k + 1)) (xs (7 * k + 2))) (xs (7 * k + 3))).toInt64)) (ws2 := wL a u o cI cZ cL (nxC ((bPc (xs (7 * k + 1))) || (bSt (xs (7 * k + 2)) (xs (7 * k + 3))) || false) C (C)) (nxF ((bPc (xs (7 * k + 1))) || (bSt (xs (7 * k + 2)) (xs (7 * k + 3))) || false) f (percentK (cK C) (plI (xs (7 * k + 1)) (xs (7 * k + 2))) (xs (7 * k + 3))).toInt64) (closedMs M (xs (7 * k + 1)) (xs (7 * k + 2)) (xs (7 * k + 3)))) hx hb hml hown ht hN kV_L_116 (r_X4_speed l D u cI cZ M z.2.2.1 (xs (7 * k + 1)) (xs (7 * k + 2)) (xs (7 * k + 3))) ⟨Nat.le_of_ble_eq_true rfl, Nat.le_of_ble_eq_true rfl⟩ hP hD hS hK2 [19, 20, 21, 22, 23, 24, 25, 26, 27, 28, 29, 30, 31, 32, 33] [0, 1, 2, 3, 4, 5, 6, 7, 8, 9, 10, 11, 12, 13, 14, 15, 16, 17, 18] [0, 1, 2, 3, 4, 5, 6, 7, 8, 9, 10, 11, 12, 13, 14, 15, 16, 17, 18, 19, 20, 21, 22, 23, 24, 25, 26, 27, 28, 29, 30, 31, 32, 33] rfl rfl (by decide) (by decide) (by decide) rfl rfl (by decide) rfl rfl rfl rfl hl.1 rfl (Nat.le_of_ble_eq_true rfl) dL_law_977 ⟨(show 34 + k + 1 ≤ 1079 by omega), (show 3399 + 6 * k + 6 ≤ 11717 by omega)⟩ (fun H locs hP hD hS => ?_)
  refine lv_istore (lv' := [(6, .int (speedMr M (xs (7 * k + 1)) (xs (7 * k + 2)) (xs (7 * k + 3)))), (5, .int (thrM (bPc (xs (7 * k + 1))) (bSt (xs (7 * k + 2)) (xs (7 * k + 3))) (false))), (0, .ref (b)), (1, .ref (a 17)), (2, .ref (u 0)), (3, .ref (o)), (4, .int (nI (7 * k)))]) hx hb dL_law_980 hl (by decide) rfl (fun ls hl => ?_)
  refine lv_aload_n hx hb dL_law_982 rfl (lv_at hl 4 rfl) ?_
  refine xrV (As := []) (rest := []) hx hb hml hown ht hN kV_L_74 (r_X4_thrown l D u cI cZ (closedMs M (xs (7 * k + 1)) (xs (7 * k + 2)) (xs (7 * k + 3)))) ⟨Nat.le_of_ble_eq_true rfl, Nat.le_of_ble_eq_true rfl⟩ (xP_sub (isC := [19, 20, 21, 22, 23, 24, 25, 26, 27, 28, 29, 30, 31, 32, 33]) hP rfl) hK2 rfl rfl rfl rfl hl.1 rfl (Nat.le_of_ble_eq_true rfl) dL_law_983 ⟨(show 34 + k + 1 ≤ 1079 by omega), (show 3399 + 6 * k + 6 ≤ 11717 by omega)⟩ ?_
  refine lv_iload hx hb dL_law_986 (lv_at hl 1 rfl) ?_
  refine lv_icmp_eq (tgt := 993) hx hb dL_law_988 (by decide) (fun _ => ?_) (fun h9 => absurd g.2.1 h9)
  refine lv_iload hx hb dL_law_993 (lv_at hl 1 rfl) ?_
  refine lv_if_ne (tgt := 1010) hx hb dL_law_995 (by decide) (fun _ => ?_) (fun hz => ?_)
  · skip
    refine lv_goto (tgt := 1137) hx hb dL_law_1010 (by decide) ?_
    exact W.widen (k := 34 + (k + 1)) (n := 3399 + 6 * (k + 1)) (by omega) (by omega) (kk _ _ _ _ _ _ g.1 hP hD hS (lv_sub hl [2, 3, 4, 5, 6] rfl))
  · have g2 := g.2.2 hz
    refine lv_aload_n hx hb dL_law_998 rfl (lv_at hl 5 rfl) ?_
    refine lv_iconst (v := nI 0) hx hb dL_law_999 (by decide) ?_
    refine xl_lald hx hb hK hP 18 2 rfl rfl dL_law_1000 ?_
    refine lv_iload hx hb dL_law_1001 (lv_at hl 0 rfl) ?_
    refine lv_i2l (v := (speedMr M (xs (7 * k + 1)) (xs (7 * k + 2)) (xs (7 * k + 3))).toInt64) hx hb dL_law_1003 rfl ?_
    refine xl_lcmp hx hb (g2.trans (by first | rfl | decide)) dL_law_1004 ?_
    refine lv_if_eq (tgt := 1010) hx hb dL_law_1005 (by decide) (fun _ => ?_) (fun h9 => absurd rfl h9)
    refine lv_goto (tgt := 1137) hx hb dL_law_1010 (by decide) ?_
    exact W.widen (k := 34 + (k + 1)) (n := 3399 + 6 * (k + 1)) (by omega) (by omega) (kk _ _ _ _ _ _ g.1 hP hD hS (lv_sub hl [2, 3, 4, 5, 6] rfl))
set_option maxHeartbeats 8000000 in
set_option maxRecDepth 100000 in
theorem la_notice (l : Launch) {p : Program} {e : Env} {s : State} {m : MethodId} {below : List Frame} {meth : Method} {cd : Code} {D : va_G} {cI cZ cL : ClassId} {a u : Nat → Nat} {o b L k : Nat} {xs : Nat → Int32} {Q : State → Prop} (hl9 : l.stackTraces = false) (hx : p.tables.exec = Jvm.exec) (hb : cd.code = cL_law) (hml : cd.maxLocals = 7) (hown : s.vm.findClass RL = some m.cls) (ht : ∀ w ∈ wBIG, w.before #[Value.ref b] s = true) (hN : xN s) (hT9 : xT s.heap.size s) (hE : xE s) (hX : va_X b L xs s s.heap) (hbl : b < s.heap.size) (hL : L ≤ 3584) (hK : va_K D vwCl (tyJ cI cZ cL) s) (hk : 7 * k + 7 ≤ L)
    (kk : ∀ (C : CS) (M : MS) (f : Nat → Int64) (H : Heap) (locs : List Loc) (ls : Array Slot), inv C M (k + 1) → va_P D vwCl (wL a u o cI cZ cL C f M) H → va_D (fun q => s.heap.size ≤ q) (wL a u o cI cZ cL C f M) → va_S (fun q => s.heap.size ≤ q) s.heap H locs → lv_has ls 7 [(0, .ref b), (1, .ref (a 17)), (2, .ref (u 0)), (3, .ref o), (4, .int (nI (7 * k)))] → W p l e room_1 s m #[Value.ref b] below meth cd H locs (34 + (k + 1)) (3399 + 6 * (k + 1)) Q (F0 m 1137 ls []))
    {C : CS} {M : MS} {f : Nat → Int64} {H : Heap} {locs : List Loc} (hi : inv C M k) (hP : va_P D vwCl (wL a u o cI cZ cL C f M) H) (hD : va_D (fun q => s.heap.size ≤ q) (wL a u o cI cZ cL C f M)) (hS : va_S (fun q => s.heap.size ≤ q) s.heap H locs) {ls : Array Slot} (hl : lv_has ls 7 [(0, .ref b), (1, .ref (a 17)), (2, .ref (u 0)), (3, .ref o), (4, .int (nI (7 * k)))]) :
    W p l e room_1 s m #[Value.ref b] below meth cd H locs (34 + k) (3399 + 6 * k) Q (F0 m 1013 ls []) := by
  have hK2 := hK.sub (tys' := tyL cI cZ) [0, 1] rfl
  have z := hi.c (by omega)
  refine lv_aload_n hx hb dL_law_1013 rfl (lv_at hl 1 rfl) ?_
  refine lv_aload_n hx hb dL_law_1014 rfl (lv_at hl 0 rfl) ?_
  refine lv_iload hx hb dL_law_1015 (lv_at hl 4 rfl) ?_
  refine lv_iconst (v := nI 1) hx hb dL_law_1017 (by decide) ?_
  refine lv_iadd hx hb dL_law_1018 ?_
  refine xtop (y := nI (7 * k + 1)) (nI_add _ _) ?_
  refine xs_ld (i := 7 * k + 1) hx hb hX hbl hL hS (by omega) dL_law_1019 ?_
  refine lv_aload_n hx hb dL_law_1020 rfl (lv_at hl 0 rfl) ?_
  refine lv_iload hx hb dL_law_1021 (lv_at hl 4 rfl) ?_
  refine lv_iconst (v := nI 2) hx hb dL_law_1023 (by decide) ?_
  refine lv_iadd hx hb dL_law_1024 ?_
  refine xtop (y := nI (7 * k + 2)) (nI_add _ _) ?_
  refine xs_ld (i := 7 * k + 2) hx hb hX hbl hL hS (by omega) dL_law_1025 ?_
  refine lv_aload_n hx hb dL_law_1026 rfl (lv_at hl 3 rfl) ?_
  refine xwL (As := [.ref (a 17), .int (xs (7 * k + 1)), .int (xs (7 * k + 2)), .ref (o)]) (rest := []) (wr := wM u cI cZ M) (ws2 := wL a u o cI cZ cL (nxC ((noK (nT (cN C)) (xs (7 * k + 1)) (xs (7 * k + 2))) || false || false) C (C)) (nxF ((noK (nT (cN C)) (xs (7 * k + 1)) (xs (7 * k + 2))) || false || false) f (nRw (cN C) (fstT (ix (xs (7 * k + 1))) + ix (xs (7 * k + 2)))).toInt64) M) hx hb hml hown ht hN hT9 hE kW_117 (w_notice l D hl9 s.heap.size a o cI cZ cL C z.1 f (xs (7 * k + 1)) (xs (7 * k + 2))) ⟨Nat.le_of_ble_eq_true rfl, Nat.le_of_ble_eq_true rfl⟩ hP hD hS hK [0, 1, 2, 3, 4, 5, 6, 7, 8, 9, 10, 11, 12, 13, 14, 15, 16, 17, 18] [19, 20, 21, 22, 23, 24, 25, 26, 27, 28, 29, 30, 31, 32, 33] [15, 16, 17, 18, 19, 20, 21, 22, 23, 24, 25, 26, 27, 28, 29, 30, 31, 32, 33, 0, 1, 2, 3, 4, 5, 6, 7, 8, 9, 10, 11, 12, 13, 14] rfl rfl (by decide) (by decide) (by decide) rfl rfl (by decide) rfl hl.1 rfl (Nat.le_of_ble_eq_true rfl) dL_law_1027 ⟨(show 34 + k + 1 ≤ 1079 by omega), (show 3399 + 6 * k + 6 ≤ 11717 by omega)⟩ (fun H locs hP hD hS => ?_)
  have g := p_notice (C := C) (M := M) (k := k) (f := f) (i1 := (xs (7 * k + 1))) (w1 := (xs (7 * k + 2))) hi z.2.2.2.2.2.2
  refine lv_istore (lv' := [(5, .int (thrM (noK (nT (cN C)) (xs (7 * k + 1)) (xs (7 * k + 2))) (false) (false))), (0, .ref (b)), (1, .ref (a 17)), (2, .ref (u 0)), (3, .ref (o)), (4, .int (nI (7 * k)))]) hx hb dL_law_1030 hl (by decide) rfl (fun ls hl => ?_)
  refine lv_aload_n hx hb dL_law_1032 rfl (lv_at hl 3 rfl) ?_
  refine lv_aload_n hx hb dL_law_1033 rfl (lv_at hl 1 rfl) ?_
  refine lv_iload hx hb dL_law_1034 (lv_at hl 5 rfl) ?_
  refine lv_iconst (v := nI 1) hx hb dL_law_1036 (by decide) ?_
  refine lv_iadd hx hb dL_law_1037 ?_
  refine xtop (y := nI (7 * k + 1)) (nI_add _ _) ?_
  refine xs_ld (i := 7 * k + 1) hx hb hX hbl hL hS (by omega) dL_law_1038 ?_
  refine lv_aload_n hx hb dL_law_1039 rfl (lv_at hl 1 rfl) ?_
  refine lv_iload hx hb dL_law_1040 (lv_at hl 5 rfl) ?_
  refine lv_iconst (v := nI 2) hx hb dL_law_1042 (by decide) ?_
  refine lv_iadd hx hb dL_law_1043 ?_
  refine xtop (y := nI (7 * k + 2)) (nI_add _ _) ?_
  refine xs_ld (i := 7 * k + 2) hx hb hX hbl hL hS (by omega) dL_law_1044 ?_
  refine xwV (As := [.int (xs (7 * k + 1)), .int (xs (7 * k + 2))]) (rest := []) (wr := wJ a o cI cZ cL (nxC ((noK (nT (cN C)) (xs (7 * k + 1)) (xs (7 * k + 2))) || false || false) C (C)) (nxF ((noK (nT (cN C)) (xs (7 * k + 1)) (xs (7 * k + 2))) || false || false) f (nRw (cN C) (fstT (ix (xs (7 * k + 1))) + ix (xs (7 * k + 2)))).toInt64)) (ws2 := wL a u o cI cZ cL (nxC ((noK (nT (cN C)) (xs (7 * k + 1)) (xs (7 * k + 2))) || false || false) C (C)) (nxF ((noK (nT (cN C)) (xs (7 * k + 1)) (xs (7 * k + 2))) || false || false) f (nRw (cN C) (fstT (ix (xs (7 * k + 1))) + ix (xs (7 * k + 2)))).toInt64) (notMs M (xs (7 * k + 1)) (xs (7 * k + 2)))) hx hb hml hown ht hN kV_L_119 (r_X4_notice l D u cI cZ M z.2.2.1 z.2.2.2.1 z.2.2.2.2.1 (xs (7 * k + 1)) (xs (7 * k + 2))) ⟨Nat.le_of_ble_eq_true rfl, Nat.le_of_ble_eq_true rfl⟩ hP hD hS hK2 [19, 20, 21, 22, 23, 24, 25, 26, 27, 28, 29, 30, 31, 32, 33] [0, 1, 2, 3, 4, 5, 6, 7, 8, 9, 10, 11, 12, 13, 14, 15, 16, 17, 18] [0, 1, 2, 3, 4, 5, 6, 7, 8, 9, 10, 11, 12, 13, 14, 15, 16, 17, 18, 19, 20, 21, 22, 23, 24, 25, 26, 27, 28, 29, 30, 31, 32, 33] rfl rfl (by decide) (by decide) (by decide) rfl rfl (by decide) rfl rfl rfl rfl hl.1 rfl (Nat.le_of_ble_eq_true rfl) dL_law_1045 ⟨(show 34 + k + 1 ≤ 1079 by omega), (show 3399 + 6 * k + 6 ≤ 11717 by omega)⟩ (fun H locs hP hD hS => ?_)
  refine lv_istore (lv' := [(6, .int (notMr M (xs (7 * k + 1)) (xs (7 * k + 2)))), (5, .int (thrM (noK (nT (cN C)) (xs (7 * k + 1)) (xs (7 * k + 2))) (false) (false))), (0, .ref (b)), (1, .ref (a 17)), (2, .ref (u 0)), (3, .ref (o)), (4, .int (nI (7 * k)))]) hx hb dL_law_1048 hl (by decide) rfl (fun ls hl => ?_)
  refine lv_aload_n hx hb dL_law_1050 rfl (lv_at hl 4 rfl) ?_
  refine xrV (As := []) (rest := []) hx hb hml hown ht hN kV_L_74 (r_X4_thrown l D u cI cZ (notMs M (xs (7 * k + 1)) (xs (7 * k + 2)))) ⟨Nat.le_of_ble_eq_true rfl, Nat.le_of_ble_eq_true rfl⟩ (xP_sub (isC := [19, 20, 21, 22, 23, 24, 25, 26, 27, 28, 29, 30, 31, 32, 33]) hP rfl) hK2 rfl rfl rfl rfl hl.1 rfl (Nat.le_of_ble_eq_true rfl) dL_law_1051 ⟨(show 34 + k + 1 ≤ 1079 by omega), (show 3399 + 6 * k + 6 ≤ 11717 by omega)⟩ ?_
  refine lv_iload hx hb dL_law_1054 (lv_at hl 1 rfl) ?_
  refine lv_icmp_eq (tgt := 1061) hx hb dL_law_1056 (by decide) (fun _ => ?_) (fun h9 => absurd g.2.1 h9)
  refine lv_iload hx hb dL_law_1061 (lv_at hl 1 rfl) ?_
  refine lv_if_ne (tgt := 1078) hx hb dL_law_1063 (by decide) (fun _ => ?_) (fun hz => ?_)
  · skip
    refine lv_goto (tgt := 1137) hx hb dL_law_1078 (by decide) ?_
    exact W.widen (k := 34 + (k + 1)) (n := 3399 + 6 * (k + 1)) (by omega) (by omega) (kk _ _ _ _ _ _ g.1 hP hD hS (lv_sub hl [2, 3, 4, 5, 6] rfl))
  · have g2 := g.2.2 hz
    refine lv_aload_n hx hb dL_law_1066 rfl (lv_at hl 5 rfl) ?_
    refine lv_iconst (v := nI 0) hx hb dL_law_1067 (by decide) ?_
    refine xl_lald hx hb hK hP 18 2 rfl rfl dL_law_1068 ?_
    refine lv_iload hx hb dL_law_1069 (lv_at hl 0 rfl) ?_
    refine lv_i2l (v := (notMr M (xs (7 * k + 1)) (xs (7 * k + 2))).toInt64) hx hb dL_law_1071 rfl ?_
    refine xl_lcmp hx hb (g2.trans (by first | rfl | decide)) dL_law_1072 ?_
    refine lv_if_eq (tgt := 1078) hx hb dL_law_1073 (by decide) (fun _ => ?_) (fun h9 => absurd rfl h9)
    refine lv_goto (tgt := 1137) hx hb dL_law_1078 (by decide) ?_
    exact W.widen (k := 34 + (k + 1)) (n := 3399 + 6 * (k + 1)) (by omega) (by omega) (kk _ _ _ _ _ _ g.1 hP hD hS (lv_sub hl [2, 3, 4, 5, 6] rfl))
set_option maxHeartbeats 8000000 in
set_option maxRecDepth 100000 in
theorem la_blocked (l : Launch) {p : Program} {e : Env} {s : State} {m : MethodId} {below : List Frame} {meth : Method} {cd : Code} {D : va_G} {cI cZ cL : ClassId} {a u : Nat → Nat} {o b L k : Nat} {xs : Nat → Int32} {Q : State → Prop} (hl9 : l.stackTraces = false) (hx : p.tables.exec = Jvm.exec) (hb : cd.code = cL_law) (hml : cd.maxLocals = 7) (hown : s.vm.findClass RL = some m.cls) (ht : ∀ w ∈ wBIG, w.before #[Value.ref b] s = true) (hN : xN s) (hT9 : xT s.heap.size s) (hE : xE s) (hX : va_X b L xs s s.heap) (hbl : b < s.heap.size) (hL : L ≤ 3584) (hK : va_K D vwCl (tyJ cI cZ cL) s) (hk : 7 * k + 7 ≤ L)
    (kk : ∀ (C : CS) (M : MS) (f : Nat → Int64) (H : Heap) (locs : List Loc) (ls : Array Slot), inv C M (k + 1) → va_P D vwCl (wL a u o cI cZ cL C f M) H → va_D (fun q => s.heap.size ≤ q) (wL a u o cI cZ cL C f M) → va_S (fun q => s.heap.size ≤ q) s.heap H locs → lv_has ls 7 [(0, .ref b), (1, .ref (a 17)), (2, .ref (u 0)), (3, .ref o), (4, .int (nI (7 * k)))] → W p l e room_1 s m #[Value.ref b] below meth cd H locs (34 + (k + 1)) (3399 + 6 * (k + 1)) Q (F0 m 1137 ls []))
    {C : CS} {M : MS} {f : Nat → Int64} {H : Heap} {locs : List Loc} (hi : inv C M k) (hP : va_P D vwCl (wL a u o cI cZ cL C f M) H) (hD : va_D (fun q => s.heap.size ≤ q) (wL a u o cI cZ cL C f M)) (hS : va_S (fun q => s.heap.size ≤ q) s.heap H locs) {ls : Array Slot} (hl : lv_has ls 7 [(0, .ref b), (1, .ref (a 17)), (2, .ref (u 0)), (3, .ref o), (4, .int (nI (7 * k)))]) :
    W p l e room_1 s m #[Value.ref b] below meth cd H locs (34 + k) (3399 + 6 * k) Q (F0 m 1081 ls []) := by
  have hK2 := hK.sub (tys' := tyL cI cZ) [0, 1] rfl
  have z := hi.c (by omega)
  refine lv_aload_n hx hb dL_law_1081 rfl (lv_at hl 1 rfl) ?_
  refine lv_aload_n hx hb dL_law_1082 rfl (lv_at hl 0 rfl) ?_
  refine lv_iload hx hb dL_law_1083 (lv_at hl 4 rfl) ?_
  refine lv_iconst (v := nI 1) hx hb dL_law_1085 (by decide) ?_
  refine lv_iadd hx hb dL_law_1086 ?_
  refine xtop (y := nI (7 * k + 1)) (nI_add _ _) ?_
  refine xs_ld (i := 7 * k + 1) hx hb hX hbl hL hS (by omega) dL_law_1087 ?_
  refine lv_aload_n hx hb dL_law_1088 rfl (lv_at hl 3 rfl) ?_
  refine xwL (As := [.ref (a 17), .int (xs (7 * k + 1)), .ref (o)]) (rest := []) (wr := wM u cI cZ M) (ws2 := wL a u o cI cZ cL (nxC ((bUn (xs (7 * k + 1))) || false || false) C (C)) (nxF ((bUn (xs (7 * k + 1))) || false || false) f (blkCr C (xs (7 * k + 1))).toInt64) M) hx hb hml hown ht hN hT9 hE kW_120 (w_blocked l D hl9 s.heap.size a o cI cZ cL C z.1 f (xs (7 * k + 1))) ⟨Nat.le_of_ble_eq_true rfl, Nat.le_of_ble_eq_true rfl⟩ hP hD hS hK [0, 1, 2, 3, 4, 5, 6, 7, 8, 9, 10, 11, 12, 13, 14, 15, 16, 17, 18] [19, 20, 21, 22, 23, 24, 25, 26, 27, 28, 29, 30, 31, 32, 33] [15, 16, 17, 18, 19, 20, 21, 22, 23, 24, 25, 26, 27, 28, 29, 30, 31, 32, 33, 0, 1, 2, 3, 4, 5, 6, 7, 8, 9, 10, 11, 12, 13, 14] rfl rfl (by decide) (by decide) (by decide) rfl rfl (by decide) rfl hl.1 rfl (Nat.le_of_ble_eq_true rfl) dL_law_1089 ⟨(show 34 + k + 1 ≤ 1079 by omega), (show 3399 + 6 * k + 6 ≤ 11717 by omega)⟩ (fun H locs hP hD hS => ?_)
  have g := p_blocked (C := C) (M := M) (k := k) (f := f) (u1 := (xs (7 * k + 1))) hi
  refine lv_istore (lv' := [(5, .int (thrM (bUn (xs (7 * k + 1))) (false) (false))), (0, .ref (b)), (1, .ref (a 17)), (2, .ref (u 0)), (3, .ref (o)), (4, .int (nI (7 * k)))]) hx hb dL_law_1092 hl (by decide) rfl (fun ls hl => ?_)
  refine lv_aload_n hx hb dL_law_1094 rfl (lv_at hl 3 rfl) ?_
  refine lv_aload_n hx hb dL_law_1095 rfl (lv_at hl 1 rfl) ?_
  refine lv_iload hx hb dL_law_1096 (lv_at hl 5 rfl) ?_
  refine lv_iconst (v := nI 1) hx hb dL_law_1098 (by decide) ?_
  refine lv_iadd hx hb dL_law_1099 ?_
  refine xtop (y := nI (7 * k + 1)) (nI_add _ _) ?_
  refine xs_ld (i := 7 * k + 1) hx hb hX hbl hL hS (by omega) dL_law_1100 ?_
  refine xwV (As := [.int (xs (7 * k + 1))]) (rest := []) (wr := wJ a o cI cZ cL (nxC ((bUn (xs (7 * k + 1))) || false || false) C (C)) (nxF ((bUn (xs (7 * k + 1))) || false || false) f (blkCr C (xs (7 * k + 1))).toInt64)) (ws2 := wL a u o cI cZ cL (nxC ((bUn (xs (7 * k + 1))) || false || false) C (C)) (nxF ((bUn (xs (7 * k + 1))) || false || false) f (blkCr C (xs (7 * k + 1))).toInt64) (blkMs M (xs (7 * k + 1)))) hx hb hml hown ht hN kV_L_122 (r_X4_blocked l D u cI cZ M z.2.2.1 z.2.2.2.1 z.2.2.2.2.1 (xs (7 * k + 1))) ⟨Nat.le_of_ble_eq_true rfl, Nat.le_of_ble_eq_true rfl⟩ hP hD hS hK2 [19, 20, 21, 22, 23, 24, 25, 26, 27, 28, 29, 30, 31, 32, 33] [0, 1, 2, 3, 4, 5, 6, 7, 8, 9, 10, 11, 12, 13, 14, 15, 16, 17, 18] [0, 1, 2, 3, 4, 5, 6, 7, 8, 9, 10, 11, 12, 13, 14, 15, 16, 17, 18, 19, 20, 21, 22, 23, 24, 25, 26, 27, 28, 29, 30, 31, 32, 33] rfl rfl (by decide) (by decide) (by decide) rfl rfl (by decide) rfl rfl rfl rfl hl.1 rfl (Nat.le_of_ble_eq_true rfl) dL_law_1101 ⟨(show 34 + k + 1 ≤ 1079 by omega), (show 3399 + 6 * k + 6 ≤ 11717 by omega)⟩ (fun H locs hP hD hS => ?_)
  refine lv_istore (lv' := [(6, .int (blkMr M (xs (7 * k + 1)))), (5, .int (thrM (bUn (xs (7 * k + 1))) (false) (false))), (0, .ref (b)), (1, .ref (a 17)), (2, .ref (u 0)), (3, .ref (o)), (4, .int (nI (7 * k)))]) hx hb dL_law_1104 hl (by decide) rfl (fun ls hl => ?_)
  refine lv_aload_n hx hb dL_law_1106 rfl (lv_at hl 4 rfl) ?_
  refine xrV (As := []) (rest := []) hx hb hml hown ht hN kV_L_74 (r_X4_thrown l D u cI cZ (blkMs M (xs (7 * k + 1)))) ⟨Nat.le_of_ble_eq_true rfl, Nat.le_of_ble_eq_true rfl⟩ (xP_sub (isC := [19, 20, 21, 22, 23, 24, 25, 26, 27, 28, 29, 30, 31, 32, 33]) hP rfl) hK2 rfl rfl rfl rfl hl.1 rfl (Nat.le_of_ble_eq_true rfl) dL_law_1107 ⟨(show 34 + k + 1 ≤ 1079 by omega), (show 3399 + 6 * k + 6 ≤ 11717 by omega)⟩ ?_
  refine lv_iload hx hb dL_law_1110 (lv_at hl 1 rfl) ?_
  refine lv_icmp_eq (tgt := 1117) hx hb dL_law_1112 (by decide) (fun _ => ?_) (fun h9 => absurd g.2.1 h9)
  refine lv_iload hx hb dL_law_1117 (lv_at hl 1 rfl) ?_
  refine lv_if_ne (tgt := 1134) hx hb dL_law_1119 (by decide) (fun _ => ?_) (fun hz => ?_)
  · skip
    refine lv_goto (tgt := 1137) hx hb dL_law_1134 (by decide) ?_
    exact W.widen (k := 34 + (k + 1)) (n := 3399 + 6 * (k + 1)) (by omega) (by omega) (kk _ _ _ _ _ _ g.1 hP hD hS (lv_sub hl [2, 3, 4, 5, 6] rfl))
  · have g2 := g.2.2 hz
    refine lv_aload_n hx hb dL_law_1122 rfl (lv_at hl 5 rfl) ?_
    refine lv_iconst (v := nI 0) hx hb dL_law_1123 (by decide) ?_
    refine xl_lald hx hb hK hP 18 2 rfl rfl dL_law_1124 ?_
    refine lv_iload hx hb dL_law_1125 (lv_at hl 0 rfl) ?_
    refine lv_i2l (v := (blkMr M (xs (7 * k + 1))).toInt64) hx hb dL_law_1127 rfl ?_
    refine xl_lcmp hx hb (g2.trans (by first | rfl | decide)) dL_law_1128 ?_
    refine lv_if_eq (tgt := 1134) hx hb dL_law_1129 (by decide) (fun _ => ?_) (fun h9 => absurd rfl h9)
    refine lv_goto (tgt := 1137) hx hb dL_law_1134 (by decide) ?_
    exact W.widen (k := 34 + (k + 1)) (n := 3399 + 6 * (k + 1)) (by omega) (by omega) (kk _ _ _ _ _ _ g.1 hP hD hS (lv_sub hl [2, 3, 4, 5, 6] rfl))
