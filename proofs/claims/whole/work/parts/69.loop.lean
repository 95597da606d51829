def R_law : String := "ClosureRowsLaw"
def lw_P (b : Addr) (xs : List Int32) (args : Array Value) (s : State) : Prop := args = #[.ref b] ∧ s.IntsAt b xs ∧ xs.length ≤ 3584 ∧ (Jvm.Cond.and given_1 narrow_1).before args s = true
def lw_Q (_ : Array Value) (s : State) (o : Outcome) (t : State) : Prop := o = .returned (some (.int 1)) ∧ Framed s o t [] 1079 11717
def lw_Z (below : List Frame) (a : Array Value) (s : State) : State → Prop := fun t => ∃ o, t.status = .running ∧ Ended t below o ∧ lw_Q a s o t
/-- the law's own end, with 1 on the stack, nothing written that was there before, its room as the claim has it -/
theorem lw_ret {p : Program} {l : Launch} {e : Env} {s : State} {m : MethodId} {below : List Frame} {meth : Method} {c : Code} {b : Nat} (hx : p.tables.exec = Jvm.exec) (hb : c.code = code) (hr : meth.sig.returnType = ret) (hlocks : meth.locks = false) {pc : Nat} {H : Heap} {ls : Array Slot} (hdg : decode code pc = .ok (.ireturn, 1)) : W p l e room_1 s m #[Value.ref b] below meth c H [] 1079 11717 (lw_Z below #[Value.ref b] s) (F0 m pc ls [.int 1]) := by
  intro T hT X
  obtain ⟨fs, hret, hrun, hended, hW, hframe⟩ := X.leave (v := some (.int 1)) (hlocks := hlocks) (fun h => by rw [hr] at h; cases h)
  have hmeth' : T.vm.method? m = some meth := X.method'
  refine ⟨T.setFrames fs, ?_, .returned (some (.int 1)), hrun, hended, rfl, ⟨_, rfl⟩, hW, hframe⟩
  jvm_step X.here [X.here.top, hx, hb, hdg, hmeth', hr, ret, narrow_b1]
  (try refine ⟨rfl, ?_⟩); (try refine ⟨rfl, ?_⟩)
  first | (intro acts; rw [hret _ acts rfl rfl rfl]) | rw [hret _ _ rfl rfl rfl]
  exact Steps.refl _
/-- what holds at the law's entry: the machine, the code, the tables' words (any of lw_tbl by 'hts w (by decide +kernel)'), the script of L ints xs at the cell b, what the Statement gives of the start (any of its parts by flat_of_before) -/
def lw_At (p : Program) (s : State) (m : MethodId) (meth : Method) (c : Code) (b L : Nat) (xs : Nat → Int32) : Prop :=
  p.tables.exec = Jvm.exec ∧ c.code = code ∧ meth.sig.returnType = ret ∧ c.maxLocals = 7 ∧ s.vm.findClass R_law = some m.cls ∧ (∀ w ∈ lw_tbl, w.before #[Value.ref b] s = true) ∧ va_X b L xs s s.heap ∧ b < s.heap.size ∧ meth.locks = false ∧ (Jvm.Cond.and given_1 narrow_1).before #[Value.ref b] s = true
theorem tab13 {x : Int32} (h0 : ¬ x = nI 0) (h1 : ¬ x = nI 1) (h2 : ¬ x = nI 2) (h3 : ¬ x = nI 3) (h4 : ¬ x = nI 4) (h5 : ¬ x = nI 5) (h6 : ¬ x = nI 6) (h7 : ¬ x = nI 7) (h8 : ¬ x = nI 8) (h9 : ¬ x = nI 9) (h10 : ¬ x = nI 10) (h11 : ¬ x = nI 11) (h12 : ¬ x = nI 12) (h13 : ¬ x = nI 13) : x.toInt < 0 ∨ 13 < x.toInt := by
  have a0 := lv_neT h0 (a := 0) (by decide)
  have a1 := lv_neT h1 (a := 1) (by decide)
  have a2 := lv_neT h2 (a := 2) (by decide)
  have a3 := lv_neT h3 (a := 3) (by decide)
  have a4 := lv_neT h4 (a := 4) (by decide)
  have a5 := lv_neT h5 (a := 5) (by decide)
  have a6 := lv_neT h6 (a := 6) (by decide)
  have a7 := lv_neT h7 (a := 7) (by decide)
  have a8 := lv_neT h8 (a := 8) (by decide)
  have a9 := lv_neT h9 (a := 9) (by decide)
  have a10 := lv_neT h10 (a := 10) (by decide)
  have a11 := lv_neT h11 (a := 11) (by decide)
  have a12 := lv_neT h12 (a := 12) (by decide)
  have a13 := lv_neT h13 (a := 13) (by decide)
  omega
theorem loop_lt {L k : Nat} (hL : L ≤ 3584) (hk : 7 * k ≤ L) (h : ¬ (Int32.ofNat L - nI 7 < nI (7 * k))) : 7 * k + 7 ≤ L := by
  have h2 : ¬ (nI L - nI 7 < nI (7 * k)) := h
  rw [Int32.lt_iff_toInt_lt, pk_sub_toInt (by omega) (by decide), nI_toInt (by omega)] at h2
  omega
set_option maxHeartbeats 8000000 in
set_option maxRecDepth 100000 in
theorem law_loop (l : Launch) {p : Program} {e : Env} {s : State} {m : MethodId} {below : List Frame} {meth : Method} {cd : Code} {D : va_G} {cI cZ cL : ClassId} {a u : Nat → Nat} {o b L : Nat} {xs : Nat → Int32} (hl9 : l.stackTraces = false) (hx : p.tables.exec = Jvm.exec) (hb : cd.code = cL_law) (hr : meth.sig.returnType = ret) (hlocks : meth.locks = false) (hml : cd.maxLocals = 7) (hown : s.vm.findClass RL = some m.cls) (ht : ∀ w ∈ wBIG, w.before #[Value.ref b] s = true) (hN : xN s) (hT9 : xT s.heap.size s) (hE : xE s) (hX : va_X b L xs s s.heap) (hbl : b < s.heap.size) (hL : L ≤ 3584) (hK : va_K D vwCl (tyJ cI cZ cL) s) :
    ∀ (n k : Nat) (C : CS) (M : MS) (f : Nat → Int64) (H : Heap) (locs : List Loc) (ls : Array Slot), L < 7 * k + n → 7 * k ≤ L → inv C M k → va_P D vwCl (wL a u o cI cZ cL C f M) H → va_D (fun q => s.heap.size ≤ q) (wL a u o cI cZ cL C f M) → va_S (fun q => s.heap.size ≤ q) s.heap H locs → lv_has ls 7 [(0, .ref b), (1, .ref (a 17)), (2, .ref (u 0)), (3, .ref o), (4, .int (nI (7 * k)))] →
      W p l e room_1 s m #[Value.ref b] below meth cd H locs (34 + k) (3399 + 6 * k) (lw_Z below #[Value.ref b] s) (F0 m 23 ls []) := by
  intro n
  induction n with
  | zero => intro k C M f H locs ls h1 h2; omega
  | succ n ih =>
    intro k C M f H locs ls hfu hkL hi hP hD hS hl
    refine lv_iload hx hb dL_law_23 (lv_at hl 4 rfl) ?_
    refine lv_aload_n hx hb dL_law_25 rfl (lv_at hl 0 rfl) ?_
    refine va_slen hx hb hX hbl (Nat.not_le.mpr hbl) hS dL_law_26 ?_
    refine lv_bipush (v := nI 7) hx hb dL_law_27 (by decide) ?_
    refine lv_isub hx hb dL_law_29 ?_
    refine lv_icmp_gt (tgt := 1143) hx hb dL_law_30 (by decide) (fun h30 => ?_) (fun h30 => ?_)
    · refine va_forget hS.2.2 ?_
      refine lv_iconst (v := 1) hx hb dL_law_1143 (by decide) ?_
      refine W.widen (k := 1079) (n := 11717) (by omega) (by omega) ?_
      exact lw_ret hx hb hr hlocks dL_law_1144
    · have hk : 7 * k + 7 ≤ L := loop_lt hL hkL h30
      have kk : ∀ (C : CS) (M : MS) (f : Nat → Int64) (H : Heap) (locs : List Loc) (ls : Array Slot), inv C M (k + 1) → va_P D vwCl (wL a u o cI cZ cL C f M) H → va_D (fun q => s.heap.size ≤ q) (wL a u o cI cZ cL C f M) → va_S (fun q => s.heap.size ≤ q) s.heap H locs → lv_has ls 7 [(0, .ref b), (1, .ref (a 17)), (2, .ref (u 0)), (3, .ref o), (4, .int (nI (7 * k)))] → W p l e room_1 s m #[Value.ref b] below meth cd H locs (34 + (k + 1)) (3399 + 6 * (k + 1)) (lw_Z below #[Value.ref b] s) (F0 m 1137 ls []) := by
        intro C M f H locs ls hi hP hD hS hl
        refine lv_iinc (v := nI (7 * (k + 1))) (lv' := [(4, .int (nI (7 * (k + 1)))), (0, .ref b), (1, .ref (a 17)), (2, .ref (u 0)), (3, .ref o)]) hx hb dL_law_1137 hl (k := 4) rfl (nI_add (7 * k) 7) (by decide) rfl (fun ls hl => ?_)
        refine lv_goto (tgt := 23) hx hb dL_law_1140 (by decide) ?_
        exact ih (k + 1) C M f H locs ls (by omega) (by omega) hi hP hD hS (lv_sub hl [1, 2, 3, 4, 0] rfl)
      refine lv_aload_n hx hb dL_law_33 rfl (lv_at hl 0 rfl) ?_
      refine lv_iload hx hb dL_law_34 (lv_at hl 4 rfl) ?_
      refine xs_ld (i := 7 * k) hx hb hX hbl hL hS (by omega) dL_law_36 ?_
      refine lv_bipush (v := nI 15) hx hb dL_law_37 (by decide) ?_
      refine lv_iand hx hb dL_law_39 ?_
      generalize xs (7 * k) &&& nI 15 = x
      by_cases g0 : x = nI 0
      · refine xtop (y := nI 0) g0 ?_
        refine lv_tableIn (tgt := 112) (off := 72) hx hb dL_law_40 (by decide) (by decide) (by decide) (by decide) ?_
        exact la_close l hl9 hx hb hml hown ht hN hT9 hE hX hbl hL hK hk kk hi hP hD hS hl
      by_cases g1 : x = nI 1
      · refine xtop (y := nI 1) g1 ?_
        refine lv_tableIn (tgt := 230) (off := 190) hx hb dL_law_40 (by decide) (by decide) (by decide) (by decide) ?_
        exact la_answer l hl9 hx hb hml hown ht hN hT9 hE hX hbl hL hK hk kk hi hP hD hS hl
      by_cases g2 : x = nI 2
      · refine xtop (y := nI 2) g2 ?_
        refine lv_tableIn (tgt := 294) (off := 254) hx hb dL_law_40 (by decide) (by decide) (by decide) (by decide) ?_
        exact la_lift l hl9 hx hb hml hown ht hN hT9 hE hX hbl hL hK hk kk hi hP hD hS hl
      by_cases g3 : x = nI 3
      · refine xtop (y := nI 3) g3 ?_
        refine lv_tableIn (tgt := 369) (off := 329) hx hb dL_law_40 (by decide) (by decide) (by decide) (by decide) ?_
        exact la_incident l hl9 hx hb hml hown ht hN hT9 hE hX hbl hL hK hk kk hi hP hD hS hl
      by_cases g4 : x = nI 4
      · refine xtop (y := nI 4) g4 ?_
        refine lv_tableIn (tgt := 433) (off := 393) hx hb dL_law_40 (by decide) (by decide) (by decide) (by decide) ?_
        exact la_step l hl9 hx hb hml hown ht hN hT9 hE hX hbl hL hK hk kk hi hP hD hS hl
      by_cases g5 : x = nI 5
      · refine xtop (y := nI 5) g5 ?_
        refine lv_tableIn (tgt := 513) (off := 473) hx hb dL_law_40 (by decide) (by decide) (by decide) (by decide) ?_
        exact la_tick l hl9 hx hb hml hown ht hN hT9 hE hX hbl hL hK hk kk hi hP hD hS hl
      by_cases g6 : x = nI 6
      · refine xtop (y := nI 6) g6 ?_
        refine lv_tableIn (tgt := 569) (off := 529) hx hb dL_law_40 (by decide) (by decide) (by decide) (by decide) ?_
        exact la_clock l hl9 hx hb hml hown ht hN hT9 hE hX hbl hL hK hk kk hi hP hD hS hl
      by_cases g7 : x = nI 7
      · refine xtop (y := nI 7) g7 ?_
        refine lv_tableIn (tgt := 582) (off := 542) hx hb dL_law_40 (by decide) (by decide) (by decide) (by decide) ?_
        exact la_closed l hl9 hx hb hml hown ht hN hT9 hE hX hbl hL hK hk kk hi hP hD hS hl
      by_cases g8 : x = nI 8
      · refine xtop (y := nI 8) g8 ?_
        refine lv_tableIn (tgt := 669) (off := 629) hx hb dL_law_40 (by decide) (by decide) (by decide) (by decide) ?_
        exact la_minutes l hl9 hx hb hml hown ht hN hT9 hE hX hbl hL hK hk kk hi hP hD hS hl
      by_cases g9 : x = nI 9
      · refine xtop (y := nI 9) g9 ?_
        refine lv_tableIn (tgt := 761) (off := 721) hx hb dL_law_40 (by decide) (by decide) (by decide) (by decide) ?_
        exact la_opens l hl9 hx hb hml hown ht hN hT9 hE hX hbl hL hK hk kk hi hP hD hS hl
      by_cases g10 : x = nI 10
      · refine xtop (y := nI 10) g10 ?_
        refine lv_tableIn (tgt := 841) (off := 801) hx hb dL_law_40 (by decide) (by decide) (by decide) (by decide) ?_
        exact la_reason l hl9 hx hb hml hown ht hN hT9 hE hX hbl hL hK hk kk hi hP hD hS hl
      by_cases g11 : x = nI 11
      · refine xtop (y := nI 11) g11 ?_
        refine lv_tableIn (tgt := 933) (off := 893) hx hb dL_law_40 (by decide) (by decide) (by decide) (by decide) ?_
        exact la_speed l hl9 hx hb hml hown ht hN hT9 hE hX hbl hL hK hk kk hi hP hD hS hl
      by_cases g12 : x = nI 12
      · refine xtop (y := nI 12) g12 ?_
        refine lv_tableIn (tgt := 1013) (off := 973) hx hb dL_law_40 (by decide) (by decide) (by decide) (by decide) ?_
        exact la_notice l hl9 hx hb hml hown ht hN hT9 hE hX hbl hL hK hk kk hi hP hD hS hl
      by_cases g13 : x = nI 13
      · refine xtop (y := nI 13) g13 ?_
        refine lv_tableIn (tgt := 1081) (off := 1041) hx hb dL_law_40 (by decide) (by decide) (by decide) (by decide) ?_
        exact la_blocked l hl9 hx hb hml hown ht hN hT9 hE hX hbl hL hK hk kk hi hP hD hS hl
      refine lv_tableOut (tgt := 1137) hx hb dL_law_40 (tab13 g0 g1 g2 g3 g4 g5 g6 g7 g8 g9 g10 g11 g12 g13) (by decide) ?_
      exact W.widen (k := 34 + (k + 1)) (n := 3399 + 6 * (k + 1)) (by omega) (by omega) (kk C M f H locs ls ⟨hi.1, Nat.le_trans hi.2 (by omega)⟩ hP hD hS hl)
set_option maxHeartbeats 8000000 in
set_option maxRecDepth 100000 in
theorem whole_start {p : Program} {e : Env} {s : State} {m : MethodId} {below : List Frame} {meth : Method} {c : Code} (l : Launch) (hl9 : l.stackTraces = false) {b L : Nat} {xs : Nat → Int32} (hL : L ≤ 3584) (C9 : lw_At p s m meth c b L xs) : W p l e room_1 s m #[Value.ref b] below meth c s.heap [] 0 0 (lw_Z below #[Value.ref b] s) (entryFrame m ([Value.ref b] : List Value).toArray 7) := by
  obtain ⟨hx, hb, hr, hml, hown, hts, hX, hbl, hlocks, hgv⟩ := C9
  have hb : c.code = cL_law := hb
  have hown : s.vm.findClass RL = some m.cls := hown
  have ht := wbig_sub hts
  have hN := xN_0 hts
  have hE := xE_0 hgv
  have hT9 := xT_0 hts hgv
  obtain ⟨D, cI, cZ, cL, hK⟩ := xK_0 ht (ht _ wd79) (ht _ wd80) (ht _ wd736) (ht _ wd43) (ht _ wd95) (ht _ wd82) (ht _ wd35) (ht _ wd567)
  have hK2 := hK.sub (tys' := tyL cI cZ) [0, 1] rfl
  have hA : ∀ q : Nat, s.heap.size ≤ q → (fun q : Nat => s.heap.size ≤ q) q := fun _ h => h
  have hS : va_S (fun q : Nat => s.heap.size ≤ q) s.heap s.heap [] := va_S.rf
  have hP : va_P D vwCl [] s.heap := fun k q h => by simp at h
  have hD : va_D (fun q : Nat => s.heap.size ≤ q) [] := ⟨fun i j p q h => by simp at h, fun k q h => by simp at h⟩
  have hl := lv_entry ([.ref b]) (n := 7) (Nat.le_of_ble_eq_true rfl)
  rw [lg_entry_eq]
  generalize (lg_sl ([.ref b]) ++ List.replicate (7 - (lg_sl ([.ref b])).length) Slot.unset).toArray = ls at hl ⊢
  have hl : lv_has ls 7 [(0, .ref b)] := hl
  refine va_new (ci := 3) (fs := [.null, .null, .null, .null, .null, .int 0]) (C := RX3) (T := TX3) (N := 6) hx hb ht inX3 tyX3 tyX3_ok hown (ht _ wd34) (ht _ wd35) (ht _ wd21) hK hP hD hS hA rfl (fun j hj => by rcases (show j = 0 ∨ j = 1 ∨ j = 2 ∨ j = 3 ∨ j = 4 ∨ j = 5 by omega) with rfl | rfl | rfl | rfl | rfl | rfl <;> rfl) (Nat.le_of_ble_eq_true rfl) (Nat.le_of_ble_eq_true rfl) dL_law_0 (fun qX3 H hP hD hS => ?_)
  have hP : va_P D vwCl ([(qX3, .inr (3, [.null, .null, .null, .null, .null, .int 0]))]) H := hP
  have hD : va_D (fun q : Nat => s.heap.size ≤ q) ([(qX3, .inr (3, [.null, .null, .null, .null, .null, .int 0]))]) := hD
  refine W.widen (k := 1) (n := 6) (by omega) (by omega) ?_
  refine lv_dup hx hb dL_law_3 rfl ?_
  have hPc := hP.sub (ws' := [(qX3, .inr (3, [.null, .null, .null, .null, .null, .int 0]))]) [0] rfl
  have hDc := hD.sub (ws' := [(qX3, .inr (3, [.null, .null, .null, .null, .null, .int 0]))]) [0] (by decide) rfl
  have hFc := va_free (wc := [(qX3, .inr (3, [.null, .null, .null, .null, .null, .int 0]))]) hD hS hA [0] rfl
  refine va_callv (va_runI (As := []) (rest := [.ref qX3]) ⟨hx, hb, hml, hown, ht⟩ (c_X3_init l D cI cZ qX3 H.size) (kI_L_64.cw ht rfl rfl ⟨Nat.le_of_ble_eq_true rfl, Nat.le_of_ble_eq_true rfl⟩) ⟨fun a U g mk q => ⟨q.1, q.2.1, q.2.2.1.calling, q.2.2.2⟩, fun U hU hW => ⟨rfl, by rw [hU], xB.at hPc hK2 hN hU hW, hDc.weaken (fun _ _ _ _ => trivial)⟩⟩ rfl rfl hl.1 rfl (lv_room (Nat.le_of_ble_eq_true rfl)) dL_law_4 ⟨Nat.le_of_ble_eq_true rfl, Nat.le_of_ble_eq_true rfl⟩) hS (fun q _ h => hFc q h) hFc (fun u3 t H1 locs ht9 hvm hw hB hz1 hk1 hS => ?_)
  obtain ⟨hP1, hD1⟩ := hB
  rw [ht9] at hP1
  obtain ⟨hP9, hD9⟩ := va_join (wr := []) (w1 := (wC u3 cI cZ C0)) hP hD [0] [] rfl rfl (by decide) (by decide) hk1 hFc hP1 hD1
  generalize H1 = H at hP9 hS ⊢
  subst hw
  have hP : va_P D vwCl (wC u3 cI cZ C0) H := hP9
  have hD : va_D (fun q : Nat => s.heap.size ≤ q) (wC u3 cI cZ C0) := hD9
  refine W.widen (k := 18) (n := 1710) (by omega) (by omega) ?_
  refine lv_astore_n (lv' := [(1, .ref (u3 17)), (0, .ref b)]) hx hb dL_law_7 rfl hl (by decide) rfl (fun ls hl => ?_)
  refine va_new (ci := 4) (fs := [.int 0, .int 0, .int 0, .null, .null, .null, .null, .null, .null, .null, .null, .null, .null, .null, .null, .null, .int 0, .null]) (C := RX4) (T := TX4) (N := 18) hx hb ht inX4 tyX4 tyX4_ok hown (ht _ wd566) (ht _ wd567) (ht _ wd25) hK hP hD hS hA rfl (fun j hj => by rcases (show j = 0 ∨ j = 1 ∨ j = 2 ∨ j = 3 ∨ j = 4 ∨ j = 5 ∨ j = 6 ∨ j = 7 ∨ j = 8 ∨ j = 9 ∨ j = 10 ∨ j = 11 ∨ j = 12 ∨ j = 13 ∨ j = 14 ∨ j = 15 ∨ j = 16 ∨ j = 17 by omega) with rfl | rfl | rfl | rfl | rfl | rfl | rfl | rfl | rfl | rfl | rfl | rfl | rfl | rfl | rfl | rfl | rfl | rfl <;> rfl) (Nat.le_of_ble_eq_true rfl) (Nat.le_of_ble_eq_true rfl) dL_law_8 (fun qX4 H hP hD hS => ?_)
  have hP : va_P D vwCl (wC u3 cI cZ C0 ++ [(qX4, .inr (4, [.int 0, .int 0, .int 0, .null, .null, .null, .null, .null, .null, .null, .null, .null, .null, .null, .null, .null, .int 0, .null]))]) H := hP
  have hD : va_D (fun q : Nat => s.heap.size ≤ q) (wC u3 cI cZ C0 ++ [(qX4, .inr (4, [.int 0, .int 0, .int 0, .null, .null, .null, .null, .null, .null, .null, .null, .null, .null, .null, .null, .null, .int 0, .null]))]) := hD
  refine W.widen (k := 19) (n := 1728) (by omega) (by omega) ?_
  refine lv_dup hx hb dL_law_11 rfl ?_
  have hPc := hP.sub (ws' := [(qX4, .inr (4, [.int 0, .int 0, .int 0, .null, .null, .null, .null, .null, .null, .null, .null, .null, .null, .null, .null, .null, .int 0, .null]))]) [18] rfl
  have hDc := hD.sub (ws' := [(qX4, .inr (4, [.int 0, .int 0, .int 0, .null, .null, .null, .null, .null, .null, .null, .null, .null, .null, .null, .null, .null, .int 0, .null]))]) [18] (by decide) rfl
  have hFc := va_free (wc := [(qX4, .inr (4, [.int 0, .int 0, .int 0, .null, .null, .null, .null, .null, .null, .null, .null, .null, .null, .null, .null, .null, .int 0, .null]))]) hD hS hA [18] rfl
  refine va_callv (va_runI (As := []) (rest := [.ref qX4]) ⟨hx, hb, hml, hown, ht⟩ (c_X4_init l D cI cZ qX4 H.size) (kI_L_67.cw ht rfl rfl ⟨Nat.le_of_ble_eq_true rfl, Nat.le_of_ble_eq_true rfl⟩) ⟨fun a U g mk q => ⟨q.1, q.2.1, q.2.2.1.calling, q.2.2.2⟩, fun U hU hW => ⟨rfl, by rw [hU], xB.at hPc hK2 hN hU hW, hDc.weaken (fun _ _ _ _ => trivial)⟩⟩ rfl rfl hl.1 rfl (lv_room (Nat.le_of_ble_eq_true rfl)) dL_law_12 ⟨Nat.le_of_ble_eq_true rfl, Nat.le_of_ble_eq_true rfl⟩) hS (fun q _ h => hFc q h) hFc (fun u4 t H1 locs ht9 hvm hw hB hz1 hk1 hS => ?_)
  obtain ⟨hP1, hD1⟩ := hB
  rw [ht9] at hP1
  obtain ⟨hP9, hD9⟩ := va_join (wr := (wC u3 cI cZ C0)) (w1 := (wM u4 cI cZ M0)) hP hD [18] [0, 1, 2, 3, 4, 5, 6, 7, 8, 9, 10, 11, 12, 13, 14, 15, 16, 17] rfl rfl (by decide) (by decide) hk1 hFc hP1 hD1
  generalize H1 = H at hP9 hS ⊢
  subst hw
  have hP : va_P D vwCl (wC u3 cI cZ C0 ++ wM u4 cI cZ M0) H := hP9
  have hD : va_D (fun q : Nat => s.heap.size ≤ q) (wC u3 cI cZ C0 ++ wM u4 cI cZ M0) := hD9
  refine W.widen (k := 33) (n := 3398) (by omega) (by omega) ?_
  refine lv_astore_n (lv' := [(2, .ref (u4 0)), (1, .ref (u3 17)), (0, .ref b)]) hx hb dL_law_15 rfl hl (by decide) rfl (fun ls hl => ?_)
  refine lv_iconst (v := nI 1) hx hb dL_law_16 (by decide) ?_
  refine xa_newa (a0 := (1, .inr (.inl (fun _ => 0)))) (N' := 1) (atype := .long) hx hb (ht _ wd736) (ty := .long) rfl (fun _ _ h => h) 2 rfl hK hP hD hS hA (fun _ => rfl) (by decide) (by decide) (by decide) (Nat.le_of_ble_eq_true rfl) (Nat.le_of_ble_eq_true rfl) dL_law_17 (fun o H hP hD hS => ?_)
  refine W.widen (k := 34 + 0) (n := 3399 + 6 * 0) (by omega) (by omega) ?_
  have hP9 := hP.sub (ws' := wL u3 u4 o cI cZ cL C0 (fun _ => 0) M0) [0, 1, 2, 3, 4, 5, 6, 7, 8, 9, 10, 11, 12, 13, 14, 15, 16, 17, 33, 18, 19, 20, 21, 22, 23, 24, 25, 26, 27, 28, 29, 30, 31, 32] rfl
  have hD9 := hD.sub (ws' := wL u3 u4 o cI cZ cL C0 (fun _ => 0) M0) [0, 1, 2, 3, 4, 5, 6, 7, 8, 9, 10, 11, 12, 13, 14, 15, 16, 17, 33, 18, 19, 20, 21, 22, 23, 24, 25, 26, 27, 28, 29, 30, 31, 32] (by decide) rfl
  refine lv_astore_n (lv' := [(3, .ref o), (2, .ref (u4 0)), (1, .ref (u3 17)), (0, .ref b)]) hx hb dL_law_19 rfl hl (by decide) rfl (fun ls hl => ?_)
  refine lv_iconst (v := nI 0) hx hb dL_law_20 (by decide) ?_
  refine lv_istore (lv' := [(4, .int (nI 0)), (3, .ref o), (2, .ref (u4 0)), (1, .ref (u3 17)), (0, .ref b)]) hx hb dL_law_21 hl (by decide) rfl (fun ls hl => ?_)
  exact law_loop l hl9 hx hb hr hlocks hml hown ht hN hT9 hE hX hbl hL hK (L + 1) 0 C0 M0 (fun _ => 0) _ _ ls (by omega) (Nat.zero_le _) inv_0 hP9 hD9 hS (lv_sub hl [4, 3, 2, 1, 0] rfl)
