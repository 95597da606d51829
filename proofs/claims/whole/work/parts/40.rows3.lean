/-! throwing methods -/
def xeL : List String := ["java/lang/IllegalArgumentException", "java/lang/IndexOutOfBoundsException", "java/lang/IllegalStateException", "java/lang/UnsupportedOperationException"]
def xsL : List (Nat × String) := [(208, "no such kind"), (121, "no such incident"), (210, "no such piece"), (51, "side is 1, 2 or 3"), (219, "a minute is 0 .. 99,999"), (221, "to is above from, up to 99,999"), (226, "period is 1 .. 99, length 0 .. the period"), (228, "percent is 1 .. 99"), (72, "there are 100 closures"), (206, "no such closure"), (95, "no event, or answered before"), (102, "by is 0 .. 999"), (108, "lifted before, a crossing, or at its end"), (217, "no such unit"), (212, "side is 1 or 2"), (139, "the route has 12 steps"), (144, "1 .. 2,000 minutes, up to 99,999"), (157, "to is from .. from + 2,000"), (167, "i is below 0"), (179, "no such notice is kept, or no such what")]
def xnm : List String := ["java/lang/RuntimeException", "java/lang/Exception"]
def xdL : List MethodName := [Bundle.initS "java/lang/RuntimeException", Bundle.initS "java/lang/Exception", Bundle.initS Bundle.tN]
/-- what a throw needs of the state: Throwable's statics (in cells below h0), the texts, the classes -/
def xT (h0 : Nat) (U : State) : Prop :=
  vx_Zq Bundle.tN "UNASSIGNED_STACK" Bundle.steD (fun q => h0 ≤ q) U U.heap ∧ vx_Zq Bundle.tN "SUPPRESSED_SENTINEL" Bundle.listD (fun q => h0 ≤ q) U U.heap ∧ (∀ q ∈ xsL, ∃ sa, vk_R RX3 q.1 q.2 sa U) ∧ (∀ x ∈ xdL, va_Nw (.declares x) U) ∧ (∀ X ∈ xeL, va_Nw (.castable X X) U) ∧ h0 ≤ U.heap.size
theorem xT.at {h0 : Nat} {s U : State} {H : Heap} {locs : List Loc} (h : xT h0 s) (hS : va_S (fun q => h0 ≤ q) s.heap H locs) (hU : U.heap = H) (hW : s.WarmedH U.vm) : xT h0 U := by
  obtain ⟨h1, h2, h3, h4, h5, h6⟩ := h
  refine ⟨by rw [hU]; exact vx_Zq.moved hW.alike (h1.kept hS.2.1), by rw [hU]; exact vx_Zq.moved hW.alike (h2.kept hS.2.1), fun q hq => ?_, fun x hx => va_Nw.warmD hW (h4 x hx), fun X hX => va_Nw.warmC hW (h5 X hX), by rw [hU]; exact Nat.le_trans h6 hS.1⟩
  obtain ⟨sa, z⟩ := h3 q hq
  exact ⟨sa, vk_R.warm hW z⟩
theorem xT.calling {h0 : Nat} {U : State} {g : JFrame} {mk : MethodId} {a : Array Value} (h : xT h0 U) : xT h0 (U.calling g mk a) := by
  obtain ⟨h1, h2, h3, h4, h5, h6⟩ := h
  refine ⟨vx_Zq.moved (u := U) (U := U.calling g mk a) (Vm.Alike.refl U.vm) h1, vx_Zq.moved (u := U) (U := U.calling g mk a) (Vm.Alike.refl U.vm) h2, fun q hq => ?_, fun x hx => va_Nw.same (by rfl) (u := U) (U := U.calling g mk a) rfl (h4 x hx), fun X hX => va_Nw.same (by rfl) (u := U) (U := U.calling g mk a) rfl (h5 X hX), h6⟩
  obtain ⟨sa, z⟩ := h3 q hq
  exact ⟨sa, vk_R.same (u := U) (U := U.calling g mk a) rfl z⟩
/-- the words of a throw -/
def xcT (ik is ic : Nat) (cls text : String) : Prop := Bundle.fit cls = true ∧ Cond.classLink RX3 ik cls ∈ wBIG ∧ Cond.initialized cls ∈ wBIG ∧ (is, text) ∈ xsL ∧ cls ∈ xeL ∧
  (∀ w ∈ (vx_atS RX3 ic cls xnm).filter goodWord, w ∈ wBIG) ∧ (∀ w ∈ (vx_atS RX3 ic cls xnm).filter (fun w => !goodWord w), w ∈ Cond.castable cls cls :: xdL.map Cond.declares) ∧ (∀ w ∈ Cond.classLink RX3 ik cls :: Cond.initialized cls :: vx_atS RX3 ic cls xnm, vx_ot w = true)
theorem xnm_fit : ∀ n ∈ xnm, Bundle.fit n = true := by decide +kernel
theorem xbig_of {L : List Cond} (h : ∀ w ∈ L.filter goodWord, w ∈ lw_tbl) : ∀ w ∈ L.filter goodWord, w ∈ wBIG := fun w hw => List.mem_filter.mpr ⟨h w hw, (List.mem_filter.mp hw).2⟩
theorem xg_IAE : ∀ w ∈ (vx_atS RX3 123 "java/lang/IllegalArgumentException" xnm).filter goodWord, w ∈ wBIG := xbig_of (by decide +kernel)
theorem xb_IAE : ∀ w ∈ (vx_atS RX3 123 "java/lang/IllegalArgumentException" xnm).filter (fun w => !goodWord w), w ∈ Cond.castable "java/lang/IllegalArgumentException" "java/lang/IllegalArgumentException" :: xdL.map Cond.declares := by decide +kernel
theorem xo_IAE : ∀ w ∈ Cond.classLink RX3 119 "java/lang/IllegalArgumentException" :: Cond.initialized "java/lang/IllegalArgumentException" :: vx_atS RX3 123 "java/lang/IllegalArgumentException" xnm, vx_ot w = true := by decide +kernel
theorem xg_IOE : ∀ w ∈ (vx_atS RX3 53 "java/lang/IndexOutOfBoundsException" xnm).filter goodWord, w ∈ wBIG := xbig_of (by decide +kernel)
theorem xb_IOE : ∀ w ∈ (vx_atS RX3 53 "java/lang/IndexOutOfBoundsException" xnm).filter (fun w => !goodWord w), w ∈ Cond.castable "java/lang/IndexOutOfBoundsException" "java/lang/IndexOutOfBoundsException" :: xdL.map Cond.declares := by decide +kernel
theorem xo_IOE : ∀ w ∈ Cond.classLink RX3 49 "java/lang/IndexOutOfBoundsException" :: Cond.initialized "java/lang/IndexOutOfBoundsException" :: vx_atS RX3 53 "java/lang/IndexOutOfBoundsException" xnm, vx_ot w = true := by decide +kernel
theorem xg_ISE : ∀ w ∈ (vx_atS RX3 97 "java/lang/IllegalStateException" xnm).filter goodWord, w ∈ wBIG := xbig_of (by decide +kernel)
theorem xb_ISE : ∀ w ∈ (vx_atS RX3 97 "java/lang/IllegalStateException" xnm).filter (fun w => !goodWord w), w ∈ Cond.castable "java/lang/IllegalStateException" "java/lang/IllegalStateException" :: xdL.map Cond.declares := by decide +kernel
theorem xo_ISE : ∀ w ∈ Cond.classLink RX3 93 "java/lang/IllegalStateException" :: Cond.initialized "java/lang/IllegalStateException" :: vx_atS RX3 97 "java/lang/IllegalStateException" xnm, vx_ot w = true := by decide +kernel
theorem xg_UOE : ∀ w ∈ (vx_atS RX3 74 "java/lang/UnsupportedOperationException" xnm).filter goodWord, w ∈ wBIG := xbig_of (by decide +kernel)
theorem xb_UOE : ∀ w ∈ (vx_atS RX3 74 "java/lang/UnsupportedOperationException" xnm).filter (fun w => !goodWord w), w ∈ Cond.castable "java/lang/UnsupportedOperationException" "java/lang/UnsupportedOperationException" :: xdL.map Cond.declares := by decide +kernel
theorem xo_UOE : ∀ w ∈ Cond.classLink RX3 70 "java/lang/UnsupportedOperationException" :: Cond.initialized "java/lang/UnsupportedOperationException" :: vx_atS RX3 74 "java/lang/UnsupportedOperationException" xnm, vx_ot w = true := by decide +kernel
theorem kT_IAE_208 : xcT 119 208 123 "java/lang/IllegalArgumentException" "no such kind" := ⟨by decide +kernel, wd143, wd29, by decide +kernel, by decide +kernel, xg_IAE, xb_IAE, xo_IAE⟩
theorem kT_IOE_208 : xcT 49 208 53 "java/lang/IndexOutOfBoundsException" "no such kind" := ⟨by decide +kernel, wd220, wd30, by decide +kernel, by decide +kernel, xg_IOE, xb_IOE, xo_IOE⟩
theorem kT_ISE_208 : xcT 93 208 97 "java/lang/IllegalStateException" "no such kind" := ⟨by decide +kernel, wd361, wd33, by decide +kernel, by decide +kernel, xg_ISE, xb_ISE, xo_ISE⟩
theorem kT_UOE_208 : xcT 70 208 74 "java/lang/UnsupportedOperationException" "no such kind" := ⟨by decide +kernel, wd266, wd31, by decide +kernel, by decide +kernel, xg_UOE, xb_UOE, xo_UOE⟩
theorem kT_IAE_121 : xcT 119 121 123 "java/lang/IllegalArgumentException" "no such incident" := ⟨by decide +kernel, wd143, wd29, by decide +kernel, by decide +kernel, xg_IAE, xb_IAE, xo_IAE⟩
theorem kT_IOE_121 : xcT 49 121 53 "java/lang/IndexOutOfBoundsException" "no such incident" := ⟨by decide +kernel, wd220, wd30, by decide +kernel, by decide +kernel, xg_IOE, xb_IOE, xo_IOE⟩
theorem kT_ISE_121 : xcT 93 121 97 "java/lang/IllegalStateException" "no such incident" := ⟨by decide +kernel, wd361, wd33, by decide +kernel, by decide +kernel, xg_ISE, xb_ISE, xo_ISE⟩
theorem kT_UOE_121 : xcT 70 121 74 "java/lang/UnsupportedOperationException" "no such incident" := ⟨by decide +kernel, wd266, wd31, by decide +kernel, by decide +kernel, xg_UOE, xb_UOE, xo_UOE⟩
theorem kT_IAE_210 : xcT 119 210 123 "java/lang/IllegalArgumentException" "no such piece" := ⟨by decide +kernel, wd143, wd29, by decide +kernel, by decide +kernel, xg_IAE, xb_IAE, xo_IAE⟩
theorem kT_IOE_210 : xcT 49 210 53 "java/lang/IndexOutOfBoundsException" "no such piece" := ⟨by decide +kernel, wd220, wd30, by decide +kernel, by decide +kernel, xg_IOE, xb_IOE, xo_IOE⟩
theorem kT_ISE_210 : xcT 93 210 97 "java/lang/IllegalStateException" "no such piece" := ⟨by decide +kernel, wd361, wd33, by decide +kernel, by decide +kernel, xg_ISE, xb_ISE, xo_ISE⟩
theorem kT_UOE_210 : xcT 70 210 74 "java/lang/UnsupportedOperationException" "no such piece" := ⟨by decide +kernel, wd266, wd31, by decide +kernel, by decide +kernel, xg_UOE, xb_UOE, xo_UOE⟩
theorem kT_IAE_51 : xcT 119 51 123 "java/lang/IllegalArgumentException" "side is 1, 2 or 3" := ⟨by decide +kernel, wd143, wd29, by decide +kernel, by decide +kernel, xg_IAE, xb_IAE, xo_IAE⟩
theorem kT_IOE_51 : xcT 49 51 53 "java/lang/IndexOutOfBoundsException" "side is 1, 2 or 3" := ⟨by decide +kernel, wd220, wd30, by decide +kernel, by decide +kernel, xg_IOE, xb_IOE, xo_IOE⟩
theorem kT_ISE_51 : xcT 93 51 97 "java/lang/IllegalStateException" "side is 1, 2 or 3" := ⟨by decide +kernel, wd361, wd33, by decide +kernel, by decide +kernel, xg_ISE, xb_ISE, xo_ISE⟩
theorem kT_UOE_51 : xcT 70 51 74 "java/lang/UnsupportedOperationException" "side is 1, 2 or 3" := ⟨by decide +kernel, wd266, wd31, by decide +kernel, by decide +kernel, xg_UOE, xb_UOE, xo_UOE⟩
theorem kT_IAE_219 : xcT 119 219 123 "java/lang/IllegalArgumentException" "a minute is 0 .. 99,999" := ⟨by decide +kernel, wd143, wd29, by decide +kernel, by decide +kernel, xg_IAE, xb_IAE, xo_IAE⟩
theorem kT_IOE_219 : xcT 49 219 53 "java/lang/IndexOutOfBoundsException" "a minute is 0 .. 99,999" := ⟨by decide +kernel, wd220, wd30, by decide +kernel, by decide +kernel, xg_IOE, xb_IOE, xo_IOE⟩
theorem kT_ISE_219 : xcT 93 219 97 "java/lang/IllegalStateException" "a minute is 0 .. 99,999" := ⟨by decide +kernel, wd361, wd33, by decide +kernel, by decide +kernel, xg_ISE, xb_ISE, xo_ISE⟩
theorem kT_UOE_219 : xcT 70 219 74 "java/lang/UnsupportedOperationException" "a minute is 0 .. 99,999" := ⟨by decide +kernel, wd266, wd31, by decide +kernel, by decide +kernel, xg_UOE, xb_UOE, xo_UOE⟩
theorem kT_IAE_221 : xcT 119 221 123 "java/lang/IllegalArgumentException" "to is above from, up to 99,999" := ⟨by decide +kernel, wd143, wd29, by decide +kernel, by decide +kernel, xg_IAE, xb_IAE, xo_IAE⟩
theorem kT_IOE_221 : xcT 49 221 53 "java/lang/IndexOutOfBoundsException" "to is above from, up to 99,999" := ⟨by decide +kernel, wd220, wd30, by decide +kernel, by decide +kernel, xg_IOE, xb_IOE, xo_IOE⟩
theorem kT_ISE_221 : xcT 93 221 97 "java/lang/IllegalStateException" "to is above from, up to 99,999" := ⟨by decide +kernel, wd361, wd33, by decide +kernel, by decide +kernel, xg_ISE, xb_ISE, xo_ISE⟩
theorem kT_UOE_221 : xcT 70 221 74 "java/lang/UnsupportedOperationException" "to is above from, up to 99,999" := ⟨by decide +kernel, wd266, wd31, by decide +kernel, by decide +kernel, xg_UOE, xb_UOE, xo_UOE⟩
theorem kT_IAE_226 : xcT 119 226 123 "java/lang/IllegalArgumentException" "period is 1 .. 99, length 0 .. the period" := ⟨by decide +kernel, wd143, wd29, by decide +kernel, by decide +kernel, xg_IAE, xb_IAE, xo_IAE⟩
theorem kT_IOE_226 : xcT 49 226 53 "java/lang/IndexOutOfBoundsException" "period is 1 .. 99, length 0 .. the period" := ⟨by decide +kernel, wd220, wd30, by decide +kernel, by decide +kernel, xg_IOE, xb_IOE, xo_IOE⟩
theorem kT_ISE_226 : xcT 93 226 97 "java/lang/IllegalStateException" "period is 1 .. 99, length 0 .. the period" := ⟨by decide +kernel, wd361, wd33, by decide +kernel, by decide +kernel, xg_ISE, xb_ISE, xo_ISE⟩
theorem kT_UOE_226 : xcT 70 226 74 "java/lang/UnsupportedOperationException" "period is 1 .. 99, length 0 .. the period" := ⟨by decide +kernel, wd266, wd31, by decide +kernel, by decide +kernel, xg_UOE, xb_UOE, xo_UOE⟩
theorem kT_IAE_228 : xcT 119 228 123 "java/lang/IllegalArgumentException" "percent is 1 .. 99" := ⟨by decide +kernel, wd143, wd29, by decide +kernel, by decide +kernel, xg_IAE, xb_IAE, xo_IAE⟩
theorem kT_IOE_228 : xcT 49 228 53 "java/lang/IndexOutOfBoundsException" "percent is 1 .. 99" := ⟨by decide +kernel, wd220, wd30, by decide +kernel, by decide +kernel, xg_IOE, xb_IOE, xo_IOE⟩
theorem kT_ISE_228 : xcT 93 228 97 "java/lang/IllegalStateException" "percent is 1 .. 99" := ⟨by decide +kernel, wd361, wd33, by decide +kernel, by decide +kernel, xg_ISE, xb_ISE, xo_ISE⟩
theorem kT_UOE_228 : xcT 70 228 74 "java/lang/UnsupportedOperationException" "percent is 1 .. 99" := ⟨by decide +kernel, wd266, wd31, by decide +kernel, by decide +kernel, xg_UOE, xb_UOE, xo_UOE⟩
theorem kT_IAE_72 : xcT 119 72 123 "java/lang/IllegalArgumentException" "there are 100 closures" := ⟨by decide +kernel, wd143, wd29, by decide +kernel, by decide +kernel, xg_IAE, xb_IAE, xo_IAE⟩
theorem kT_IOE_72 : xcT 49 72 53 "java/lang/IndexOutOfBoundsException" "there are 100 closures" := ⟨by decide +kernel, wd220, wd30, by decide +kernel, by decide +kernel, xg_IOE, xb_IOE, xo_IOE⟩
theorem kT_ISE_72 : xcT 93 72 97 "java/lang/IllegalStateException" "there are 100 closures" := ⟨by decide +kernel, wd361, wd33, by decide +kernel, by decide +kernel, xg_ISE, xb_ISE, xo_ISE⟩
theorem kT_UOE_72 : xcT 70 72 74 "java/lang/UnsupportedOperationException" "there are 100 closures" := ⟨by decide +kernel, wd266, wd31, by decide +kernel, by decide +kernel, xg_UOE, xb_UOE, xo_UOE⟩
theorem kT_IAE_206 : xcT 119 206 123 "java/lang/IllegalArgumentException" "no such closure" := ⟨by decide +kernel, wd143, wd29, by decide +kernel, by decide +kernel, xg_IAE, xb_IAE, xo_IAE⟩
theorem kT_IOE_206 : xcT 49 206 53 "java/lang/IndexOutOfBoundsException" "no such closure" := ⟨by decide +kernel, wd220, wd30, by decide +kernel, by decide +kernel, xg_IOE, xb_IOE, xo_IOE⟩
theorem kT_ISE_206 : xcT 93 206 97 "java/lang/IllegalStateException" "no such closure" := ⟨by decide +kernel, wd361, wd33, by decide +kernel, by decide +kernel, xg_ISE, xb_ISE, xo_ISE⟩
theorem kT_UOE_206 : xcT 70 206 74 "java/lang/UnsupportedOperationException" "no such closure" := ⟨by decide +kernel, wd266, wd31, by decide +kernel, by decide +kernel, xg_UOE, xb_UOE, xo_UOE⟩
theorem kT_IAE_95 : xcT 119 95 123 "java/lang/IllegalArgumentException" "no event, or answered before" := ⟨by decide +kernel, wd143, wd29, by decide +kernel, by decide +kernel, xg_IAE, xb_IAE, xo_IAE⟩
theorem kT_IOE_95 : xcT 49 95 53 "java/lang/IndexOutOfBoundsException" "no event, or answered before" := ⟨by decide +kernel, wd220, wd30, by decide +kernel, by decide +kernel, xg_IOE, xb_IOE, xo_IOE⟩
theorem kT_ISE_95 : xcT 93 95 97 "java/lang/IllegalStateException" "no event, or answered before" := ⟨by decide +kernel, wd361, wd33, by decide +kernel, by decide +kernel, xg_ISE, xb_ISE, xo_ISE⟩
theorem kT_UOE_95 : xcT 70 95 74 "java/lang/UnsupportedOperationException" "no event, or answered before" := ⟨by decide +kernel, wd266, wd31, by decide +kernel, by decide +kernel, xg_UOE, xb_UOE, xo_UOE⟩
theorem kT_IAE_102 : xcT 119 102 123 "java/lang/IllegalArgumentException" "by is 0 .. 999" := ⟨by decide +kernel, wd143, wd29, by decide +kernel, by decide +kernel, xg_IAE, xb_IAE, xo_IAE⟩
theorem kT_IOE_102 : xcT 49 102 53 "java/lang/IndexOutOfBoundsException" "by is 0 .. 999" := ⟨by decide +kernel, wd220, wd30, by decide +kernel, by decide +kernel, xg_IOE, xb_IOE, xo_IOE⟩
theorem kT_ISE_102 : xcT 93 102 97 "java/lang/IllegalStateException" "by is 0 .. 999" := ⟨by decide +kernel, wd361, wd33, by decide +kernel, by decide +kernel, xg_ISE, xb_ISE, xo_ISE⟩
theorem kT_UOE_102 : xcT 70 102 74 "java/lang/UnsupportedOperationException" "by is 0 .. 999" := ⟨by decide +kernel, wd266, wd31, by decide +kernel, by decide +kernel, xg_UOE, xb_UOE, xo_UOE⟩
theorem kT_IAE_108 : xcT 119 108 123 "java/lang/IllegalArgumentException" "lifted before, a crossing, or at its end" := ⟨by decide +kernel, wd143, wd29, by decide +kernel, by decide +kernel, xg_IAE, xb_IAE, xo_IAE⟩
theorem kT_IOE_108 : xcT 49 108 53 "java/lang/IndexOutOfBoundsException" "lifted before, a crossing, or at its end" := ⟨by decide +kernel, wd220, wd30, by decide +kernel, by decide +kernel, xg_IOE, xb_IOE, xo_IOE⟩
theorem kT_ISE_108 : xcT 93 108 97 "java/lang/IllegalStateException" "lifted before, a crossing, or at its end" := ⟨by decide +kernel, wd361, wd33, by decide +kernel, by decide +kernel, xg_ISE, xb_ISE, xo_ISE⟩
theorem kT_UOE_108 : xcT 70 108 74 "java/lang/UnsupportedOperationException" "lifted before, a crossing, or at its end" := ⟨by decide +kernel, wd266, wd31, by decide +kernel, by decide +kernel, xg_UOE, xb_UOE, xo_UOE⟩
theorem kT_IAE_217 : xcT 119 217 123 "java/lang/IllegalArgumentException" "no such unit" := ⟨by decide +kernel, wd143, wd29, by decide +kernel, by decide +kernel, xg_IAE, xb_IAE, xo_IAE⟩
theorem kT_IOE_217 : xcT 49 217 53 "java/lang/IndexOutOfBoundsException" "no such unit" := ⟨by decide +kernel, wd220, wd30, by decide +kernel, by decide +kernel, xg_IOE, xb_IOE, xo_IOE⟩
theorem kT_ISE_217 : xcT 93 217 97 "java/lang/IllegalStateException" "no such unit" := ⟨by decide +kernel, wd361, wd33, by decide +kernel, by decide +kernel, xg_ISE, xb_ISE, xo_ISE⟩
theorem kT_UOE_217 : xcT 70 217 74 "java/lang/UnsupportedOperationException" "no such unit" := ⟨by decide +kernel, wd266, wd31, by decide +kernel, by decide +kernel, xg_UOE, xb_UOE, xo_UOE⟩
theorem kT_IAE_212 : xcT 119 212 123 "java/lang/IllegalArgumentException" "side is 1 or 2" := ⟨by decide +kernel, wd143, wd29, by decide +kernel, by decide +kernel, xg_IAE, xb_IAE, xo_IAE⟩
theorem kT_IOE_212 : xcT 49 212 53 "java/lang/IndexOutOfBoundsException" "side is 1 or 2" := ⟨by decide +kernel, wd220, wd30, by decide +kernel, by decide +kernel, xg_IOE, xb_IOE, xo_IOE⟩
theorem kT_ISE_212 : xcT 93 212 97 "java/lang/IllegalStateException" "side is 1 or 2" := ⟨by decide +kernel, wd361, wd33, by decide +kernel, by decide +kernel, xg_ISE, xb_ISE, xo_ISE⟩
theorem kT_UOE_212 : xcT 70 212 74 "java/lang/UnsupportedOperationException" "side is 1 or 2" := ⟨by decide +kernel, wd266, wd31, by decide +kernel, by decide +kernel, xg_UOE, xb_UOE, xo_UOE⟩
theorem kT_IAE_139 : xcT 119 139 123 "java/lang/IllegalArgumentException" "the route has 12 steps" := ⟨by decide +kernel, wd143, wd29, by decide +kernel, by decide +kernel, xg_IAE, xb_IAE, xo_IAE⟩
theorem kT_IOE_139 : xcT 49 139 53 "java/lang/IndexOutOfBoundsException" "the route has 12 steps" := ⟨by decide +kernel, wd220, wd30, by decide +kernel, by decide +kernel, xg_IOE, xb_IOE, xo_IOE⟩
theorem kT_ISE_139 : xcT 93 139 97 "java/lang/IllegalStateException" "the route has 12 steps" := ⟨by decide +kernel, wd361, wd33, by decide +kernel, by decide +kernel, xg_ISE, xb_ISE, xo_ISE⟩
theorem kT_UOE_139 : xcT 70 139 74 "java/lang/UnsupportedOperationException" "the route has 12 steps" := ⟨by decide +kernel, wd266, wd31, by decide +kernel, by decide +kernel, xg_UOE, xb_UOE, xo_UOE⟩
theorem kT_IAE_144 : xcT 119 144 123 "java/lang/IllegalArgumentException" "1 .. 2,000 minutes, up to 99,999" := ⟨by decide +kernel, wd143, wd29, by decide +kernel, by decide +kernel, xg_IAE, xb_IAE, xo_IAE⟩
theorem kT_IOE_144 : xcT 49 144 53 "java/lang/IndexOutOfBoundsException" "1 .. 2,000 minutes, up to 99,999" := ⟨by decide +kernel, wd220, wd30, by decide +kernel, by decide +kernel, xg_IOE, xb_IOE, xo_IOE⟩
theorem kT_ISE_144 : xcT 93 144 97 "java/lang/IllegalStateException" "1 .. 2,000 minutes, up to 99,999" := ⟨by decide +kernel, wd361, wd33, by decide +kernel, by decide +kernel, xg_ISE, xb_ISE, xo_ISE⟩
theorem kT_UOE_144 : xcT 70 144 74 "java/lang/UnsupportedOperationException" "1 .. 2,000 minutes, up to 99,999" := ⟨by decide +kernel, wd266, wd31, by decide +kernel, by decide +kernel, xg_UOE, xb_UOE, xo_UOE⟩
theorem kT_IAE_157 : xcT 119 157 123 "java/lang/IllegalArgumentException" "to is from .. from + 2,000" := ⟨by decide +kernel, wd143, wd29, by decide +kernel, by decide +kernel, xg_IAE, xb_IAE, xo_IAE⟩
theorem kT_IOE_157 : xcT 49 157 53 "java/lang/IndexOutOfBoundsException" "to is from .. from + 2,000" := ⟨by decide +kernel, wd220, wd30, by decide +kernel, by decide +kernel, xg_IOE, xb_IOE, xo_IOE⟩
theorem kT_ISE_157 : xcT 93 157 97 "java/lang/IllegalStateException" "to is from .. from + 2,000" := ⟨by decide +kernel, wd361, wd33, by decide +kernel, by decide +kernel, xg_ISE, xb_ISE, xo_ISE⟩
theorem kT_UOE_157 : xcT 70 157 74 "java/lang/UnsupportedOperationException" "to is from .. from + 2,000" := ⟨by decide +kernel, wd266, wd31, by decide +kernel, by decide +kernel, xg_UOE, xb_UOE, xo_UOE⟩
theorem kT_IAE_167 : xcT 119 167 123 "java/lang/IllegalArgumentException" "i is below 0" := ⟨by decide +kernel, wd143, wd29, by decide +kernel, by decide +kernel, xg_IAE, xb_IAE, xo_IAE⟩
theorem kT_IOE_167 : xcT 49 167 53 "java/lang/IndexOutOfBoundsException" "i is below 0" := ⟨by decide +kernel, wd220, wd30, by decide +kernel, by decide +kernel, xg_IOE, xb_IOE, xo_IOE⟩
theorem kT_ISE_167 : xcT 93 167 97 "java/lang/IllegalStateException" "i is below 0" := ⟨by decide +kernel, wd361, wd33, by decide +kernel, by decide +kernel, xg_ISE, xb_ISE, xo_ISE⟩
theorem kT_UOE_167 : xcT 70 167 74 "java/lang/UnsupportedOperationException" "i is below 0" := ⟨by decide +kernel, wd266, wd31, by decide +kernel, by decide +kernel, xg_UOE, xb_UOE, xo_UOE⟩
theorem kT_IAE_179 : xcT 119 179 123 "java/lang/IllegalArgumentException" "no such notice is kept, or no such what" := ⟨by decide +kernel, wd143, wd29, by decide +kernel, by decide +kernel, xg_IAE, xb_IAE, xo_IAE⟩
theorem kT_IOE_179 : xcT 49 179 53 "java/lang/IndexOutOfBoundsException" "no such notice is kept, or no such what" := ⟨by decide +kernel, wd220, wd30, by decide +kernel, by decide +kernel, xg_IOE, xb_IOE, xo_IOE⟩
theorem kT_ISE_179 : xcT 93 179 97 "java/lang/IllegalStateException" "no such notice is kept, or no such what" := ⟨by decide +kernel, wd361, wd33, by decide +kernel, by decide +kernel, xg_ISE, xb_ISE, xo_ISE⟩
theorem kT_UOE_179 : xcT 70 179 74 "java/lang/UnsupportedOperationException" "no such notice is kept, or no such what" := ⟨by decide +kernel, wd266, wd31, by decide +kernel, by decide +kernel, xg_UOE, xb_UOE, xo_UOE⟩
abbrev xrt (f k : Nat) : Room := { frames := f, cells := 1, slots := 6, locals := k }
def xQv (r : Option Value) (PASS : Prop) : Array Value → State → Outcome → State → Prop := fun _ st o t => o = .returned r ∧ t.heap = st.heap ∧ PASS
def xXv (FAIL : String → Prop) : String → State → State → Prop := fun E st t => FAIL E ∧ va_F (fun q => st.heap.size ≤ q) st t
/-- a method that tests: it returns, the heap as it was, or it throws -/
def xTV (l : Launch) (y : MethodName) (bytes : ByteArray) (maxL : Nat) (ret : Option FieldType) (rm : Room) (av : List Value) (D : va_G) (h0 : Nat) (ws : va_W) (tys : List (ClassId × FieldType)) (r : Option Value) (PASS : Prop) (FAIL : String → Prop) : Prop :=
  vx_Met l y (.code y bytes maxL ret :: wBIG) rm (va_Pc av (fun U => xB D ws tys U ∧ xT h0 U)) (xQv r PASS) (xXv FAIL) 1 6 (fun _ => False)
/-- a call of the face: it returns with the world ws', or it throws and nothing has changed -/
def xQp (r : Option Value) (PASS : Prop) (D : va_G) (ws ws' : va_W) : Array Value → State → Outcome → State → Prop := fun a st o t => xQw r D ws ws' a st o t ∧ PASS
def xTP (l : Launch) (y : MethodName) (bytes : ByteArray) (maxL : Nat) (ret : Option FieldType) (rm : Room) (av : List Value) (D : va_G) (h0 : Nat) (ws : va_W) (tys : List (ClassId × FieldType)) (r : Option Value) (ws' : va_W) (PASS : Prop) (FAIL : String → Prop) : Prop :=
  vx_Met l y (.code y bytes maxL ret :: wBIG) rm (va_Pc av (fun U => xB D ws tys U ∧ va_D (fun q => h0 ≤ q) ws ∧ xT h0 U)) (xQp r PASS D ws ws') (xXv FAIL) 1 6 (xA ws)
section XTH
variable {p : Program} {l : Launch} {e : Env} {R : Room} {s : State} {m : MethodId} {args : Array Value} {below : List Frame} {meth : Method} {c : Code} {H : Heap} {locs : List Loc} {cells slots : Nat} {Q : State → Prop}
variable {cc : ByteArray} {pc nL : Nat} {ls : Array Slot} {st0 rest As : List Value} {own C : String} {index maxL n f q h0 : Nat} {y : MethodName} {bytes : ByteArray} {ret : Option FieldType} {D : va_G} {wsub : va_W} {tys : List (ClassId × FieldType)} {b : Nat} {r : Option Value} {PASS : Prop} {FAIL : String → Prop}
/-- one heap: one count of what is new -/
theorem xstand {T T' : State} {locs1 : List Loc} {cells1 slots1 : Nat} (X : Stand p l e R s m args below meth c T locs cells slots) (X' : Stand p l e R s m args below meth c T' locs1 cells1 slots1) (h : T'.heap = T.heap) : Stand p l e R s m args below meth c T' locs cells slots := by
  obtain ⟨a1, a2, a3, a4, a5, a6⟩ := X.same
  obtain ⟨b1, b2, b3, b4, b5, b6⟩ := X'.same
  have e1 : (T'.setVm s.vm).heap = (T.setVm s.vm).heap := h
  exact { X' with same := ⟨b1, b2, by rw [e1]; exact a3, b4, by rw [e1]; exact a5, fun a c0 hc => by rw [e1]; exact a6 a c0 hc⟩ }
theorem xt_go {a : Array Value} (hr : vx_Run p l e R s m args below meth c H locs cells slots 1 6 (F0 m pc ls st0) rest (xQv r PASS a) (xXv FAIL) (fun _ => False))
    (kx : ∀ (E : String) (ce : Cell) (q9 : Addr) (H1 : Heap), FAIL E → H.size ≤ H1.size → (∀ q : Nat, q < H.size → H1[q]? = H[q]?) → H1[q9]? = some ce → ce.vm = .none → s.vm.findClass E = some ce.cls → vx_W p l e R s m args below meth c H1 locs (cells + 1) (slots + 6) Q (F0 m pc ls rest) q9)
    (kk : PASS → W p l e R s m args below meth c H locs cells slots Q (F0 m (pc + 3) ls (r.toList ++ rest))) : W p l e R s m args below meth c H locs cells slots Q (F0 m pc ls st0) := by
  intro T hT X
  rcases hr T hT X with ⟨v, st₀, t, T', L, h0, X', hL, e1, e2, ⟨hv, hh, hp⟩, st⟩ | ⟨q, st₀, t, T', L, E, ce, h0, X', hL, e1, e2, ⟨hF, hz, hk⟩, hce, hcv, hcl, st⟩
  · cases hv
    have eH : T'.heap = H := by rw [e1, hh, h0]
    obtain ⟨t2, a1, b1⟩ := kk hp T' eH (xstand X X' (by rw [eH, hT]))
    exact ⟨t2, st t2 a1, b1⟩
  · rw [h0] at hz hk
    obtain ⟨t2, a1, b1⟩ := kx E ce q T'.heap hF (by rw [e1]; exact hz) (fun q hq => by rw [e1]; exact hk q hq (Nat.not_le.mpr hq)) (by rw [e1]; exact hce) hcv hcl T' rfl (Stand.forget X' (fun q h => (hL q h).elim))
    exact ⟨t2, st.trans a1, b1⟩
/-- not caught here -/
theorem xt_out {E : String} {ce : Cell} {q9 : Addr} {H1 : Heap} {free : Addr → Prop} {Qc : Array Value → State → Outcome → State → Prop} {FX : String → Prop} (htab : ∀ x ∈ c.exceptionTable.toList, False) (hlocks : meth.locks = false) (hF : FX E) (hz : s.heap.size ≤ H1.size) (hk : ∀ q : Nat, q < s.heap.size → H1[q]? = s.heap[q]?) (hce : H1[q9]? = some ce) (hcv : ce.vm = .none) (hcl : s.vm.findClass E = some ce.cls) :
    vx_W p l e R s m args below meth c H1 [] (0 + 1) (0 + 6) (vx_MQ below Qc (xXv FX) args s 1 6 free) (F0 m pc ls rest) q9 :=
  vx_out (fun x hx => (htab x hx).elim) hlocks hce hcv hcl (fun t ht _ => ⟨hF, by rw [ht]; exact hz, fun q hq _ => by rw [ht]; exact hk q hq⟩) (fun z hz => nomatch hz) (Nat.le_refl _) (Nat.le_refl _)
theorem xtS (hx : p.tables.exec = Jvm.exec) (hb : c.code = cc) (hml : c.maxLocals = nL) (hown : s.vm.findClass own = some m.cls) (ht : ∀ w ∈ wBIG, w.before args s = true) (hN : xN s) (hT : xT h0 s)
    (k : xcS own index y bytes maxL ret n) (hM : xTV l y bytes maxL ret (xrt f q) As D h0 wsub tys r PASS FAIL) (hR : f + 1 ≤ R.frames ∧ 8 + (maxL + 11) + q ≤ R.locals)
    (hP : va_P D vwCl wsub s.heap) (hK : va_K D vwCl tys s)
    (hn : As.length = n) (hsize : ls.size = nL) (hst : st0 = As.reverse ++ rest) (hcat : (rest.map fun v => v.category).sum ≤ 8) (hdg : decode cc pc = .ok (.invokestatic index, 3)) (hf : cells + 1 ≤ R.cells ∧ slots + 6 ≤ R.slots)
    (kx : ∀ (E : String) (ce : Cell) (q9 : Addr) (H1 : Heap), FAIL E → s.heap.size ≤ H1.size → (∀ q : Nat, q < s.heap.size → H1[q]? = s.heap[q]?) → H1[q9]? = some ce → ce.vm = .none → s.vm.findClass E = some ce.cls → vx_W p l e R s m args below meth c H1 [] (cells + 1) (slots + 6) Q (F0 m pc ls rest) q9)
    (kk : PASS → W p l e R s m args below meth c s.heap [] cells slots Q (F0 m (pc + 3) ls (r.toList ++ rest))) : W p l e R s m args below meth c s.heap [] cells slots Q (F0 m pc ls st0) := by
  refine xt_go (vx_runS (As := As) (rest := rest) ⟨hx, hb, hml, hown, ht⟩ hM (k.cw ht rfl rfl hR) ⟨?_, fun U hU hW => ⟨rfl, xB.at hP hK hN hU hW, hT.at va_S.rf hU hW⟩⟩ rfl hn hsize hst (lv_room hcat) hdg hf) kx kk
  exact fun a U g mk h => ⟨h.1, h.2.1.calling, h.2.2.calling⟩
theorem xtV (hx : p.tables.exec = Jvm.exec) (hb : c.code = cc) (hml : c.maxLocals = nL) (hown : s.vm.findClass own = some m.cls) (ht : ∀ w ∈ wBIG, w.before args s = true) (hN : xN s) (hT : xT h0 s)
    (k : xcV own C index y bytes maxL ret n) (hM : xTV l y bytes maxL ret (xrt f q) (.ref b :: As) D h0 wsub tys r PASS FAIL) (hR : f + 1 ≤ R.frames ∧ 8 + (maxL + 11) + q ≤ R.locals)
    (hP : va_P D vwCl wsub s.heap) (hK : va_K D vwCl tys s) {ci : Nat} {fs : List Value} {qc : vw_C} (he : wsub[0]? = some (b, .inr (ci, fs))) (hc : vwCl[ci]? = some qc) (hqc : qc.1 = C)
    (hn : As.length = n) (hsize : ls.size = nL) (hst : st0 = As.reverse ++ .ref b :: rest) (hcat : (rest.map fun v => v.category).sum ≤ 8) (hdg : decode cc pc = .ok (.invokevirtual index, 3)) (hf : cells + 1 ≤ R.cells ∧ slots + 6 ≤ R.slots)
    (kx : ∀ (E : String) (ce : Cell) (q9 : Addr) (H1 : Heap), FAIL E → s.heap.size ≤ H1.size → (∀ q : Nat, q < s.heap.size → H1[q]? = s.heap[q]?) → H1[q9]? = some ce → ce.vm = .none → s.vm.findClass E = some ce.cls → vx_W p l e R s m args below meth c H1 [] (cells + 1) (slots + 6) Q (F0 m pc ls rest) q9)
    (kk : PASS → W p l e R s m args below meth c s.heap [] cells slots Q (F0 m (pc + 3) ls (r.toList ++ rest))) : W p l e R s m args below meth c s.heap [] cells slots Q (F0 m pc ls st0) := by
  subst hqc
  refine xt_go (vx_runV (As := As) (rest := rest) ⟨hx, hb, hml, hown, ht⟩ hM (k.cw ht rfl rfl hR) ⟨?_, va_recv hK hP hc he, fun U hU hW => ⟨rfl, xB.at hP hK hN hU hW, hT.at va_S.rf hU hW⟩⟩ rfl hn hsize hst (lv_room hcat) hdg hf) kx kk
  exact fun a U g mk h => ⟨h.1, h.2.1.calling, h.2.2.calling⟩
/-- 'throw new E("..")', nothing written before -/
theorem xt_throw {ik is ic : Nat} {cls text : String} {free : Addr → Prop} {Qc : Array Value → State → Outcome → State → Prop} (hx : p.tables.exec = Jvm.exec) (hb : c.code = cc) (hl9 : l.stackTraces = false) (hml : c.maxLocals = nL) (hown : s.vm.findClass RX3 = some m.cls) (ht : ∀ w ∈ wBIG, w.before args s = true) (hT : xT h0 s) (k : xcT ik is ic cls text) (hsize : ls.size = nL)
    (d0 : decode cc pc = .ok (.new ik, 3)) (d3 : decode cc (pc + 3) = .ok (.dup, 1)) (d4 : decode cc (pc + 4) = .ok (.ldc is, 2)) (d6 : decode cc (pc + 6) = .ok (.invokespecial ic, 3)) (d9 : decode cc (pc + 9) = .ok (.athrow, 1))
    (htab : ∀ x ∈ c.exceptionTable.toList, False) (hlocks : meth.locks = false) (hRf : 5 < R.frames) (hRl : (rest.map fun v => v.category).sum + 82 ≤ R.locals) (hRc : 1 ≤ R.cells ∧ 6 ≤ R.slots) (hF : FAIL cls) :
    W p l e R s m args below meth c s.heap [] 0 0 (vx_MQ below Qc (xXv FAIL) args s 1 6 free) (F0 m pc ls rest) := by
  obtain ⟨k1, k2, k3, k4, k5, k6, k7, k8⟩ := k
  obtain ⟨t1, t2, t3, t4, t5, t6⟩ := hT
  obtain ⟨sa, hsa⟩ := t3 _ k4
  refine vx_throwS (names := xnm) (sa := sa) hx hb hl9 hown k1 xnm_fit (ht _ k2) (ht _ k3) hsa (vx_hat (B := Cond.castable cls cls :: xdL.map Cond.declares) (fun w hw => ht w (k6 w hw)) k7 ?_) k8 t1 t2 va_S.rf (by rw [hml]; exact hsize) d0 d3 d4 d6 d9 (fun x hx => (htab x hx).elim) hRf hRl (by rw [Nat.zero_add]; exact hRc.1) (by rw [Nat.zero_add]; exact hRc.2) hlocks ?_ (fun z hz => nomatch hz) (Nat.le_refl _) (Nat.le_refl _)
  · refine vx_c (va_Nw.use rfl (t5 cls k5)) ?_
    intro w hw
    obtain ⟨x, hx1, rfl⟩ := List.mem_map.mp hw
    exact va_Nw.use rfl (t4 x hx1)
  · exact fun t _ h1 h2 => ⟨hF, h1, fun q hq _ => h2 q hq⟩
theorem xTV.of {rm : Room} {av : List Value} (hy : plainName y.cls = true) (hlen : (lg_sl av).length ≤ maxL)
    (body : ∀ (p : Program) (e : Env) (s : State) (m : MethodId) (args : Array Value) (below : List Frame) (meth : Method) (c : Code), p.tables.exec = Jvm.exec → c.code = bytes → meth.sig.returnType = ret → c.maxLocals = maxL → s.vm.findClass y.cls = some m.cls → meth.locks = false → (∀ x ∈ c.exceptionTable.toList, False) →
      (∀ w ∈ wBIG, w.before args s = true) → xN s → xT h0 s → va_P D vwCl wsub s.heap → va_K D vwCl tys s → ∀ ls : Array Slot, lv_has ls maxL (lv_args 0 av) →
      W p l e rm s m args below meth c s.heap [] 0 0 (vx_MQ below (xQv r PASS) (xXv FAIL) args s 1 6 (fun _ => False)) (F0 m 0 ls [])) : xTV l y bytes maxL ret rm av D h0 wsub tys r PASS FAIL := by
  refine vx_ofW (cc := bytes) (maxL := maxL) (ret := ret) hy rfl ?_
  intro p e s m args below meth c s₁ B hml htab hv
  obtain ⟨rfl, ⟨hP, hK, hN⟩, hT⟩ := hv
  have hts := atoms_spec (ws := .code y bytes maxL ret :: wBIG) B.pre
  have hl := lv_entry av (n := maxL) hlen
  rw [lg_entry_eq]
  exact body p e s m _ below meth c B.exec B.bytes B.returns hml (findClass_of_methodNamed B.named) B.notSynchronized htab (fun w h => hts w (List.mem_cons_of_mem _ h)) hN hT hP hK _ hl
theorem xTP.of {rm : Room} {av : List Value} {ws' : va_W} (hy : plainName y.cls = true) (hlen : (lg_sl av).length ≤ maxL)
    (body : ∀ (p : Program) (e : Env) (s : State) (m : MethodId) (args : Array Value) (below : List Frame) (meth : Method) (c : Code), p.tables.exec = Jvm.exec → c.code = bytes → meth.sig.returnType = ret → c.maxLocals = maxL → s.vm.findClass y.cls = some m.cls → meth.locks = false → (∀ x ∈ c.exceptionTable.toList, False) →
      (∀ w ∈ wBIG, w.before args s = true) → xN s → xT h0 s → va_P D vwCl wsub s.heap → va_K D vwCl tys s → va_D (xA wsub) wsub → va_S (xA wsub) s.heap s.heap [] → ∀ ls : Array Slot, lv_has ls maxL (lv_args 0 av) →
      W p l e rm s m args below meth c s.heap [] 0 0 (vx_MQ below (xQp r PASS D wsub ws') (xXv FAIL) args s 1 6 (xA wsub)) (F0 m 0 ls [])) : xTP l y bytes maxL ret rm av D h0 wsub tys r ws' PASS FAIL := by
  refine vx_ofW (cc := bytes) (maxL := maxL) (ret := ret) hy rfl ?_
  intro p e s m args below meth c s₁ B hml htab hv
  obtain ⟨rfl, ⟨hP, hK, hN⟩, hD, hT⟩ := hv
  have hts := atoms_spec (ws := .code y bytes maxL ret :: wBIG) B.pre
  have hl := lv_entry av (n := maxL) hlen
  rw [lg_entry_eq]
  exact body p e s m _ below meth c B.exec B.bytes B.returns hml (findClass_of_methodNamed B.named) B.notSynchronized htab (fun w h => hts w (List.mem_cons_of_mem _ h)) hN hT hP hK ⟨hD.1, fun k q hk => ⟨k, q.2, hk⟩⟩ va_S.rf _ hl
theorem xt_vret (hx : p.tables.exec = Jvm.exec) (hb : c.code = cc) (hr : meth.sig.returnType = none) (hlocks : meth.locks = false) (hp : PASS) (hdg : decode cc pc = .ok (.return_, 1)) :
    W p l e R s m args below meth c s.heap [] 0 0 (vx_MQ below (xQv none PASS) (xXv FAIL) args s 1 6 (fun _ => False)) (F0 m pc ls []) :=
  vx_ret (W.widen (k := 1) (n := 6) (Nat.zero_le _) (Nat.zero_le _) (W.vret hx hb hr (fun t ht _ => ⟨rfl, ht, hp⟩) (fun q h => nomatch h) hdg hlocks))
theorem xt_iret {v v' : Int32} (hx : p.tables.exec = Jvm.exec) (hb : c.code = cc) (hr : meth.sig.returnType = some .int) (hlocks : meth.locks = false) (hv : v = v') (hp : PASS) (hdg : decode cc pc = .ok (.ireturn, 1)) :
    W p l e R s m args below meth c s.heap [] 0 0 (vx_MQ below (xQv (some (.int v')) PASS) (xXv FAIL) args s 1 6 (fun _ => False)) (F0 m pc ls [.int v]) :=
  vx_ret (W.widen (k := 1) (n := 6) (Nat.zero_le _) (Nat.zero_le _) (W.iret hx hb hr (fun t ht _ => ⟨by rw [hv], ht, hp⟩) (fun q h => nomatch h) hdg hlocks))
theorem xp_vret {ws' : va_W} (hx : p.tables.exec = Jvm.exec) (hb : c.code = cc) (hr : meth.sig.returnType = none) (hlocks : meth.locks = false) (hS : va_S (xA wsub) s.heap H locs) (hP : va_P D vwCl ws' H) (hp : PASS) (hdg : decode cc pc = .ok (.return_, 1)) :
    W p l e R s m args below meth c H locs 0 0 (vx_MQ below (xQp none PASS D wsub ws') (xXv FAIL) args s 1 6 (xA wsub)) (F0 m pc ls []) :=
  vx_ret (W.widen (k := 1) (n := 6) (Nat.zero_le _) (Nat.zero_le _) (W.vret hx hb hr (fun t ht _ => ⟨⟨rfl, by rw [ht]; exact hP, hS.F ht⟩, hp⟩) hS.2.2 hdg hlocks))
theorem xp_iret {v v' : Int32} {ws' : va_W} (hx : p.tables.exec = Jvm.exec) (hb : c.code = cc) (hr : meth.sig.returnType = some .int) (hlocks : meth.locks = false) (hS : va_S (xA wsub) s.heap H locs) (hP : va_P D vwCl ws' H) (hv : v = v') (hp : PASS) (hdg : decode cc pc = .ok (.ireturn, 1)) :
    W p l e R s m args below meth c H locs 0 0 (vx_MQ below (xQp (some (.int v')) PASS D wsub ws') (xXv FAIL) args s 1 6 (xA wsub)) (F0 m pc ls [.int v]) :=
  vx_ret (W.widen (k := 1) (n := 6) (Nat.zero_le _) (Nat.zero_le _) (W.iret hx hb hr (fun t ht _ => ⟨⟨by rw [hv], by rw [ht]; exact hP, hS.F ht⟩, hp⟩) hS.2.2 hdg hlocks))
theorem xp_zret {v v' : Int32} {ws' : va_W} (hx : p.tables.exec = Jvm.exec) (hb : c.code = cc) (hr : meth.sig.returnType = some .boolean) (hlocks : meth.locks = false) (hn : narrow .boolean (.int v) = .int v) (hS : va_S (xA wsub) s.heap H locs) (hP : va_P D vwCl ws' H) (hv : v = v') (hp : PASS) (hdg : decode cc pc = .ok (.ireturn, 1)) :
    W p l e R s m args below meth c H locs 0 0 (vx_MQ below (xQp (some (.int v')) PASS D wsub ws') (xXv FAIL) args s 1 6 (xA wsub)) (F0 m pc ls [.int v]) :=
  vx_ret (W.widen (k := 1) (n := 6) (Nat.zero_le _) (Nat.zero_le _) (W.zret hx hb hr hn (fun t ht _ => ⟨⟨by rw [hv], by rw [ht]; exact hP, hS.F ht⟩, hp⟩) hS.2.2 hdg hlocks))
end XTH
