set_option maxRecDepth 20000 in
theorem at_X5_checkKey_171 : ∀ w ∈ (vx_at0 RX5 171 "java/lang/IndexOutOfBoundsException" ["java/lang/RuntimeException", "java/lang/Exception"]).filter goodWord, w ∈ wsX5_checkKey := by decide +kernel
set_option maxRecDepth 20000 in
theorem at_X5_checkKey_171g : ∀ w ∈ Cond.classLink RX5 169 "java/lang/IndexOutOfBoundsException" :: Cond.initialized "java/lang/IndexOutOfBoundsException" :: vx_at0 RX5 171 "java/lang/IndexOutOfBoundsException" ["java/lang/RuntimeException", "java/lang/Exception"], vx_ot w = true := by decide +kernel
def f_X5_checkKey (a1 : Int32)  : Option (Except String Unit) :=
if a1 < 0 then
some (Except.error "java/lang/IndexOutOfBoundsException")
else
if a1 < 8 then
some (Except.ok ())
else
some (Except.error "java/lang/IndexOutOfBoundsException")
abbrev rm_X5_checkKey : Room := { frames := 6, cells := 1, slots := 6, locals := 89 }
set_option maxHeartbeats 4000000 in
set_option maxRecDepth 100000 in
theorem c_X5_checkKey (l : Launch) (dC : Nat → ClassId) (dI : Nat → Nat → Nat) (cI cZ cC cJ cD : ClassId) (hst : l.stackTraces = false) (sz : Nat)  (a1 : Int32) (R : Except String Unit) (hf : f_X5_checkKey a1  = some R) : vx_Met l yX5_checkKey wsX5_checkKey rm_X5_checkKey (Py_ (dC, dI) (ty_ cI cZ cC cJ cD) ([]) sz [.int a1]) (Xv_ (dC, dI) (ty_ cI cZ cC cJ cD) R ([]) (va_A ([]) sz)) (XX_ (dC, dI) (ty_ cI cZ cC cJ cD) R ([]) (va_A ([]) sz)) 1 6 (va_A ([]) sz) := by
  refine mety_ (cc := cX5_checkKey) (maxL := 1) (ret := none) (Qcf := fun A => Xv_ (dC, dI) (ty_ cI cZ cC cJ cD) R ([]) A) (XCf := fun A => XX_ (dC, dI) (ty_ cI cZ cC cJ cD) R ([]) A) (by decide) rfl (Nat.le_of_ble_eq_true rfl) ?_
  intro p e s m args below meth c A ls hx hb hr hts hown hlocks hml htab hA hU hN hC hP hK hD hl
  have hown : s.vm.findClass RX5 = some m.cls := hown
  have hl : lv_has ls 1 [(0, .int a1)] := hl
  have hS : va_S A s.heap s.heap [] := va_S.rf
  unfold f_X5_checkKey at hf
  refine lv_iload_n hx hb dX5_checkKey_0 rfl (lv_at hl 0 rfl) ?_
  refine lv_if_lt (tgt := 10) hx hb dX5_checkKey_1 (by decide) (fun c1 => ?_) (fun c1 => ?_)
  · have hf := ite_T c1 hf
    have hR := Option.some.inj hf
    subst hR
    exact vx_throw0 (names := ["java/lang/RuntimeException", "java/lang/Exception"]) hx hb hst hown (by decide +kernel) (by decide +kernel) (hts _ (List.mem_of_getElem? (i := 1) rfl)) (hts _ (List.mem_of_getElem? (i := 2) rfl)) (vx_hat (fun w h => hts w (at_X5_checkKey_171 w h)) (atn_0 "java/lang/IndexOutOfBoundsException" (by decide +kernel) 171 (by decide)) (hC.words (by decide +kernel))) at_X5_checkKey_171g hU hN hS (hl.1.trans hml.symm) dX5_checkKey_10 dX5_checkKey_13 dX5_checkKey_14 dX5_checkKey_17 (fun x h => (htab x h).elim) (Nat.le_of_ble_eq_true rfl) (Nat.le_of_ble_eq_true rfl) (Nat.le_of_ble_eq_true rfl) (Nat.le_of_ble_eq_true rfl) hlocks (thr_ hS hP hK hD rfl) hS.2.2 (Nat.le_of_ble_eq_true rfl) (Nat.le_of_ble_eq_true rfl)
  · have hf := ite_F c1 hf
    refine lv_iload_n hx hb dX5_checkKey_4 rfl (lv_at hl 0 rfl) ?_
    refine lv_bipush (v := 8) hx hb dX5_checkKey_5 (by decide) ?_
    refine lv_icmp_lt (tgt := 18) hx hb dX5_checkKey_7 (by decide) (fun c2 => ?_) (fun c2 => ?_)
    · have hf := ite_T c2 hf
      have hR := Option.some.inj hf
      subst hR
      refine vx_ret (W.widen (k := 1) (n := 6) (Nat.le_of_ble_eq_true rfl) (Nat.le_of_ble_eq_true rfl) ?_)
      exact W.vret hx hb hr (fun t ht hW => ⟨⟨(), rfl, rfl, by rw [ht]; exact hP, va_K.moved hW.alike hK, hD⟩, hS.F ht⟩) hS.2.2 dX5_checkKey_18
    · have hf := ite_F c2 hf
      have hR := Option.some.inj hf
      subst hR
      exact vx_throw0 (names := ["java/lang/RuntimeException", "java/lang/Exception"]) hx hb hst hown (by decide +kernel) (by decide +kernel) (hts _ (List.mem_of_getElem? (i := 1) rfl)) (hts _ (List.mem_of_getElem? (i := 2) rfl)) (vx_hat (fun w h => hts w (at_X5_checkKey_171 w h)) (atn_0 "java/lang/IndexOutOfBoundsException" (by decide +kernel) 171 (by decide)) (hC.words (by decide +kernel))) at_X5_checkKey_171g hU hN hS (hl.1.trans hml.symm) dX5_checkKey_10 dX5_checkKey_13 dX5_checkKey_14 dX5_checkKey_17 (fun x h => (htab x h).elim) (Nat.le_of_ble_eq_true rfl) (Nat.le_of_ble_eq_true rfl) (Nat.le_of_ble_eq_true rfl) (Nat.le_of_ble_eq_true rfl) hlocks (thr_ hS hP hK hD rfl) hS.2.2 (Nat.le_of_ble_eq_true rfl) (Nat.le_of_ble_eq_true rfl)
theorem hs_X5_checkKey : yX5_checkKey.cls = RX5 ∧ yX5_checkKey.cls ≠ "java/lang/invoke/MethodHandle" ∧ yX5_checkKey.cls ≠ "java/lang/invoke/VarHandle" ∧ (parseMethodDescriptor yX5_checkKey.desc).map (fun d => d.parameters.length) = some 1 := by decide +kernel
set_option maxRecDepth 20000 in
theorem at_X5_checkDay_153 : ∀ w ∈ (vx_at0 RX5 153 "java/lang/IllegalArgumentException" ["java/lang/RuntimeException", "java/lang/Exception"]).filter goodWord, w ∈ wsX5_checkDay := by decide +kernel
set_option maxRecDepth 20000 in
theorem at_X5_checkDay_153g : ∀ w ∈ Cond.classLink RX5 151 "java/lang/IllegalArgumentException" :: Cond.initialized "java/lang/IllegalArgumentException" :: vx_at0 RX5 153 "java/lang/IllegalArgumentException" ["java/lang/RuntimeException", "java/lang/Exception"], vx_ot w = true := by decide +kernel
def f_X5_checkDay (a1 : Int32)  : Option (Except String Unit) :=
if a1 < 0 then
some (Except.error "java/lang/IllegalArgumentException")
else
if a1 < 1000 then
some (Except.ok ())
else
some (Except.error "java/lang/IllegalArgumentException")
abbrev rm_X5_checkDay : Room := { frames := 6, cells := 1, slots := 6, locals := 89 }
set_option maxHeartbeats 4000000 in
set_option maxRecDepth 100000 in
theorem c_X5_checkDay (l : Launch) (dC : Nat → ClassId) (dI : Nat → Nat → Nat) (cI cZ cC cJ cD : ClassId) (hst : l.stackTraces = false) (sz : Nat)  (a1 : Int32) (R : Except String Unit) (hf : f_X5_checkDay a1  = some R) : vx_Met l yX5_checkDay wsX5_checkDay rm_X5_checkDay (Py_ (dC, dI) (ty_ cI cZ cC cJ cD) ([]) sz [.int a1]) (Xv_ (dC, dI) (ty_ cI cZ cC cJ cD) R ([]) (va_A ([]) sz)) (XX_ (dC, dI) (ty_ cI cZ cC cJ cD) R ([]) (va_A ([]) sz)) 1 6 (va_A ([]) sz) := by
  refine mety_ (cc := cX5_checkDay) (maxL := 1) (ret := none) (Qcf := fun A => Xv_ (dC, dI) (ty_ cI cZ cC cJ cD) R ([]) A) (XCf := fun A => XX_ (dC, dI) (ty_ cI cZ cC cJ cD) R ([]) A) (by decide) rfl (Nat.le_of_ble_eq_true rfl) ?_
  intro p e s m args below meth c A ls hx hb hr hts hown hlocks hml htab hA hU hN hC hP hK hD hl
  have hown : s.vm.findClass RX5 = some m.cls := hown
  have hl : lv_has ls 1 [(0, .int a1)] := hl
  have hS : va_S A s.heap s.heap [] := va_S.rf
  unfold f_X5_checkDay at hf
  refine lv_iload_n hx hb dX5_checkDay_0 rfl (lv_at hl 0 rfl) ?_
  refine lv_if_lt (tgt := 11) hx hb dX5_checkDay_1 (by decide) (fun c1 => ?_) (fun c1 => ?_)
  · have hf := ite_T c1 hf
    have hR := Option.some.inj hf
    subst hR
    exact vx_throw0 (names := ["java/lang/RuntimeException", "java/lang/Exception"]) hx hb hst hown (by decide +kernel) (by decide +kernel) (hts _ (List.mem_of_getElem? (i := 1) rfl)) (hts _ (List.mem_of_getElem? (i := 2) rfl)) (vx_hat (fun w h => hts w (at_X5_checkDay_153 w h)) (atn_0 "java/lang/IllegalArgumentException" (by decide +kernel) 153 (by decide)) (hC.words (by decide +kernel))) at_X5_checkDay_153g hU hN hS (hl.1.trans hml.symm) dX5_checkDay_11 dX5_checkDay_14 dX5_checkDay_15 dX5_checkDay_18 (fun x h => (htab x h).elim) (Nat.le_of_ble_eq_true rfl) (Nat.le_of_ble_eq_true rfl) (Nat.le_of_ble_eq_true rfl) (Nat.le_of_ble_eq_true rfl) hlocks (thr_ hS hP hK hD rfl) hS.2.2 (Nat.le_of_ble_eq_true rfl) (Nat.le_of_ble_eq_true rfl)
  · have hf := ite_F c1 hf
    refine lv_iload_n hx hb dX5_checkDay_4 rfl (lv_at hl 0 rfl) ?_
    refine lv_sipush (v := 1000) hx hb dX5_checkDay_5 (by decide) ?_
    refine lv_icmp_lt (tgt := 19) hx hb dX5_checkDay_8 (by decide) (fun c2 => ?_) (fun c2 => ?_)
    · have hf := ite_T c2 hf
      have hR := Option.some.inj hf
      subst hR
      refine vx_ret (W.widen (k := 1) (n := 6) (Nat.le_of_ble_eq_true rfl) (Nat.le_of_ble_eq_true rfl) ?_)
      exact W.vret hx hb hr (fun t ht hW => ⟨⟨(), rfl, rfl, by rw [ht]; exact hP, va_K.moved hW.alike hK, hD⟩, hS.F ht⟩) hS.2.2 dX5_checkDay_19
    · have hf := ite_F c2 hf
      have hR := Option.some.inj hf
      subst hR
      exact vx_throw0 (names := ["java/lang/RuntimeException", "java/lang/Exception"]) hx hb hst hown (by decide +kernel) (by decide +kernel) (hts _ (List.mem_of_getElem? (i := 1) rfl)) (hts _ (List.mem_of_getElem? (i := 2) rfl)) (vx_hat (fun w h => hts w (at_X5_checkDay_153 w h)) (atn_0 "java/lang/IllegalArgumentException" (by decide +kernel) 153 (by decide)) (hC.words (by decide +kernel))) at_X5_checkDay_153g hU hN hS (hl.1.trans hml.symm) dX5_checkDay_11 dX5_checkDay_14 dX5_checkDay_15 dX5_checkDay_18 (fun x h => (htab x h).elim) (Nat.le_of_ble_eq_true rfl) (Nat.le_of_ble_eq_true rfl) (Nat.le_of_ble_eq_true rfl) (Nat.le_of_ble_eq_true rfl) hlocks (thr_ hS hP hK hD rfl) hS.2.2 (Nat.le_of_ble_eq_true rfl) (Nat.le_of_ble_eq_true rfl)
theorem hs_X5_checkDay : yX5_checkDay.cls = RX5 ∧ yX5_checkDay.cls ≠ "java/lang/invoke/MethodHandle" ∧ yX5_checkDay.cls ≠ "java/lang/invoke/VarHandle" ∧ (parseMethodDescriptor yX5_checkDay.desc).map (fun d => d.parameters.length) = some 1 := by decide +kernel
set_option maxRecDepth 20000 in
theorem in_X5_pointFacts_X2 : ∀ w ∈ wsX20, w ∈ wsX5_pointFacts := by decide +kernel
set_option maxRecDepth 20000 in
theorem in_X5_pointFacts_X5 : ∀ w ∈ wsX50, w ∈ wsX5_pointFacts := by decide +kernel
def f_X5_pointFacts  (D_ : tD_) (S_ : tS_) (V_ : tV_) (F_ : tF_) (R_ : tR_) : Option (tD_ × tF_) :=
match D_ with
| (dhasSaved, dkeptError, dmoved) =>
match V_ with
| (vkeys, vfirsts, vends, vvalues, vinferred, vgone, vmade) =>
match F_ with
| (fkeys, fdays, famounts, fversions, fcount) =>
match R_ with
| (rkeys, rdays, rvalues, rcount) =>
bd_ (f_X0_pointTo (fkeys, fdays, famounts, fversions, fcount) (vkeys, vfirsts, vends, vvalues, vinferred, vgone, vmade)) (fun (r1, (fk2, fd3, fa4, fv5, fc6)) =>
some ((dhasSaved, dkeptError, r1), (fk2, fd3, fa4, fv5, fc6)))
abbrev rm_X5_pointFacts : Room := { frames := 4, cells := 0, slots := 0, locals := 90 }
set_option maxHeartbeats 4000000 in
set_option maxRecDepth 100000 in
theorem c_X5_pointFacts (l : Launch) (dC : Nat → ClassId) (dI : Nat → Nat → Nat) (cI cZ cC cJ cD : ClassId) (d0 s0 z0 b0 q0 t0 v0 f0 r0 v_keys v_firsts v_ends v_values v_inferred v_gone f_keys f_days f_amounts f_versions r_keys r_days r_values : Nat) (sz : Nat) (dhasSaved : Int32) (dkeptError : Int32) (dmoved : Int32) (vkeys : Nat → Int32) (vfirsts : Nat → Int32) (vends : Nat → Int32) (vvalues : Nat → Int32) (vinferred : Nat → Int32) (vgone : Nat → Int32) (vmade : Int32) (fkeys : Nat → Int32) (fdays : Nat → Int32) (famounts : Nat → Int32) (fversions : Nat → Int32) (fcount : Int32) (rkeys : Nat → Int32) (rdays : Nat → Int32) (rvalues : Nat → Int32) (rcount : Int32)  (R : tD_ × tF_) (hf : f_X5_pointFacts  (dhasSaved, dkeptError, dmoved) () (vkeys, vfirsts, vends, vvalues, vinferred, vgone, vmade) (fkeys, fdays, famounts, fversions, fcount) (rkeys, rdays, rvalues, rcount) = some R) : Met l yX5_pointFacts wsX5_pointFacts rm_X5_pointFacts (Pc_ (dC, dI) (ty_ cI cZ cC cJ cD) (wD_ d0 s0 z0 b0 q0 t0 dhasSaved dkeptError dmoved ++ wS_ s0 v0 f0 r0 ++ wV_ v0 v_keys v_firsts v_ends v_values v_inferred v_gone cI cZ vkeys vfirsts vends vvalues vinferred vgone vmade ++ wF_ f0 f_keys f_days f_amounts f_versions cI fkeys fdays famounts fversions fcount ++ wR_ r0 r_keys r_days r_values cI rkeys rdays rvalues rcount) sz [.ref d0]) (Qv_ (dC, dI) (ty_ cI cZ cC cJ cD) (wD_ d0 s0 z0 b0 q0 t0 R.1.1 R.1.2.1 R.1.2.2 ++ wS_ s0 v0 f0 r0 ++ wV_ v0 v_keys v_firsts v_ends v_values v_inferred v_gone cI cZ vkeys vfirsts vends vvalues vinferred vgone vmade ++ wF_ f0 f_keys f_days f_amounts f_versions cI R.2.1 R.2.2.1 R.2.2.2.1 R.2.2.2.2.1 R.2.2.2.2.2 ++ wR_ r0 r_keys r_days r_values cI rkeys rdays rvalues rcount) (va_A (wD_ d0 s0 z0 b0 q0 t0 dhasSaved dkeptError dmoved ++ wS_ s0 v0 f0 r0 ++ wV_ v0 v_keys v_firsts v_ends v_values v_inferred v_gone cI cZ vkeys vfirsts vends vvalues vinferred vgone vmade ++ wF_ f0 f_keys f_days f_amounts f_versions cI fkeys fdays famounts fversions fcount ++ wR_ r0 r_keys r_days r_values cI rkeys rdays rvalues rcount) sz)) 0 0 (va_A (wD_ d0 s0 z0 b0 q0 t0 dhasSaved dkeptError dmoved ++ wS_ s0 v0 f0 r0 ++ wV_ v0 v_keys v_firsts v_ends v_values v_inferred v_gone cI cZ vkeys vfirsts vends vvalues vinferred vgone vmade ++ wF_ f0 f_keys f_days f_amounts f_versions cI fkeys fdays famounts fversions fcount ++ wR_ r0 r_keys r_days r_values cI rkeys rdays rvalues rcount) sz) := by
  refine met_ (cc := cX5_pointFacts) (maxL := 1) (ret := none) (Qcf := fun A => Qv_ (dC, dI) (ty_ cI cZ cC cJ cD) (wD_ d0 s0 z0 b0 q0 t0 R.1.1 R.1.2.1 R.1.2.2 ++ wS_ s0 v0 f0 r0 ++ wV_ v0 v_keys v_firsts v_ends v_values v_inferred v_gone cI cZ vkeys vfirsts vends vvalues vinferred vgone vmade ++ wF_ f0 f_keys f_days f_amounts f_versions cI R.2.1 R.2.2.1 R.2.2.2.1 R.2.2.2.2.1 R.2.2.2.2.2 ++ wR_ r0 r_keys r_days r_values cI rkeys rdays rvalues rcount) A) (by decide) rfl (Nat.le_of_ble_eq_true rfl) ?_
  intro p e s m args below meth c A ls hx hb hr hts hown hlocks hml hA hP hK hD hl
  have hown : s.vm.findClass RX5 = some m.cls := hown
  have hl : lv_has ls 1 [(0, .ref d0)] := hl
  have hS : va_S A s.heap s.heap [] := va_S.rf
  have fl10_ : (Cond.fieldLink RX5 10 "DimensionLoader" "live" "LDimensionLoader$Store;").before args s = true := hts _ (List.mem_of_getElem? (i := 1) rfl)
  have fl51_ : (Cond.fieldLink RX5 51 "DimensionLoader$Store" "versions" "LDimensionLoader$Versions;").before args s = true := hts _ (List.mem_of_getElem? (i := 3) rfl)
  have fl64_ : (Cond.fieldLink RX5 64 "DimensionLoader$Store" "facts" "LDimensionLoader$Facts;").before args s = true := hts _ (List.mem_of_getElem? (i := 2) rfl)
  have fl132_ : (Cond.fieldLink RX5 132 "DimensionLoader" "moved" "I").before args s = true := hts _ (List.mem_of_getElem? (i := 4) rfl)
  have inX2_ : ∀ w ∈ wsX20, w ∈ wsX5_pointFacts := in_X5_pointFacts_X2
  have inX5_ : ∀ w ∈ wsX50, w ∈ wsX5_pointFacts := in_X5_pointFacts_X5
  unfold f_X5_pointFacts at hf
  dsimp only at hf
  refine lv_aload_n hx hb dX5_pointFacts_0 rfl (lv_at hl 0 rfl) ?_
  refine lv_aload_n hx hb dX5_pointFacts_1 rfl (lv_at hl 0 rfl) ?_
  refine va_get (D := (dC, dI)) (ci := 7) (v := .ref s0) (C := RX5) (T := TX5) (N := 8) hx hb hts inX5_ hown hK hP 0 rfl rfl 0 (by decide) fl10_ (fun _ h9 => h9) rfl dX5_pointFacts_2 ?_
  refine va_get (D := (dC, dI)) (ci := 4) (v := .ref f0) (C := RX2) (T := TX2) (N := 3) hx hb hts inX2_ hown hK hP 1 rfl rfl 1 (by decide) fl64_ (fun _ h9 => h9) rfl dX5_pointFacts_5 ?_
  refine lv_aload_n hx hb dX5_pointFacts_8 rfl (lv_at hl 0 rfl) ?_
  refine va_get (D := (dC, dI)) (ci := 7) (v := .ref s0) (C := RX5) (T := TX5) (N := 8) hx hb hts inX5_ hown hK hP 0 rfl rfl 0 (by decide) fl10_ (fun _ h9 => h9) rfl dX5_pointFacts_9 ?_
  refine va_get (D := (dC, dI)) (ci := 4) (v := .ref v0) (C := RX2) (T := TX2) (N := 3) hx hb hts inX2_ hown hK hP 1 rfl rfl 0 (by decide) fl51_ (fun _ h9 => h9) rfl dX5_pointFacts_12 ?_
  obtain ⟨R7, g8, hf⟩ := bd_B hf
  obtain ⟨r1, ⟨fk2, fd3, fa4, fv5, fc6⟩⟩ := R7
  dsimp only at hf
  have hPc := hP.sub (ws' := wF_ f0 f_keys f_days f_amounts f_versions cI fkeys fdays famounts fversions fcount ++ wV_ v0 v_keys v_firsts v_ends v_values v_inferred v_gone cI cZ vkeys vfirsts vends vvalues vinferred vgone vmade) [9, 10, 11, 12, 13, 2, 3, 4, 5, 6, 7, 8] rfl
  have hDc := hD.sub (ws' := wF_ f0 f_keys f_days f_amounts f_versions cI fkeys fdays famounts fversions fcount ++ wV_ v0 v_keys v_firsts v_ends v_values v_inferred v_gone cI cZ vkeys vfirsts vends vvalues vinferred vgone vmade) [9, 10, 11, 12, 13, 2, 3, 4, 5, 6, 7, 8] (by decide) rfl
  have hFc := va_free (wc := wF_ f0 f_keys f_days f_amounts f_versions cI fkeys fdays famounts fversions fcount ++ wV_ v0 v_keys v_firsts v_ends v_values v_inferred v_gone cI cZ vkeys vfirsts vends vvalues vinferred vgone vmade) hD hS hA [9, 10, 11, 12, 13, 2, 3, 4, 5, 6, 7, 8] rfl
  refine va_calli (va_runV (As := [.ref v0]) (rest := [.ref d0]) ⟨hx, hb, hml, hown, hts⟩ (c_X0_pointTo l dC dI cI cZ cC cJ cD f0 f_keys f_days f_amounts f_versions v0 v_keys v_firsts v_ends v_values v_inferred v_gone s.heap.size fkeys fdays famounts fversions fcount vkeys vfirsts vends vvalues vinferred vgone vmade (r1, (fk2, fd3, fa4, fv5, fc6)) g8) (cwV 1 hts gX5_pointFacts_X0_pointTo rfl rfl rfl hs_X0_pointTo ⟨Nat.le_of_ble_eq_true rfl, Nat.le_of_ble_eq_true rfl⟩) (preV_ (ci := 2) (q0 := 0) hPc hK hDc rfl rfl rfl rfl) rfl rfl hl.1 rfl (lv_room (Nat.le_of_ble_eq_true rfl)) dX5_pointFacts_15 ⟨Nat.le_of_ble_eq_true rfl, Nat.le_of_ble_eq_true rfl⟩) hS (fun q _ h => hFc q h) hFc (fun z10 u t H9 locs ht hvm hw hB hz1 hk1 hS => ?_)
  have hw : r1 = z10 := hw.symm
  subst hw
  obtain ⟨hP, hD⟩ := aft_ (Wr := wD_ d0 s0 z0 b0 q0 t0 dhasSaved dkeptError dmoved ++ wS_ s0 v0 f0 r0 ++ wR_ r0 r_keys r_days r_values cI rkeys rdays rvalues rcount) (Wc' := wF_ f0 f_keys f_days f_amounts f_versions cI fk2 fd3 fa4 fv5 fc6 ++ wV_ v0 v_keys v_firsts v_ends v_values v_inferred v_gone cI cZ vkeys vfirsts vends vvalues vinferred vgone vmade) (W2 := wD_ d0 s0 z0 b0 q0 t0 dhasSaved dkeptError dmoved ++ wS_ s0 v0 f0 r0 ++ wV_ v0 v_keys v_firsts v_ends v_values v_inferred v_gone cI cZ vkeys vfirsts vends vvalues vinferred vgone vmade ++ wF_ f0 f_keys f_days f_amounts f_versions cI fk2 fd3 fa4 fv5 fc6 ++ wR_ r0 r_keys r_days r_values cI rkeys rdays rvalues rcount) hP hD [9, 10, 11, 12, 13, 2, 3, 4, 5, 6, 7, 8] [0, 1, 14, 15, 16, 17] [0, 1, 11, 12, 13, 14, 15, 16, 17, 6, 7, 8, 9, 10, 2, 3, 4, 5] rfl rfl (by decide) (by decide) (by decide) hk1 hFc hB ht rfl
  refine va_put (D := (dC, dI)) (ci := 7) (v := .int r1) (ty := .int) (C := RX5) (T := TX5) (N := 8) hx hb hts inX5_ tyX5 tyX5_ok nmX5 hown hK hP hD hS 0 rfl rfl 7 (by decide) fl132_ (fun _ h9 => h9) rfl (by decide +kernel) (by first | rfl | decide) (by first | rfl | decide) (Nat.le_of_ble_eq_true rfl) dX5_pointFacts_18 (fun H11 locs hP hD hS => ?_)
  have hP : va_P (dC, dI) vwCl (wD_ d0 s0 z0 b0 q0 t0 dhasSaved dkeptError r1 ++ wS_ s0 v0 f0 r0 ++ wV_ v0 v_keys v_firsts v_ends v_values v_inferred v_gone cI cZ vkeys vfirsts vends vvalues vinferred vgone vmade ++ wF_ f0 f_keys f_days f_amounts f_versions cI fk2 fd3 fa4 fv5 fc6 ++ wR_ r0 r_keys r_days r_values cI rkeys rdays rvalues rcount) H11 := hP
  have hD : va_D A (wD_ d0 s0 z0 b0 q0 t0 dhasSaved dkeptError r1 ++ wS_ s0 v0 f0 r0 ++ wV_ v0 v_keys v_firsts v_ends v_values v_inferred v_gone cI cZ vkeys vfirsts vends vvalues vinferred vgone vmade ++ wF_ f0 f_keys f_days f_amounts f_versions cI fk2 fd3 fa4 fv5 fc6 ++ wR_ r0 r_keys r_days r_values cI rkeys rdays rvalues rcount) := hD
  have hR := Option.some.inj hf
  subst hR
  exact W.vret hx hb hr (fun t ht hW => ⟨⟨(), rfl, trivial, by rw [ht]; exact hP, va_K.moved hW.alike hK, hD⟩, hS.F ht⟩) hS.2.2 dX5_pointFacts_21
theorem hs_X5_pointFacts : yX5_pointFacts.cls = RX5 ∧ yX5_pointFacts.cls ≠ "java/lang/invoke/MethodHandle" ∧ yX5_pointFacts.cls ≠ "java/lang/invoke/VarHandle" ∧ (parseMethodDescriptor yX5_pointFacts.desc).map (fun d => d.parameters.length) = some 0 := by decide +kernel
set_option maxRecDepth 20000 in
theorem in_X5_change_X2 : ∀ w ∈ wsX20, w ∈ wsX5_change := by decide +kernel
set_option maxRecDepth 20000 in
theorem in_X5_change_X5 : ∀ w ∈ wsX50, w ∈ wsX5_change := by decide +kernel
set_option maxRecDepth 20000 in
theorem at_X5_change_60 : ∀ w ∈ (vx_at0 RX5 60 "java/lang/IllegalStateException" ["java/lang/RuntimeException", "java/lang/Exception"]).filter goodWord, w ∈ wsX5_change := by decide +kernel
set_option maxRecDepth 20000 in
theorem at_X5_change_60g : ∀ w ∈ Cond.classLink RX5 58 "java/lang/IllegalStateException" :: Cond.initialized "java/lang/IllegalStateException" :: vx_at0 RX5 60 "java/lang/IllegalStateException" ["java/lang/RuntimeException", "java/lang/Exception"], vx_ot w = true := by decide +kernel
def f_X5_change (a1 : Int32) (a2 : Int32) (a3 : Int32) (D_ : tD_) (S_ : tS_) (V_ : tV_) (F_ : tF_) (R_ : tR_) : Option (Except String Int32 × tD_ × tV_ × tF_) :=
match D_ with
| (dhasSaved, dkeptError, dmoved) =>
match V_ with
| (vkeys, vfirsts, vends, vvalues, vinferred, vgone, vmade) =>
match F_ with
| (fkeys, fdays, famounts, fversions, fcount) =>
match R_ with
| (rkeys, rdays, rvalues, rcount) =>
bd_ (f_X5_checkKey a1) (fun x1 =>
match x1 with
| Except.error E9 => some (Except.error E9, (dhasSaved, dkeptError, dmoved), (vkeys, vfirsts, vends, vvalues, vinferred, vgone, vmade), (fkeys, fdays, famounts, fversions, fcount))
| Except.ok v2 =>
bd_ (f_X5_checkDay a2) (fun x10 =>
match x10 with
| Except.error E18 => some (Except.error E18, (dhasSaved, dkeptError, dmoved), (vkeys, vfirsts, vends, vvalues, vinferred, vgone, vmade), (fkeys, fdays, famounts, fversions, fcount))
| Except.ok v11 =>
bd_ (f_X4_put a1 a2 a3 (vkeys, vfirsts, vends, vvalues, vinferred, vgone, vmade)) (fun (r19, (vk20, vf21, ve22, vv23, vi24, vg25, vm26)) =>
if r19 = (-1) then
some (Except.error "java/lang/IllegalStateException", (dhasSaved, dkeptError, dmoved), (vk20, vf21, ve22, vv23, vi24, vg25, vm26), (fkeys, fdays, famounts, fversions, fcount))
else
bd_ (f_X5_pointFacts (dhasSaved, dkeptError, dmoved) () (vk20, vf21, ve22, vv23, vi24, vg25, vm26) (fkeys, fdays, famounts, fversions, fcount) (rkeys, rdays, rvalues, rcount)) (fun ((dh32, dk33, dm34), (fk35, fd36, fa37, fv38, fc39)) =>
some (Except.ok r19, (dh32, dk33, dm34), (vk20, vf21, ve22, vv23, vi24, vg25, vm26), (fk35, fd36, fa37, fv38, fc39))))))
abbrev rm_X5_change : Room := { frames := 7, cells := 3, slots := 18, locals := 115 }
set_option maxHeartbeats 4000000 in
set_option maxRecDepth 100000 in
theorem c_X5_change (l : Launch) (dC : Nat → ClassId) (dI : Nat → Nat → Nat) (cI cZ cC cJ cD : ClassId) (hst : l.stackTraces = false) (d0 s0 z0 b0 q0 t0 v0 f0 r0 v_keys v_firsts v_ends v_values v_inferred v_gone f_keys f_days f_amounts f_versions r_keys r_days r_values : Nat) (sz : Nat) (dhasSaved : Int32) (dkeptError : Int32) (dmoved : Int32) (vkeys : Nat → Int32) (vfirsts : Nat → Int32) (vends : Nat → Int32) (vvalues : Nat → Int32) (vinferred : Nat → Int32) (vgone : Nat → Int32) (vmade : Int32) (fkeys : Nat → Int32) (fdays : Nat → Int32) (famounts : Nat → Int32) (fversions : Nat → Int32) (fcount : Int32) (rkeys : Nat → Int32) (rdays : Nat → Int32) (rvalues : Nat → Int32) (rcount : Int32) (a1 : Int32) (a2 : Int32) (a3 : Int32) (R : Except String Int32 × tD_ × tV_ × tF_) (hf : f_X5_change a1 a2 a3 (dhasSaved, dkeptError, dmoved) () (vkeys, vfirsts, vends, vvalues, vinferred, vgone, vmade) (fkeys, fdays, famounts, fversions, fcount) (rkeys, rdays, rvalues, rcount) = some R) : vx_Met l yX5_change wsX5_change rm_X5_change (Py_ (dC, dI) (ty_ cI cZ cC cJ cD) (wD_ d0 s0 z0 b0 q0 t0 dhasSaved dkeptError dmoved ++ wS_ s0 v0 f0 r0 ++ wV_ v0 v_keys v_firsts v_ends v_values v_inferred v_gone cI cZ vkeys vfirsts vends vvalues vinferred vgone vmade ++ wF_ f0 f_keys f_days f_amounts f_versions cI fkeys fdays famounts fversions fcount ++ wR_ r0 r_keys r_days r_values cI rkeys rdays rvalues rcount) sz [.ref d0, .int a1, .int a2, .int a3]) (Xi_ (dC, dI) (ty_ cI cZ cC cJ cD) R.1 (wD_ d0 s0 z0 b0 q0 t0 R.2.1.1 R.2.1.2.1 R.2.1.2.2 ++ wS_ s0 v0 f0 r0 ++ wV_ v0 v_keys v_firsts v_ends v_values v_inferred v_gone cI cZ R.2.2.1.1 R.2.2.1.2.1 R.2.2.1.2.2.1 R.2.2.1.2.2.2.1 R.2.2.1.2.2.2.2.1 R.2.2.1.2.2.2.2.2.1 R.2.2.1.2.2.2.2.2.2 ++ wF_ f0 f_keys f_days f_amounts f_versions cI R.2.2.2.1 R.2.2.2.2.1 R.2.2.2.2.2.1 R.2.2.2.2.2.2.1 R.2.2.2.2.2.2.2 ++ wR_ r0 r_keys r_days r_values cI rkeys rdays rvalues rcount) (va_A (wD_ d0 s0 z0 b0 q0 t0 dhasSaved dkeptError dmoved ++ wS_ s0 v0 f0 r0 ++ wV_ v0 v_keys v_firsts v_ends v_values v_inferred v_gone cI cZ vkeys vfirsts vends vvalues vinferred vgone vmade ++ wF_ f0 f_keys f_days f_amounts f_versions cI fkeys fdays famounts fversions fcount ++ wR_ r0 r_keys r_days r_values cI rkeys rdays rvalues rcount) sz)) (XX_ (dC, dI) (ty_ cI cZ cC cJ cD) R.1 (wD_ d0 s0 z0 b0 q0 t0 R.2.1.1 R.2.1.2.1 R.2.1.2.2 ++ wS_ s0 v0 f0 r0 ++ wV_ v0 v_keys v_firsts v_ends v_values v_inferred v_gone cI cZ R.2.2.1.1 R.2.2.1.2.1 R.2.2.1.2.2.1 R.2.2.1.2.2.2.1 R.2.2.1.2.2.2.2.1 R.2.2.1.2.2.2.2.2.1 R.2.2.1.2.2.2.2.2.2 ++ wF_ f0 f_keys f_days f_amounts f_versions cI R.2.2.2.1 R.2.2.2.2.1 R.2.2.2.2.2.1 R.2.2.2.2.2.2.1 R.2.2.2.2.2.2.2 ++ wR_ r0 r_keys r_days r_values cI rkeys rdays rvalues rcount) (va_A (wD_ d0 s0 z0 b0 q0 t0 dhasSaved dkeptError dmoved ++ wS_ s0 v0 f0 r0 ++ wV_ v0 v_keys v_firsts v_ends v_values v_inferred v_gone cI cZ vkeys vfirsts vends vvalues vinferred vgone vmade ++ wF_ f0 f_keys f_days f_amounts f_versions cI fkeys fdays famounts fversions fcount ++ wR_ r0 r_keys r_days r_values cI rkeys rdays rvalues rcount) sz)) 3 18 (va_A (wD_ d0 s0 z0 b0 q0 t0 dhasSaved dkeptError dmoved ++ wS_ s0 v0 f0 r0 ++ wV_ v0 v_keys v_firsts v_ends v_values v_inferred v_gone cI cZ vkeys vfirsts vends vvalues vinferred vgone vmade ++ wF_ f0 f_keys f_days f_amounts f_versions cI fkeys fdays famounts fversions fcount ++ wR_ r0 r_keys r_days r_values cI rkeys rdays rvalues rcount) sz) := by
  refine mety_ (cc := cX5_change) (maxL := 5) (ret := (some .int)) (Qcf := fun A => Xi_ (dC, dI) (ty_ cI cZ cC cJ cD) R.1 (wD_ d0 s0 z0 b0 q0 t0 R.2.1.1 R.2.1.2.1 R.2.1.2.2 ++ wS_ s0 v0 f0 r0 ++ wV_ v0 v_keys v_firsts v_ends v_values v_inferred v_gone cI cZ R.2.2.1.1 R.2.2.1.2.1 R.2.2.1.2.2.1 R.2.2.1.2.2.2.1 R.2.2.1.2.2.2.2.1 R.2.2.1.2.2.2.2.2.1 R.2.2.1.2.2.2.2.2.2 ++ wF_ f0 f_keys f_days f_amounts f_versions cI R.2.2.2.1 R.2.2.2.2.1 R.2.2.2.2.2.1 R.2.2.2.2.2.2.1 R.2.2.2.2.2.2.2 ++ wR_ r0 r_keys r_days r_values cI rkeys rdays rvalues rcount) A) (XCf := fun A => XX_ (dC, dI) (ty_ cI cZ cC cJ cD) R.1 (wD_ d0 s0 z0 b0 q0 t0 R.2.1.1 R.2.1.2.1 R.2.1.2.2 ++ wS_ s0 v0 f0 r0 ++ wV_ v0 v_keys v_firsts v_ends v_values v_inferred v_gone cI cZ R.2.2.1.1 R.2.2.1.2.1 R.2.2.1.2.2.1 R.2.2.1.2.2.2.1 R.2.2.1.2.2.2.2.1 R.2.2.1.2.2.2.2.2.1 R.2.2.1.2.2.2.2.2.2 ++ wF_ f0 f_keys f_days f_amounts f_versions cI R.2.2.2.1 R.2.2.2.2.1 R.2.2.2.2.2.1 R.2.2.2.2.2.2.1 R.2.2.2.2.2.2.2 ++ wR_ r0 r_keys r_days r_values cI rkeys rdays rvalues rcount) A) (by decide) rfl (Nat.le_of_ble_eq_true rfl) ?_
  intro p e s m args below meth c A ls hx hb hr hts hown hlocks hml htab hA hU hN hC hP hK hD hl
  have hown : s.vm.findClass RX5 = some m.cls := hown
  have hl : lv_has ls 5 [(0, .ref d0), (1, .int a1), (2, .int a2), (3, .int a3)] := hl
  have hS : va_S A s.heap s.heap [] := va_S.rf
  have fl10_ : (Cond.fieldLink RX5 10 "DimensionLoader" "live" "LDimensionLoader$Store;").before args s = true := hts _ (List.mem_of_getElem? (i := 3) rfl)
  have fl51_ : (Cond.fieldLink RX5 51 "DimensionLoader$Store" "versions" "LDimensionLoader$Versions;").before args s = true := hts _ (List.mem_of_getElem? (i := 4) rfl)
  have inX2_ : ∀ w ∈ wsX20, w ∈ wsX5_change := in_X5_change_X2
  have inX5_ : ∀ w ∈ wsX50, w ∈ wsX5_change := in_X5_change_X5
  unfold f_X5_change at hf
  dsimp only at hf
  refine lv_iload_n hx hb dX5_change_0 rfl (lv_at hl 1 rfl) ?_
  obtain ⟨R3, g4, hf⟩ := bd_B hf
  obtain ⟨x1, rfl⟩ : ∃ z, z = R3 := ⟨_, rfl⟩
  have hPc := hP.sub (ws' := []) [] rfl
  have hDc := hD.sub (ws' := []) [] (by decide) rfl
  have hFc := va_free (wc := []) hD hS hA [] rfl
  cases x1 with
  | error E9 =>
    have hR := Option.some.inj hf
    subst hR
    refine vx_callv (vx_runS (As := [.int a1]) (rest := []) ⟨hx, hb, hml, hown, hts⟩ (c_X5_checkKey l dC dI cI cZ cC cJ cD hst s.heap.size a1 (Except.error E9) g4) (cwS 1 hts gX5_change_X5_checkKey rfl rfl rfl hs_X5_checkKey ⟨Nat.le_of_ble_eq_true rfl, Nat.le_of_ble_eq_true rfl⟩) (preSy_ hPc hK hDc rfl hS hU hN hFc hC) rfl rfl hl.1 rfl (lv_room (Nat.le_of_ble_eq_true rfl)) dX5_change_1 ⟨Nat.le_of_ble_eq_true rfl, Nat.le_of_ble_eq_true rfl⟩) hS (fun q _ h => hFc q h) hFc (fun q _ h => hFc q h) (fun E ce q9 u t H7 locs ht hvm hp hB hz1 hk1 hS hce hcv hcl => ?_) (fun u t H7 locs ht hvm hw hB hz1 hk1 hS => ?_)
    · obtain ⟨hE, hB⟩ := hB
      cases hE
      obtain ⟨hP, hD⟩ := aft_ (Wr := wD_ d0 s0 z0 b0 q0 t0 dhasSaved dkeptError dmoved ++ wS_ s0 v0 f0 r0 ++ wV_ v0 v_keys v_firsts v_ends v_values v_inferred v_gone cI cZ vkeys vfirsts vends vvalues vinferred vgone vmade ++ wF_ f0 f_keys f_days f_amounts f_versions cI fkeys fdays famounts fversions fcount ++ wR_ r0 r_keys r_days r_values cI rkeys rdays rvalues rcount) (Wc' := []) (W2 := wD_ d0 s0 z0 b0 q0 t0 dhasSaved dkeptError dmoved ++ wS_ s0 v0 f0 r0 ++ wV_ v0 v_keys v_firsts v_ends v_values v_inferred v_gone cI cZ vkeys vfirsts vends vvalues vinferred vgone vmade ++ wF_ f0 f_keys f_days f_amounts f_versions cI fkeys fdays famounts fversions fcount ++ wR_ r0 r_keys r_days r_values cI rkeys rdays rvalues rcount) hP hD [] [0, 1, 2, 3, 4, 5, 6, 7, 8, 9, 10, 11, 12, 13, 14, 15, 16, 17] [0, 1, 2, 3, 4, 5, 6, 7, 8, 9, 10, 11, 12, 13, 14, 15, 16, 17] rfl rfl (by decide) (by decide) (by decide) hk1 hFc hB ht rfl
      exact vx_out (fun x h => (htab x h).elim) hlocks hce hcv hcl (thr2_ hS hP hK hD rfl) hS.2.2 (Nat.le_of_ble_eq_true rfl) (Nat.le_of_ble_eq_true rfl)
    · exact absurd hw (fun h => nomatch h)
  | ok v2 =>
    refine vx_callv (vx_runS (As := [.int a1]) (rest := []) ⟨hx, hb, hml, hown, hts⟩ (c_X5_checkKey l dC dI cI cZ cC cJ cD hst s.heap.size a1 (Except.ok ()) g4) (cwS 1 hts gX5_change_X5_checkKey rfl rfl rfl hs_X5_checkKey ⟨Nat.le_of_ble_eq_true rfl, Nat.le_of_ble_eq_true rfl⟩) (preSy_ hPc hK hDc rfl hS hU hN hFc hC) rfl rfl hl.1 rfl (lv_room (Nat.le_of_ble_eq_true rfl)) dX5_change_1 ⟨Nat.le_of_ble_eq_true rfl, Nat.le_of_ble_eq_true rfl⟩) hS (fun q _ h => hFc q h) hFc (fun q _ h => hFc q h) (fun E ce q9 u t H7 locs ht hvm hp hB hz1 hk1 hS hce hcv hcl => ?_) (fun u t H7 locs ht hvm hw hB hz1 hk1 hS => ?_)
    · exact absurd hB.1 (fun h => nomatch h)
    · obtain ⟨hP, hD⟩ := aft_ (Wr := wD_ d0 s0 z0 b0 q0 t0 dhasSaved dkeptError dmoved ++ wS_ s0 v0 f0 r0 ++ wV_ v0 v_keys v_firsts v_ends v_values v_inferred v_gone cI cZ vkeys vfirsts vends vvalues vinferred vgone vmade ++ wF_ f0 f_keys f_days f_amounts f_versions cI fkeys fdays famounts fversions fcount ++ wR_ r0 r_keys r_days r_values cI rkeys rdays rvalues rcount) (Wc' := []) (W2 := wD_ d0 s0 z0 b0 q0 t0 dhasSaved dkeptError dmoved ++ wS_ s0 v0 f0 r0 ++ wV_ v0 v_keys v_firsts v_ends v_values v_inferred v_gone cI cZ vkeys vfirsts vends vvalues vinferred vgone vmade ++ wF_ f0 f_keys f_days f_amounts f_versions cI fkeys fdays famounts fversions fcount ++ wR_ r0 r_keys r_days r_values cI rkeys rdays rvalues rcount) hP hD [] [0, 1, 2, 3, 4, 5, 6, 7, 8, 9, 10, 11, 12, 13, 14, 15, 16, 17] [0, 1, 2, 3, 4, 5, 6, 7, 8, 9, 10, 11, 12, 13, 14, 15, 16, 17] rfl rfl (by decide) (by decide) (by decide) hk1 hFc hB ht rfl
      refine lv_iload_n hx hb dX5_change_4 rfl (lv_at hl 2 rfl) ?_
      obtain ⟨R12, g13, hf⟩ := bd_B hf
      obtain ⟨x10, rfl⟩ : ∃ z, z = R12 := ⟨_, rfl⟩
      have hPc := hP.sub (ws' := []) [] rfl
      have hDc := hD.sub (ws' := []) [] (by decide) rfl
      have hFc := va_free (wc := []) hD hS hA [] rfl
      cases x10 with
      | error E18 =>
        have hR := Option.some.inj hf
        subst hR
        refine vx_callv (vx_runS (As := [.int a2]) (rest := []) ⟨hx, hb, hml, hown, hts⟩ (c_X5_checkDay l dC dI cI cZ cC cJ cD hst H7.size a2 (Except.error E18) g13) (cwS 1 hts gX5_change_X5_checkDay rfl rfl rfl hs_X5_checkDay ⟨Nat.le_of_ble_eq_true rfl, Nat.le_of_ble_eq_true rfl⟩) (preSy_ hPc hK hDc rfl hS hU hN hFc hC) rfl rfl hl.1 rfl (lv_room (Nat.le_of_ble_eq_true rfl)) dX5_change_5 ⟨Nat.le_of_ble_eq_true rfl, Nat.le_of_ble_eq_true rfl⟩) hS (fun q _ h => hFc q h) hFc (fun q _ h => hFc q h) (fun E ce q9 u t H16 locs ht hvm hp hB hz1 hk1 hS hce hcv hcl => ?_) (fun u t H16 locs ht hvm hw hB hz1 hk1 hS => ?_)
        · obtain ⟨hE, hB⟩ := hB
          cases hE
          obtain ⟨hP, hD⟩ := aft_ (Wr := wD_ d0 s0 z0 b0 q0 t0 dhasSaved dkeptError dmoved ++ wS_ s0 v0 f0 r0 ++ wV_ v0 v_keys v_firsts v_ends v_values v_inferred v_gone cI cZ vkeys vfirsts vends vvalues vinferred vgone vmade ++ wF_ f0 f_keys f_days f_amounts f_versions cI fkeys fdays famounts fversions fcount ++ wR_ r0 r_keys r_days r_values cI rkeys rdays rvalues rcount) (Wc' := []) (W2 := wD_ d0 s0 z0 b0 q0 t0 dhasSaved dkeptError dmoved ++ wS_ s0 v0 f0 r0 ++ wV_ v0 v_keys v_firsts v_ends v_values v_inferred v_gone cI cZ vkeys vfirsts vends vvalues vinferred vgone vmade ++ wF_ f0 f_keys f_days f_amounts f_versions cI fkeys fdays famounts fversions fcount ++ wR_ r0 r_keys r_days r_values cI rkeys rdays rvalues rcount) hP hD [] [0, 1, 2, 3, 4, 5, 6, 7, 8, 9, 10, 11, 12, 13, 14, 15, 16, 17] [0, 1, 2, 3, 4, 5, 6, 7, 8, 9, 10, 11, 12, 13, 14, 15, 16, 17] rfl rfl (by decide) (by decide) (by decide) hk1 hFc hB ht rfl
          exact vx_out (fun x h => (htab x h).elim) hlocks hce hcv hcl (thr2_ hS hP hK hD rfl) hS.2.2 (Nat.le_of_ble_eq_true rfl) (Nat.le_of_ble_eq_true rfl)
        · exact absurd hw (fun h => nomatch h)
      | ok v11 =>
        refine vx_callv (vx_runS (As := [.int a2]) (rest := []) ⟨hx, hb, hml, hown, hts⟩ (c_X5_checkDay l dC dI cI cZ cC cJ cD hst H7.size a2 (Except.ok ()) g13) (cwS 1 hts gX5_change_X5_checkDay rfl rfl rfl hs_X5_checkDay ⟨Nat.le_of_ble_eq_true rfl, Nat.le_of_ble_eq_true rfl⟩) (preSy_ hPc hK hDc rfl hS hU hN hFc hC) rfl rfl hl.1 rfl (lv_room (Nat.le_of_ble_eq_true rfl)) dX5_change_5 ⟨Nat.le_of_ble_eq_true rfl, Nat.le_of_ble_eq_true rfl⟩) hS (fun q _ h => hFc q h) hFc (fun q _ h => hFc q h) (fun E ce q9 u t H16 locs ht hvm hp hB hz1 hk1 hS hce hcv hcl => ?_) (fun u t H16 locs ht hvm hw hB hz1 hk1 hS => ?_)
        · exact absurd hB.1 (fun h => nomatch h)
        · obtain ⟨hP, hD⟩ := aft_ (Wr := wD_ d0 s0 z0 b0 q0 t0 dhasSaved dkeptError dmoved ++ wS_ s0 v0 f0 r0 ++ wV_ v0 v_keys v_firsts v_ends v_values v_inferred v_gone cI cZ vkeys vfirsts vends vvalues vinferred vgone vmade ++ wF_ f0 f_keys f_days f_amounts f_versions cI fkeys fdays famounts fversions fcount ++ wR_ r0 r_keys r_days r_values cI rkeys rdays rvalues rcount) (Wc' := []) (W2 := wD_ d0 s0 z0 b0 q0 t0 dhasSaved dkeptError dmoved ++ wS_ s0 v0 f0 r0 ++ wV_ v0 v_keys v_firsts v_ends v_values v_inferred v_gone cI cZ vkeys vfirsts vends vvalues vinferred vgone vmade ++ wF_ f0 f_keys f_days f_amounts f_versions cI fkeys fdays famounts fversions fcount ++ wR_ r0 r_keys r_days r_values cI rkeys rdays rvalues rcount) hP hD [] [0, 1, 2, 3, 4, 5, 6, 7, 8, 9, 10, 11, 12, 13, 14, 15, 16, 17] [0, 1, 2, 3, 4, 5, 6, 7, 8, 9, 10, 11, 12, 13, 14, 15, 16, 17] rfl rfl (by decide) (by decide) (by decide) hk1 hFc hB ht rfl
          refine lv_aload_n hx hb dX5_change_8 rfl (lv_at hl 0 rfl) ?_
          refine va_get (D := (dC, dI)) (ci := 7) (v := .ref s0) (C := RX5) (T := TX5) (N := 8) hx hb hts inX5_ hown hK hP 0 rfl rfl 0 (by decide) fl10_ (fun _ h9 => h9) rfl dX5_change_9 ?_
          refine va_get (D := (dC, dI)) (ci := 4) (v := .ref v0) (C := RX2) (T := TX2) (N := 3) hx hb hts inX2_ hown hK hP 1 rfl rfl 0 (by decide) fl51_ (fun _ h9 => h9) rfl dX5_change_12 ?_
          refine lv_iload_n hx hb dX5_change_15 rfl (lv_at hl 1 rfl) ?_
          refine lv_iload_n hx hb dX5_change_16 rfl (lv_at hl 2 rfl) ?_
          refine lv_iload_n hx hb dX5_change_17 rfl (lv_at hl 3 rfl) ?_
          obtain ⟨R27, g28, hf⟩ := bd_B hf
          obtain ⟨r19, ⟨vk20, vf21, ve22, vv23, vi24, vg25, vm26⟩⟩ := R27
          dsimp only at hf
          have hPc := hP.sub (ws' := wV_ v0 v_keys v_firsts v_ends v_values v_inferred v_gone cI cZ vkeys vfirsts vends vvalues vinferred vgone vmade) [2, 3, 4, 5, 6, 7, 8] rfl
          have hDc := hD.sub (ws' := wV_ v0 v_keys v_firsts v_ends v_values v_inferred v_gone cI cZ vkeys vfirsts vends vvalues vinferred vgone vmade) [2, 3, 4, 5, 6, 7, 8] (by decide) rfl
          have hFc := va_free (wc := wV_ v0 v_keys v_firsts v_ends v_values v_inferred v_gone cI cZ vkeys vfirsts vends vvalues vinferred vgone vmade) hD hS hA [2, 3, 4, 5, 6, 7, 8] rfl
          refine va_calli (va_runV (As := [.int a1, .int a2, .int a3]) (rest := []) ⟨hx, hb, hml, hown, hts⟩ (c_X4_put l dC dI cI cZ cC cJ cD v0 v_keys v_firsts v_ends v_values v_inferred v_gone H16.size vkeys vfirsts vends vvalues vinferred vgone vmade a1 a2 a3 (r19, (vk20, vf21, ve22, vv23, vi24, vg25, vm26)) g28) (cwV 3 hts gX5_change_X4_put rfl rfl rfl hs_X4_put ⟨Nat.le_of_ble_eq_true rfl, Nat.le_of_ble_eq_true rfl⟩) (preV_ (ci := 6) (q0 := 0) hPc hK hDc rfl rfl rfl rfl) rfl rfl hl.1 rfl (lv_room (Nat.le_of_ble_eq_true rfl)) dX5_change_18 ⟨Nat.le_of_ble_eq_true rfl, Nat.le_of_ble_eq_true rfl⟩) hS (fun q _ h => hFc q h) hFc (fun z30 u t H29 locs ht hvm hw hB hz1 hk1 hS => ?_)
          have hw : r19 = z30 := hw.symm
          subst hw
          obtain ⟨hP, hD⟩ := aft_ (Wr := wD_ d0 s0 z0 b0 q0 t0 dhasSaved dkeptError dmoved ++ wS_ s0 v0 f0 r0 ++ wF_ f0 f_keys f_days f_amounts f_versions cI fkeys fdays famounts fversions fcount ++ wR_ r0 r_keys r_days r_values cI rkeys rdays rvalues rcount) (Wc' := wV_ v0 v_keys v_firsts v_ends v_values v_inferred v_gone cI cZ vk20 vf21 ve22 vv23 vi24 vg25 vm26) (W2 := wD_ d0 s0 z0 b0 q0 t0 dhasSaved dkeptError dmoved ++ wS_ s0 v0 f0 r0 ++ wV_ v0 v_keys v_firsts v_ends v_values v_inferred v_gone cI cZ vk20 vf21 ve22 vv23 vi24 vg25 vm26 ++ wF_ f0 f_keys f_days f_amounts f_versions cI fkeys fdays famounts fversions fcount ++ wR_ r0 r_keys r_days r_values cI rkeys rdays rvalues rcount) hP hD [2, 3, 4, 5, 6, 7, 8] [0, 1, 9, 10, 11, 12, 13, 14, 15, 16, 17] [0, 1, 11, 12, 13, 14, 15, 16, 17, 2, 3, 4, 5, 6, 7, 8, 9, 10] rfl rfl (by decide) (by decide) (by decide) hk1 hFc hB ht rfl
          refine lv_istore (lv' := [(4, .int r19), (0, .ref d0), (1, .int a1), (2, .int a2), (3, .int a3)]) hx hb dX5_change_21 hl (by decide) rfl (fun ls hl => ?_)
          refine lv_iload hx hb dX5_change_23 (lv_at hl 0 rfl) ?_
          refine lv_iconst (v := (-1)) hx hb dX5_change_25 (by decide) ?_
          refine lv_icmp_ne (tgt := 37) hx hb dX5_change_26 (by decide) (fun c31 => ?_) (fun c31 => ?_)
          · have hf := ite_F c31 hf
            refine lv_aload_n hx hb dX5_change_37 rfl (lv_at hl 1 rfl) ?_
            obtain ⟨R40, g41, hf⟩ := bd_B hf
            obtain ⟨⟨dh32, dk33, dm34⟩, ⟨fk35, fd36, fa37, fv38, fc39⟩⟩ := R40
            dsimp only at hf
            have hPc := hP
            have hDc := hD
            have hFc := va_free (wc := wD_ d0 s0 z0 b0 q0 t0 dhasSaved dkeptError dmoved ++ wS_ s0 v0 f0 r0 ++ wV_ v0 v_keys v_firsts v_ends v_values v_inferred v_gone cI cZ vk20 vf21 ve22 vv23 vi24 vg25 vm26 ++ wF_ f0 f_keys f_days f_amounts f_versions cI fkeys fdays famounts fversions fcount ++ wR_ r0 r_keys r_days r_values cI rkeys rdays rvalues rcount) hD hS hA [0, 1, 2, 3, 4, 5, 6, 7, 8, 9, 10, 11, 12, 13, 14, 15, 16, 17] rfl
            refine va_callv (va_runV (As := []) (rest := []) ⟨hx, hb, hml, hown, hts⟩ (c_X5_pointFacts l dC dI cI cZ cC cJ cD d0 s0 z0 b0 q0 t0 v0 f0 r0 v_keys v_firsts v_ends v_values v_inferred v_gone f_keys f_days f_amounts f_versions r_keys r_days r_values H29.size dhasSaved dkeptError dmoved vk20 vf21 ve22 vv23 vi24 vg25 vm26 fkeys fdays famounts fversions fcount rkeys rdays rvalues rcount ((dh32, dk33, dm34), (fk35, fd36, fa37, fv38, fc39)) g41) (cwV 0 hts gX5_change_X5_pointFacts rfl rfl rfl hs_X5_pointFacts ⟨Nat.le_of_ble_eq_true rfl, Nat.le_of_ble_eq_true rfl⟩) (preV_ (ci := 7) (q0 := 0) hPc hK hDc rfl rfl rfl rfl) rfl rfl hl.1 rfl (lv_room (Nat.le_of_ble_eq_true rfl)) dX5_change_38 ⟨Nat.le_of_ble_eq_true rfl, Nat.le_of_ble_eq_true rfl⟩) hS (fun q _ h => hFc q h) hFc (fun u t H42 locs ht hvm hw hB hz1 hk1 hS => ?_)
            obtain ⟨hP, hD⟩ := aft_ (Wr := []) (Wc' := wD_ d0 s0 z0 b0 q0 t0 dh32 dk33 dm34 ++ wS_ s0 v0 f0 r0 ++ wV_ v0 v_keys v_firsts v_ends v_values v_inferred v_gone cI cZ vk20 vf21 ve22 vv23 vi24 vg25 vm26 ++ wF_ f0 f_keys f_days f_amounts f_versions cI fk35 fd36 fa37 fv38 fc39 ++ wR_ r0 r_keys r_days r_values cI rkeys rdays rvalues rcount) (W2 := wD_ d0 s0 z0 b0 q0 t0 dh32 dk33 dm34 ++ wS_ s0 v0 f0 r0 ++ wV_ v0 v_keys v_firsts v_ends v_values v_inferred v_gone cI cZ vk20 vf21 ve22 vv23 vi24 vg25 vm26 ++ wF_ f0 f_keys f_days f_amounts f_versions cI fk35 fd36 fa37 fv38 fc39 ++ wR_ r0 r_keys r_days r_values cI rkeys rdays rvalues rcount) hP hD [0, 1, 2, 3, 4, 5, 6, 7, 8, 9, 10, 11, 12, 13, 14, 15, 16, 17] [] [0, 1, 2, 3, 4, 5, 6, 7, 8, 9, 10, 11, 12, 13, 14, 15, 16, 17] rfl rfl (by decide) (by decide) (by decide) hk1 hFc hB ht rfl
            refine lv_iload hx hb dX5_change_41 (lv_at hl 0 rfl) ?_
            have hR := Option.some.inj hf
            subst hR
            refine vx_ret (W.widen (k := 3) (n := 18) (Nat.le_of_ble_eq_true rfl) (Nat.le_of_ble_eq_true rfl) ?_)
            exact W.iret (v := r19) hx hb hr (fun t ht hW => ⟨⟨r19, (), rfl, rfl, by rw [ht]; exact hP, va_K.moved hW.alike hK, hD⟩, hS.F ht⟩) hS.2.2 dX5_change_43
          · have hf := ite_T c31 hf
            have hR := Option.some.inj hf
            subst hR
            exact vx_throw0 (names := ["java/lang/RuntimeException", "java/lang/Exception"]) hx hb hst hown (by decide +kernel) (by decide +kernel) (hts _ (List.mem_of_getElem? (i := 1) rfl)) (hts _ (List.mem_of_getElem? (i := 2) rfl)) (vx_hat (fun w h => hts w (at_X5_change_60 w h)) (atn_0 "java/lang/IllegalStateException" (by decide +kernel) 60 (by decide)) (hC.words (by decide +kernel))) at_X5_change_60g hU hN hS (hl.1.trans hml.symm) dX5_change_29 dX5_change_32 dX5_change_33 dX5_change_36 (fun x h => (htab x h).elim) (Nat.le_of_ble_eq_true rfl) (Nat.le_of_ble_eq_true rfl) (Nat.le_of_ble_eq_true rfl) (Nat.le_of_ble_eq_true rfl) hlocks (thr_ hS hP hK hD rfl) hS.2.2 (Nat.le_of_ble_eq_true rfl) (Nat.le_of_ble_eq_true rfl)
theorem hs_X5_change : yX5_change.cls = RX5 ∧ yX5_change.cls ≠ "java/lang/invoke/MethodHandle" ∧ yX5_change.cls ≠ "java/lang/invoke/VarHandle" ∧ (parseMethodDescriptor yX5_change.desc).map (fun d => d.parameters.length) = some 3 := by decide +kernel
set_option maxRecDepth 20000 in
theorem in_X5_addFact_X2 : ∀ w ∈ wsX20, w ∈ wsX5_addFact := by decide +kernel
set_option maxRecDepth 20000 in
theorem in_X5_addFact_X5 : ∀ w ∈ wsX50, w ∈ wsX5_addFact := by decide +kernel
set_option maxRecDepth 20000 in
theorem at_X5_addFact_60 : ∀ w ∈ (vx_at0 RX5 60 "java/lang/IllegalStateException" ["java/lang/RuntimeException", "java/lang/Exception"]).filter goodWord, w ∈ wsX5_addFact := by decide +kernel
set_option maxRecDepth 20000 in
theorem at_X5_addFact_60g : ∀ w ∈ Cond.classLink RX5 58 "java/lang/IllegalStateException" :: Cond.initialized "java/lang/IllegalStateException" :: vx_at0 RX5 60 "java/lang/IllegalStateException" ["java/lang/RuntimeException", "java/lang/Exception"], vx_ot w = true := by decide +kernel
def f_X5_addFact (a1 : Int32) (a2 : Int32) (a3 : Int32) (D_ : tD_) (S_ : tS_) (V_ : tV_) (F_ : tF_) (R_ : tR_) : Option (Except String Int32 × tD_ × tV_ × tF_) :=
match D_ with
| (dhasSaved, dkeptError, dmoved) =>
match V_ with
| (vkeys, vfirsts, vends, vvalues, vinferred, vgone, vmade) =>
match F_ with
| (fkeys, fdays, famounts, fversions, fcount) =>
match R_ with
| (rkeys, rdays, rvalues, rcount) =>
bd_ (f_X5_checkKey a1) (fun x1 =>
match x1 with
| Except.error E9 => some (Except.error E9, (dhasSaved, dkeptError, dmoved), (vkeys, vfirsts, vends, vvalues, vinferred, vgone, vmade), (fkeys, fdays, famounts, fversions, fcount))
| Except.ok v2 =>
bd_ (f_X5_checkDay a2) (fun x10 =>
match x10 with
| Except.error E18 => some (Except.error E18, (dhasSaved, dkeptError, dmoved), (vkeys, vfirsts, vends, vvalues, vinferred, vgone, vmade), (fkeys, fdays, famounts, fversions, fcount))
| Except.ok v11 =>
bd_ (f_X0_isFull (fkeys, fdays, famounts, fversions, fcount)) (fun r19 =>
if r19 = 0 then
bd_ (f_X4_cover a1 a2 (vkeys, vfirsts, vends, vvalues, vinferred, vgone, vmade)) (fun (r25, (vk26, vf27, ve28, vv29, vi30, vg31, vm32)) =>
if r25 = (-1) then
some (Except.error "java/lang/IllegalStateException", (dhasSaved, dkeptError, dmoved), (vk26, vf27, ve28, vv29, vi30, vg31, vm32), (fkeys, fdays, famounts, fversions, fcount))
else
bd_ (f_X5_pointFacts (dhasSaved, dkeptError, dmoved) () (vk26, vf27, ve28, vv29, vi30, vg31, vm32) (fkeys, fdays, famounts, fversions, fcount) (rkeys, rdays, rvalues, rcount)) (fun ((dh38, dk39, dm40), (fk41, fd42, fa43, fv44, fc45)) =>
bd_ (f_X0_add a1 a2 a3 r25 (fk41, fd42, fa43, fv44, fc45)) (fun (fk50, fd51, fa52, fv53, fc54) =>
some (Except.ok r25, (dh38, dk39, dm40), (vk26, vf27, ve28, vv29, vi30, vg31, vm32), (fk50, fd51, fa52, fv53, fc54)))))
else
some (Except.error "java/lang/IllegalStateException", (dhasSaved, dkeptError, dmoved), (vkeys, vfirsts, vends, vvalues, vinferred, vgone, vmade), (fkeys, fdays, famounts, fversions, fcount)))))
abbrev rm_X5_addFact : Room := { frames := 7, cells := 3, slots := 18, locals := 110 }
set_option maxHeartbeats 4000000 in
set_option maxRecDepth 100000 in
theorem c_X5_addFact (l : Launch) (dC : Nat → ClassId) (dI : Nat → Nat → Nat) (cI cZ cC cJ cD : ClassId) (hst : l.stackTraces = false) (d0 s0 z0 b0 q0 t0 v0 f0 r0 v_keys v_firsts v_ends v_values v_inferred v_gone f_keys f_days f_amounts f_versions r_keys r_days r_values : Nat) (sz : Nat) (dhasSaved : Int32) (dkeptError : Int32) (dmoved : Int32) (vkeys : Nat → Int32) (vfirsts : Nat → Int32) (vends : Nat → Int32) (vvalues : Nat → Int32) (vinferred : Nat → Int32) (vgone : Nat → Int32) (vmade : Int32) (fkeys : Nat → Int32) (fdays : Nat → Int32) (famounts : Nat → Int32) (fversions : Nat → Int32) (fcount : Int32) (rkeys : Nat → Int32) (rdays : Nat → Int32) (rvalues : Nat → Int32) (rcount : Int32) (a1 : Int32) (a2 : Int32) (a3 : Int32) (R : Except String Int32 × tD_ × tV_ × tF_) (hf : f_X5_addFact a1 a2 a3 (dhasSaved, dkeptError, dmoved) () (vkeys, vfirsts, vends, vvalues, vinferred, vgone, vmade) (fkeys, fdays, famounts, fversions, fcount) (rkeys, rdays, rvalues, rcount) = some R) : vx_Met l yX5_addFact wsX5_addFact rm_X5_addFact (Py_ (dC, dI) (ty_ cI cZ cC cJ cD) (wD_ d0 s0 z0 b0 q0 t0 dhasSaved dkeptError dmoved ++ wS_ s0 v0 f0 r0 ++ wV_ v0 v_keys v_firsts v_ends v_values v_inferred v_gone cI cZ vkeys vfirsts vends vvalues vinferred vgone vmade ++ wF_ f0 f_keys f_days f_amounts f_versions cI fkeys fdays famounts fversions fcount ++ wR_ r0 r_keys r_days r_values cI rkeys rdays rvalues rcount) sz [.ref d0, .int a1, .int a2, .int a3]) (Xi_ (dC, dI) (ty_ cI cZ cC cJ cD) R.1 (wD_ d0 s0 z0 b0 q0 t0 R.2.1.1 R.2.1.2.1 R.2.1.2.2 ++ wS_ s0 v0 f0 r0 ++ wV_ v0 v_keys v_firsts v_ends v_values v_inferred v_gone cI cZ R.2.2.1.1 R.2.2.1.2.1 R.2.2.1.2.2.1 R.2.2.1.2.2.2.1 R.2.2.1.2.2.2.2.1 R.2.2.1.2.2.2.2.2.1 R.2.2.1.2.2.2.2.2.2 ++ wF_ f0 f_keys f_days f_amounts f_versions cI R.2.2.2.1 R.2.2.2.2.1 R.2.2.2.2.2.1 R.2.2.2.2.2.2.1 R.2.2.2.2.2.2.2 ++ wR_ r0 r_keys r_days r_values cI rkeys rdays rvalues rcount) (va_A (wD_ d0 s0 z0 b0 q0 t0 dhasSaved dkeptError dmoved ++ wS_ s0 v0 f0 r0 ++ wV_ v0 v_keys v_firsts v_ends v_values v_inferred v_gone cI cZ vkeys vfirsts vends vvalues vinferred vgone vmade ++ wF_ f0 f_keys f_days f_amounts f_versions cI fkeys fdays famounts fversions fcount ++ wR_ r0 r_keys r_days r_values cI rkeys rdays rvalues rcount) sz)) (XX_ (dC, dI) (ty_ cI cZ cC cJ cD) R.1 (wD_ d0 s0 z0 b0 q0 t0 R.2.1.1 R.2.1.2.1 R.2.1.2.2 ++ wS_ s0 v0 f0 r0 ++ wV_ v0 v_keys v_firsts v_ends v_values v_inferred v_gone cI cZ R.2.2.1.1 R.2.2.1.2.1 R.2.2.1.2.2.1 R.2.2.1.2.2.2.1 R.2.2.1.2.2.2.2.1 R.2.2.1.2.2.2.2.2.1 R.2.2.1.2.2.2.2.2.2 ++ wF_ f0 f_keys f_days f_amounts f_versions cI R.2.2.2.1 R.2.2.2.2.1 R.2.2.2.2.2.1 R.2.2.2.2.2.2.1 R.2.2.2.2.2.2.2 ++ wR_ r0 r_keys r_days r_values cI rkeys rdays rvalues rcount) (va_A (wD_ d0 s0 z0 b0 q0 t0 dhasSaved dkeptError dmoved ++ wS_ s0 v0 f0 r0 ++ wV_ v0 v_keys v_firsts v_ends v_values v_inferred v_gone cI cZ vkeys vfirsts vends vvalues vinferred vgone vmade ++ wF_ f0 f_keys f_days f_amounts f_versions cI fkeys fdays famounts fversions fcount ++ wR_ r0 r_keys r_days r_values cI rkeys rdays rvalues rcount) sz)) 3 18 (va_A (wD_ d0 s0 z0 b0 q0 t0 dhasSaved dkeptError dmoved ++ wS_ s0 v0 f0 r0 ++ wV_ v0 v_keys v_firsts v_ends v_values v_inferred v_gone cI cZ vkeys vfirsts vends vvalues vinferred vgone vmade ++ wF_ f0 f_keys f_days f_amounts f_versions cI fkeys fdays famounts fversions fcount ++ wR_ r0 r_keys r_days r_values cI rkeys rdays rvalues rcount) sz) := by
  refine mety_ (cc := cX5_addFact) (maxL := 5) (ret := (some .int)) (Qcf := fun A => Xi_ (dC, dI) (ty_ cI cZ cC cJ cD) R.1 (wD_ d0 s0 z0 b0 q0 t0 R.2.1.1 R.2.1.2.1 R.2.1.2.2 ++ wS_ s0 v0 f0 r0 ++ wV_ v0 v_keys v_firsts v_ends v_values v_inferred v_gone cI cZ R.2.2.1.1 R.2.2.1.2.1 R.2.2.1.2.2.1 R.2.2.1.2.2.2.1 R.2.2.1.2.2.2.2.1 R.2.2.1.2.2.2.2.2.1 R.2.2.1.2.2.2.2.2.2 ++ wF_ f0 f_keys f_days f_amounts f_versions cI R.2.2.2.1 R.2.2.2.2.1 R.2.2.2.2.2.1 R.2.2.2.2.2.2.1 R.2.2.2.2.2.2.2 ++ wR_ r0 r_keys r_days r_values cI rkeys rdays rvalues rcount) A) (XCf := fun A => XX_ (dC, dI) (ty_ cI cZ cC cJ cD) R.1 (wD_ d0 s0 z0 b0 q0 t0 R.2.1.1 R.2.1.2.1 R.2.1.2.2 ++ wS_ s0 v0 f0 r0 ++ wV_ v0 v_keys v_firsts v_ends v_values v_inferred v_gone cI cZ R.2.2.1.1 R.2.2.1.2.1 R.2.2.1.2.2.1 R.2.2.1.2.2.2.1 R.2.2.1.2.2.2.2.1 R.2.2.1.2.2.2.2.2.1 R.2.2.1.2.2.2.2.2.2 ++ wF_ f0 f_keys f_days f_amounts f_versions cI R.2.2.2.1 R.2.2.2.2.1 R.2.2.2.2.2.1 R.2.2.2.2.2.2.1 R.2.2.2.2.2.2.2 ++ wR_ r0 r_keys r_days r_values cI rkeys rdays rvalues rcount) A) (by decide) rfl (Nat.le_of_ble_eq_true rfl) ?_
  intro p e s m args below meth c A ls hx hb hr hts hown hlocks hml htab hA hU hN hC hP hK hD hl
  have hown : s.vm.findClass RX5 = some m.cls := hown
  have hl : lv_has ls 5 [(0, .ref d0), (1, .int a1), (2, .int a2), (3, .int a3)] := hl
  have hS : va_S A s.heap s.heap [] := va_S.rf
  have fl10_ : (Cond.fieldLink RX5 10 "DimensionLoader" "live" "LDimensionLoader$Store;").before args s = true := hts _ (List.mem_of_getElem? (i := 3) rfl)
  have fl51_ : (Cond.fieldLink RX5 51 "DimensionLoader$Store" "versions" "LDimensionLoader$Versions;").before args s = true := hts _ (List.mem_of_getElem? (i := 5) rfl)
  have fl64_ : (Cond.fieldLink RX5 64 "DimensionLoader$Store" "facts" "LDimensionLoader$Facts;").before args s = true := hts _ (List.mem_of_getElem? (i := 4) rfl)
  have inX2_ : ∀ w ∈ wsX20, w ∈ wsX5_addFact := in_X5_addFact_X2
  have inX5_ : ∀ w ∈ wsX50, w ∈ wsX5_addFact := in_X5_addFact_X5
  unfold f_X5_addFact at hf
  dsimp only at hf
  refine lv_iload_n hx hb dX5_addFact_0 rfl (lv_at hl 1 rfl) ?_
  obtain ⟨R3, g4, hf⟩ := bd_B hf
  obtain ⟨x1, rfl⟩ : ∃ z, z = R3 := ⟨_, rfl⟩
  have hPc := hP.sub (ws' := []) [] rfl
  have hDc := hD.sub (ws' := []) [] (by decide) rfl
  have hFc := va_free (wc := []) hD hS hA [] rfl
  cases x1 with
  | error E9 =>
    have hR := Option.some.inj hf
    subst hR
    refine vx_callv (vx_runS (As := [.int a1]) (rest := []) ⟨hx, hb, hml, hown, hts⟩ (c_X5_checkKey l dC dI cI cZ cC cJ cD hst s.heap.size a1 (Except.error E9) g4) (cwS 1 hts gX5_addFact_X5_checkKey rfl rfl rfl hs_X5_checkKey ⟨Nat.le_of_ble_eq_true rfl, Nat.le_of_ble_eq_true rfl⟩) (preSy_ hPc hK hDc rfl hS hU hN hFc hC) rfl rfl hl.1 rfl (lv_room (Nat.le_of_ble_eq_true rfl)) dX5_addFact_1 ⟨Nat.le_of_ble_eq_true rfl, Nat.le_of_ble_eq_true rfl⟩) hS (fun q _ h => hFc q h) hFc (fun q _ h => hFc q h) (fun E ce q9 u t H7 locs ht hvm hp hB hz1 hk1 hS hce hcv hcl => ?_) (fun u t H7 locs ht hvm hw hB hz1 hk1 hS => ?_)
    · obtain ⟨hE, hB⟩ := hB
      cases hE
      obtain ⟨hP, hD⟩ := aft_ (Wr := wD_ d0 s0 z0 b0 q0 t0 dhasSaved dkeptError dmoved ++ wS_ s0 v0 f0 r0 ++ wV_ v0 v_keys v_firsts v_ends v_values v_inferred v_gone cI cZ vkeys vfirsts vends vvalues vinferred vgone vmade ++ wF_ f0 f_keys f_days f_amounts f_versions cI fkeys fdays famounts fversions fcount ++ wR_ r0 r_keys r_days r_values cI rkeys rdays rvalues rcount) (Wc' := []) (W2 := wD_ d0 s0 z0 b0 q0 t0 dhasSaved dkeptError dmoved ++ wS_ s0 v0 f0 r0 ++ wV_ v0 v_keys v_firsts v_ends v_values v_inferred v_gone cI cZ vkeys vfirsts vends vvalues vinferred vgone vmade ++ wF_ f0 f_keys f_days f_amounts f_versions cI fkeys fdays famounts fversions fcount ++ wR_ r0 r_keys r_days r_values cI rkeys rdays rvalues rcount) hP hD [] [0, 1, 2, 3, 4, 5, 6, 7, 8, 9, 10, 11, 12, 13, 14, 15, 16, 17] [0, 1, 2, 3, 4, 5, 6, 7, 8, 9, 10, 11, 12, 13, 14, 15, 16, 17] rfl rfl (by decide) (by decide) (by decide) hk1 hFc hB ht rfl
      exact vx_out (fun x h => (htab x h).elim) hlocks hce hcv hcl (thr2_ hS hP hK hD rfl) hS.2.2 (Nat.le_of_ble_eq_true rfl) (Nat.le_of_ble_eq_true rfl)
    · exact absurd hw (fun h => nomatch h)
  | ok v2 =>
    refine vx_callv (vx_runS (As := [.int a1]) (rest := []) ⟨hx, hb, hml, hown, hts⟩ (c_X5_checkKey l dC dI cI cZ cC cJ cD hst s.heap.size a1 (Except.ok ()) g4) (cwS 1 hts gX5_addFact_X5_checkKey rfl rfl rfl hs_X5_checkKey ⟨Nat.le_of_ble_eq_true rfl, Nat.le_of_ble_eq_true rfl⟩) (preSy_ hPc hK hDc rfl hS hU hN hFc hC) rfl rfl hl.1 rfl (lv_room (Nat.le_of_ble_eq_true rfl)) dX5_addFact_1 ⟨Nat.le_of_ble_eq_true rfl, Nat.le_of_ble_eq_true rfl⟩) hS (fun q _ h => hFc q h) hFc (fun q _ h => hFc q h) (fun E ce q9 u t H7 locs ht hvm hp hB hz1 hk1 hS hce hcv hcl => ?_) (fun u t H7 locs ht hvm hw hB hz1 hk1 hS => ?_)
    · exact absurd hB.1 (fun h => nomatch h)
    · obtain ⟨hP, hD⟩ := aft_ (Wr := wD_ d0 s0 z0 b0 q0 t0 dhasSaved dkeptError dmoved ++ wS_ s0 v0 f0 r0 ++ wV_ v0 v_keys v_firsts v_ends v_values v_inferred v_gone cI cZ vkeys vfirsts vends vvalues vinferred vgone vmade ++ wF_ f0 f_keys f_days f_amounts f_versions cI fkeys fdays famounts fversions fcount ++ wR_ r0 r_keys r_days r_values cI rkeys rdays rvalues rcount) (Wc' := []) (W2 := wD_ d0 s0 z0 b0 q0 t0 dhasSaved dkeptError dmoved ++ wS_ s0 v0 f0 r0 ++ wV_ v0 v_keys v_firsts v_ends v_values v_inferred v_gone cI cZ vkeys vfirsts vends vvalues vinferred vgone vmade ++ wF_ f0 f_keys f_days f_amounts f_versions cI fkeys fdays famounts fversions fcount ++ wR_ r0 r_keys r_days r_values cI rkeys rdays rvalues rcount) hP hD [] [0, 1, 2, 3, 4, 5, 6, 7, 8, 9, 10, 11, 12, 13, 14, 15, 16, 17] [0, 1, 2, 3, 4, 5, 6, 7, 8, 9, 10, 11, 12, 13, 14, 15, 16, 17] rfl rfl (by decide) (by decide) (by decide) hk1 hFc hB ht rfl
      refine lv_iload_n hx hb dX5_addFact_4 rfl (lv_at hl 2 rfl) ?_
      obtain ⟨R12, g13, hf⟩ := bd_B hf
      obtain ⟨x10, rfl⟩ : ∃ z, z = R12 := ⟨_, rfl⟩
      have hPc := hP.sub (ws' := []) [] rfl
      have hDc := hD.sub (ws' := []) [] (by decide) rfl
      have hFc := va_free (wc := []) hD hS hA [] rfl
      cases x10 with
      | error E18 =>
        have hR := Option.some.inj hf
        subst hR
        refine vx_callv (vx_runS (As := [.int a2]) (rest := []) ⟨hx, hb, hml, hown, hts⟩ (c_X5_checkDay l dC dI cI cZ cC cJ cD hst H7.size a2 (Except.error E18) g13) (cwS 1 hts gX5_addFact_X5_checkDay rfl rfl rfl hs_X5_checkDay ⟨Nat.le_of_ble_eq_true rfl, Nat.le_of_ble_eq_true rfl⟩) (preSy_ hPc hK hDc rfl hS hU hN hFc hC) rfl rfl hl.1 rfl (lv_room (Nat.le_of_ble_eq_true rfl)) dX5_addFact_5 ⟨Nat.le_of_ble_eq_true rfl, Nat.le_of_ble_eq_true rfl⟩) hS (fun q _ h => hFc q h) hFc (fun q _ h => hFc q h) (fun E ce q9 u t H16 locs ht hvm hp hB hz1 hk1 hS hce hcv hcl => ?_) (fun u t H16 locs ht hvm hw hB hz1 hk1 hS => ?_)
        · obtain ⟨hE, hB⟩ := hB
          cases hE
          obtain ⟨hP, hD⟩ := aft_ (Wr := wD_ d0 s0 z0 b0 q0 t0 dhasSaved dkeptError dmoved ++ wS_ s0 v0 f0 r0 ++ wV_ v0 v_keys v_firsts v_ends v_values v_inferred v_gone cI cZ vkeys vfirsts vends vvalues vinferred vgone vmade ++ wF_ f0 f_keys f_days f_amounts f_versions cI fkeys fdays famounts fversions fcount ++ wR_ r0 r_keys r_days r_values cI rkeys rdays rvalues rcount) (Wc' := []) (W2 := wD_ d0 s0 z0 b0 q0 t0 dhasSaved dkeptError dmoved ++ wS_ s0 v0 f0 r0 ++ wV_ v0 v_keys v_firsts v_ends v_values v_inferred v_gone cI cZ vkeys vfirsts vends vvalues vinferred vgone vmade ++ wF_ f0 f_keys f_days f_amounts f_versions cI fkeys fdays famounts fversions fcount ++ wR_ r0 r_keys r_days r_values cI rkeys rdays rvalues rcount) hP hD [] [0, 1, 2, 3, 4, 5, 6, 7, 8, 9, 10, 11, 12, 13, 14, 15, 16, 17] [0, 1, 2, 3, 4, 5, 6, 7, 8, 9, 10, 11, 12, 13, 14, 15, 16, 17] rfl rfl (by decide) (by decide) (by decide) hk1 hFc hB ht rfl
          exact vx_out (fun x h => (htab x h).elim) hlocks hce hcv hcl (thr2_ hS hP hK hD rfl) hS.2.2 (Nat.le_of_ble_eq_true rfl) (Nat.le_of_ble_eq_true rfl)
        · exact absurd hw (fun h => nomatch h)
      | ok v11 =>
        refine vx_callv (vx_runS (As := [.int a2]) (rest := []) ⟨hx, hb, hml, hown, hts⟩ (c_X5_checkDay l dC dI cI cZ cC cJ cD hst H7.size a2 (Except.ok ()) g13) (cwS 1 hts gX5_addFact_X5_checkDay rfl rfl rfl hs_X5_checkDay ⟨Nat.le_of_ble_eq_true rfl, Nat.le_of_ble_eq_true rfl⟩) (preSy_ hPc hK hDc rfl hS hU hN hFc hC) rfl rfl hl.1 rfl (lv_room (Nat.le_of_ble_eq_true rfl)) dX5_addFact_5 ⟨Nat.le_of_ble_eq_true rfl, Nat.le_of_ble_eq_true rfl⟩) hS (fun q _ h => hFc q h) hFc (fun q _ h => hFc q h) (fun E ce q9 u t H16 locs ht hvm hp hB hz1 hk1 hS hce hcv hcl => ?_) (fun u t H16 locs ht hvm hw hB hz1 hk1 hS => ?_)
        · exact absurd hB.1 (fun h => nomatch h)
        · obtain ⟨hP, hD⟩ := aft_ (Wr := wD_ d0 s0 z0 b0 q0 t0 dhasSaved dkeptError dmoved ++ wS_ s0 v0 f0 r0 ++ wV_ v0 v_keys v_firsts v_ends v_values v_inferred v_gone cI cZ vkeys vfirsts vends vvalues vinferred vgone vmade ++ wF_ f0 f_keys f_days f_amounts f_versions cI fkeys fdays famounts fversions fcount ++ wR_ r0 r_keys r_days r_values cI rkeys rdays rvalues rcount) (Wc' := []) (W2 := wD_ d0 s0 z0 b0 q0 t0 dhasSaved dkeptError dmoved ++ wS_ s0 v0 f0 r0 ++ wV_ v0 v_keys v_firsts v_ends v_values v_inferred v_gone cI cZ vkeys vfirsts vends vvalues vinferred vgone vmade ++ wF_ f0 f_keys f_days f_amounts f_versions cI fkeys fdays famounts fversions fcount ++ wR_ r0 r_keys r_days r_values cI rkeys rdays rvalues rcount) hP hD [] [0, 1, 2, 3, 4, 5, 6, 7, 8, 9, 10, 11, 12, 13, 14, 15, 16, 17] [0, 1, 2, 3, 4, 5, 6, 7, 8, 9, 10, 11, 12, 13, 14, 15, 16, 17] rfl rfl (by decide) (by decide) (by decide) hk1 hFc hB ht rfl
          refine lv_aload_n hx hb dX5_addFact_8 rfl (lv_at hl 0 rfl) ?_
          refine va_get (D := (dC, dI)) (ci := 7) (v := .ref s0) (C := RX5) (T := TX5) (N := 8) hx hb hts inX5_ hown hK hP 0 rfl rfl 0 (by decide) fl10_ (fun _ h9 => h9) rfl dX5_addFact_9 ?_
          refine va_get (D := (dC, dI)) (ci := 4) (v := .ref f0) (C := RX2) (T := TX2) (N := 3) hx hb hts inX2_ hown hK hP 1 rfl rfl 1 (by decide) fl64_ (fun _ h9 => h9) rfl dX5_addFact_12 ?_
          obtain ⟨R20, g21, hf⟩ := bd_B hf
          obtain ⟨r19, rfl⟩ : ∃ z, z = R20 := ⟨_, rfl⟩
          have hPc := hP.sub (ws' := wF_ f0 f_keys f_days f_amounts f_versions cI fkeys fdays famounts fversions fcount) [9, 10, 11, 12, 13] rfl
          have hDc := hD.sub (ws' := wF_ f0 f_keys f_days f_amounts f_versions cI fkeys fdays famounts fversions fcount) [9, 10, 11, 12, 13] (by decide) rfl
          have hFc := va_free (wc := wF_ f0 f_keys f_days f_amounts f_versions cI fkeys fdays famounts fversions fcount) hD hS hA [9, 10, 11, 12, 13] rfl
          refine va_calli (va_runV (As := []) (rest := []) ⟨hx, hb, hml, hown, hts⟩ (c_X0_isFull l dC dI cI cZ cC cJ cD f0 f_keys f_days f_amounts f_versions H16.size fkeys fdays famounts fversions fcount r19 g21) (cwV 0 hts gX5_addFact_X0_isFull rfl rfl rfl hs_X0_isFull ⟨Nat.le_of_ble_eq_true rfl, Nat.le_of_ble_eq_true rfl⟩) (preV_ (ci := 2) (q0 := 0) hPc hK hDc rfl rfl rfl rfl) rfl rfl hl.1 rfl (lv_room (Nat.le_of_ble_eq_true rfl)) dX5_addFact_15 ⟨Nat.le_of_ble_eq_true rfl, Nat.le_of_ble_eq_true rfl⟩) hS (fun q _ h => hFc q h) hFc (fun z23 u t H22 locs ht hvm hw hB hz1 hk1 hS => ?_)
          have hw : r19 = z23 := hw.symm
          subst hw
          obtain ⟨hP, hD⟩ := aft_ (Wr := wD_ d0 s0 z0 b0 q0 t0 dhasSaved dkeptError dmoved ++ wS_ s0 v0 f0 r0 ++ wV_ v0 v_keys v_firsts v_ends v_values v_inferred v_gone cI cZ vkeys vfirsts vends vvalues vinferred vgone vmade ++ wR_ r0 r_keys r_days r_values cI rkeys rdays rvalues rcount) (Wc' := wF_ f0 f_keys f_days f_amounts f_versions cI fkeys fdays famounts fversions fcount) (W2 := wD_ d0 s0 z0 b0 q0 t0 dhasSaved dkeptError dmoved ++ wS_ s0 v0 f0 r0 ++ wV_ v0 v_keys v_firsts v_ends v_values v_inferred v_gone cI cZ vkeys vfirsts vends vvalues vinferred vgone vmade ++ wF_ f0 f_keys f_days f_amounts f_versions cI fkeys fdays famounts fversions fcount ++ wR_ r0 r_keys r_days r_values cI rkeys rdays rvalues rcount) hP hD [9, 10, 11, 12, 13] [0, 1, 2, 3, 4, 5, 6, 7, 8, 14, 15, 16, 17] [0, 1, 2, 3, 4, 5, 6, 7, 8, 13, 14, 15, 16, 17, 9, 10, 11, 12] rfl rfl (by decide) (by decide) (by decide) hk1 hFc hB ht rfl
          refine lv_if_eq (tgt := 29) hx hb dX5_addFact_18 (by decide) (fun c24 => ?_) (fun c24 => ?_)
          · have hf := ite_T c24 hf
            refine lv_aload_n hx hb dX5_addFact_29 rfl (lv_at hl 0 rfl) ?_
            refine va_get (D := (dC, dI)) (ci := 7) (v := .ref s0) (C := RX5) (T := TX5) (N := 8) hx hb hts inX5_ hown hK hP 0 rfl rfl 0 (by decide) fl10_ (fun _ h9 => h9) rfl dX5_addFact_30 ?_
            refine va_get (D := (dC, dI)) (ci := 4) (v := .ref v0) (C := RX2) (T := TX2) (N := 3) hx hb hts inX2_ hown hK hP 1 rfl rfl 0 (by decide) fl51_ (fun _ h9 => h9) rfl dX5_addFact_33 ?_
            refine lv_iload_n hx hb dX5_addFact_36 rfl (lv_at hl 1 rfl) ?_
            refine lv_iload_n hx hb dX5_addFact_37 rfl (lv_at hl 2 rfl) ?_
            obtain ⟨R33, g34, hf⟩ := bd_B hf
            obtain ⟨r25, ⟨vk26, vf27, ve28, vv29, vi30, vg31, vm32⟩⟩ := R33
            dsimp only at hf
            have hPc := hP.sub (ws' := wV_ v0 v_keys v_firsts v_ends v_values v_inferred v_gone cI cZ vkeys vfirsts vends vvalues vinferred vgone vmade) [2, 3, 4, 5, 6, 7, 8] rfl
            have hDc := hD.sub (ws' := wV_ v0 v_keys v_firsts v_ends v_values v_inferred v_gone cI cZ vkeys vfirsts vends vvalues vinferred vgone vmade) [2, 3, 4, 5, 6, 7, 8] (by decide) rfl
            have hFc := va_free (wc := wV_ v0 v_keys v_firsts v_ends v_values v_inferred v_gone cI cZ vkeys vfirsts vends vvalues vinferred vgone vmade) hD hS hA [2, 3, 4, 5, 6, 7, 8] rfl
            refine va_calli (va_runV (As := [.int a1, .int a2]) (rest := []) ⟨hx, hb, hml, hown, hts⟩ (c_X4_cover l dC dI cI cZ cC cJ cD v0 v_keys v_firsts v_ends v_values v_inferred v_gone H22.size vkeys vfirsts vends vvalues vinferred vgone vmade a1 a2 (r25, (vk26, vf27, ve28, vv29, vi30, vg31, vm32)) g34) (cwV 2 hts gX5_addFact_X4_cover rfl rfl rfl hs_X4_cover ⟨Nat.le_of_ble_eq_true rfl, Nat.le_of_ble_eq_true rfl⟩) (preV_ (ci := 6) (q0 := 0) hPc hK hDc rfl rfl rfl rfl) rfl rfl hl.1 rfl (lv_room (Nat.le_of_ble_eq_true rfl)) dX5_addFact_38 ⟨Nat.le_of_ble_eq_true rfl, Nat.le_of_ble_eq_true rfl⟩) hS (fun q _ h => hFc q h) hFc (fun z36 u t H35 locs ht hvm hw hB hz1 hk1 hS => ?_)
            have hw : r25 = z36 := hw.symm
            subst hw
            obtain ⟨hP, hD⟩ := aft_ (Wr := wD_ d0 s0 z0 b0 q0 t0 dhasSaved dkeptError dmoved ++ wS_ s0 v0 f0 r0 ++ wF_ f0 f_keys f_days f_amounts f_versions cI fkeys fdays famounts fversions fcount ++ wR_ r0 r_keys r_days r_values cI rkeys rdays rvalues rcount) (Wc' := wV_ v0 v_keys v_firsts v_ends v_values v_inferred v_gone cI cZ vk26 vf27 ve28 vv29 vi30 vg31 vm32) (W2 := wD_ d0 s0 z0 b0 q0 t0 dhasSaved dkeptError dmoved ++ wS_ s0 v0 f0 r0 ++ wV_ v0 v_keys v_firsts v_ends v_values v_inferred v_gone cI cZ vk26 vf27 ve28 vv29 vi30 vg31 vm32 ++ wF_ f0 f_keys f_days f_amounts f_versions cI fkeys fdays famounts fversions fcount ++ wR_ r0 r_keys r_days r_values cI rkeys rdays rvalues rcount) hP hD [2, 3, 4, 5, 6, 7, 8] [0, 1, 9, 10, 11, 12, 13, 14, 15, 16, 17] [0, 1, 11, 12, 13, 14, 15, 16, 17, 2, 3, 4, 5, 6, 7, 8, 9, 10] rfl rfl (by decide) (by decide) (by decide) hk1 hFc hB ht rfl
            refine lv_istore (lv' := [(4, .int r25), (0, .ref d0), (1, .int a1), (2, .int a2), (3, .int a3)]) hx hb dX5_addFact_41 hl (by decide) rfl (fun ls hl => ?_)
            refine lv_iload hx hb dX5_addFact_43 (lv_at hl 0 rfl) ?_
            refine lv_iconst (v := (-1)) hx hb dX5_addFact_45 (by decide) ?_
            refine lv_icmp_ne (tgt := 57) hx hb dX5_addFact_46 (by decide) (fun c37 => ?_) (fun c37 => ?_)
            · have hf := ite_F c37 hf
              refine lv_aload_n hx hb dX5_addFact_57 rfl (lv_at hl 1 rfl) ?_
              obtain ⟨R46, g47, hf⟩ := bd_B hf
              obtain ⟨⟨dh38, dk39, dm40⟩, ⟨fk41, fd42, fa43, fv44, fc45⟩⟩ := R46
              dsimp only at hf
              have hPc := hP
              have hDc := hD
              have hFc := va_free (wc := wD_ d0 s0 z0 b0 q0 t0 dhasSaved dkeptError dmoved ++ wS_ s0 v0 f0 r0 ++ wV_ v0 v_keys v_firsts v_ends v_values v_inferred v_gone cI cZ vk26 vf27 ve28 vv29 vi30 vg31 vm32 ++ wF_ f0 f_keys f_days f_amounts f_versions cI fkeys fdays famounts fversions fcount ++ wR_ r0 r_keys r_days r_values cI rkeys rdays rvalues rcount) hD hS hA [0, 1, 2, 3, 4, 5, 6, 7, 8, 9, 10, 11, 12, 13, 14, 15, 16, 17] rfl
              refine va_callv (va_runV (As := []) (rest := []) ⟨hx, hb, hml, hown, hts⟩ (c_X5_pointFacts l dC dI cI cZ cC cJ cD d0 s0 z0 b0 q0 t0 v0 f0 r0 v_keys v_firsts v_ends v_values v_inferred v_gone f_keys f_days f_amounts f_versions r_keys r_days r_values H35.size dhasSaved dkeptError dmoved vk26 vf27 ve28 vv29 vi30 vg31 vm32 fkeys fdays famounts fversions fcount rkeys rdays rvalues rcount ((dh38, dk39, dm40), (fk41, fd42, fa43, fv44, fc45)) g47) (cwV 0 hts gX5_addFact_X5_pointFacts rfl rfl rfl hs_X5_pointFacts ⟨Nat.le_of_ble_eq_true rfl, Nat.le_of_ble_eq_true rfl⟩) (preV_ (ci := 7) (q0 := 0) hPc hK hDc rfl rfl rfl rfl) rfl rfl hl.1 rfl (lv_room (Nat.le_of_ble_eq_true rfl)) dX5_addFact_58 ⟨Nat.le_of_ble_eq_true rfl, Nat.le_of_ble_eq_true rfl⟩) hS (fun q _ h => hFc q h) hFc (fun u t H48 locs ht hvm hw hB hz1 hk1 hS => ?_)
              obtain ⟨hP, hD⟩ := aft_ (Wr := []) (Wc' := wD_ d0 s0 z0 b0 q0 t0 dh38 dk39 dm40 ++ wS_ s0 v0 f0 r0 ++ wV_ v0 v_keys v_firsts v_ends v_values v_inferred v_gone cI cZ vk26 vf27 ve28 vv29 vi30 vg31 vm32 ++ wF_ f0 f_keys f_days f_amounts f_versions cI fk41 fd42 fa43 fv44 fc45 ++ wR_ r0 r_keys r_days r_values cI rkeys rdays rvalues rcount) (W2 := wD_ d0 s0 z0 b0 q0 t0 dh38 dk39 dm40 ++ wS_ s0 v0 f0 r0 ++ wV_ v0 v_keys v_firsts v_ends v_values v_inferred v_gone cI cZ vk26 vf27 ve28 vv29 vi30 vg31 vm32 ++ wF_ f0 f_keys f_days f_amounts f_versions cI fk41 fd42 fa43 fv44 fc45 ++ wR_ r0 r_keys r_days r_values cI rkeys rdays rvalues rcount) hP hD [0, 1, 2, 3, 4, 5, 6, 7, 8, 9, 10, 11, 12, 13, 14, 15, 16, 17] [] [0, 1, 2, 3, 4, 5, 6, 7, 8, 9, 10, 11, 12, 13, 14, 15, 16, 17] rfl rfl (by decide) (by decide) (by decide) hk1 hFc hB ht rfl
              refine lv_aload_n hx hb dX5_addFact_61 rfl (lv_at hl 1 rfl) ?_
              refine va_get (D := (dC, dI)) (ci := 7) (v := .ref s0) (C := RX5) (T := TX5) (N := 8) hx hb hts inX5_ hown hK hP 0 rfl rfl 0 (by decide) fl10_ (fun _ h9 => h9) rfl dX5_addFact_62 ?_
              refine va_get (D := (dC, dI)) (ci := 4) (v := .ref f0) (C := RX2) (T := TX2) (N := 3) hx hb hts inX2_ hown hK hP 1 rfl rfl 1 (by decide) fl64_ (fun _ h9 => h9) rfl dX5_addFact_65 ?_
              refine lv_iload_n hx hb dX5_addFact_68 rfl (lv_at hl 2 rfl) ?_
              refine lv_iload_n hx hb dX5_addFact_69 rfl (lv_at hl 3 rfl) ?_
              refine lv_iload_n hx hb dX5_addFact_70 rfl (lv_at hl 4 rfl) ?_
              refine lv_iload hx hb dX5_addFact_71 (lv_at hl 0 rfl) ?_
              obtain ⟨R55, g56, hf⟩ := bd_B hf
              obtain ⟨fk50, fd51, fa52, fv53, fc54⟩ := R55
              dsimp only at hf
              have hPc := hP.sub (ws' := wF_ f0 f_keys f_days f_amounts f_versions cI fk41 fd42 fa43 fv44 fc45) [9, 10, 11, 12, 13] rfl
              have hDc := hD.sub (ws' := wF_ f0 f_keys f_days f_amounts f_versions cI fk41 fd42 fa43 fv44 fc45) [9, 10, 11, 12, 13] (by decide) rfl
              have hFc := va_free (wc := wF_ f0 f_keys f_days f_amounts f_versions cI fk41 fd42 fa43 fv44 fc45) hD hS hA [9, 10, 11, 12, 13] rfl
              refine va_callv (va_runV (As := [.int a1, .int a2, .int a3, .int r25]) (rest := []) ⟨hx, hb, hml, hown, hts⟩ (c_X0_add l dC dI cI cZ cC cJ cD f0 f_keys f_days f_amounts f_versions H48.size fk41 fd42 fa43 fv44 fc45 a1 a2 a3 r25 (fk50, fd51, fa52, fv53, fc54) g56) (cwV 4 hts gX5_addFact_X0_add rfl rfl rfl hs_X0_add ⟨Nat.le_of_ble_eq_true rfl, Nat.le_of_ble_eq_true rfl⟩) (preV_ (ci := 2) (q0 := 0) hPc hK hDc rfl rfl rfl rfl) rfl rfl hl.1 rfl (lv_room (Nat.le_of_ble_eq_true rfl)) dX5_addFact_73 ⟨Nat.le_of_ble_eq_true rfl, Nat.le_of_ble_eq_true rfl⟩) hS (fun q _ h => hFc q h) hFc (fun u t H57 locs ht hvm hw hB hz1 hk1 hS => ?_)
              obtain ⟨hP, hD⟩ := aft_ (Wr := wD_ d0 s0 z0 b0 q0 t0 dh38 dk39 dm40 ++ wS_ s0 v0 f0 r0 ++ wV_ v0 v_keys v_firsts v_ends v_values v_inferred v_gone cI cZ vk26 vf27 ve28 vv29 vi30 vg31 vm32 ++ wR_ r0 r_keys r_days r_values cI rkeys rdays rvalues rcount) (Wc' := wF_ f0 f_keys f_days f_amounts f_versions cI fk50 fd51 fa52 fv53 fc54) (W2 := wD_ d0 s0 z0 b0 q0 t0 dh38 dk39 dm40 ++ wS_ s0 v0 f0 r0 ++ wV_ v0 v_keys v_firsts v_ends v_values v_inferred v_gone cI cZ vk26 vf27 ve28 vv29 vi30 vg31 vm32 ++ wF_ f0 f_keys f_days f_amounts f_versions cI fk50 fd51 fa52 fv53 fc54 ++ wR_ r0 r_keys r_days r_values cI rkeys rdays rvalues rcount) hP hD [9, 10, 11, 12, 13] [0, 1, 2, 3, 4, 5, 6, 7, 8, 14, 15, 16, 17] [0, 1, 2, 3, 4, 5, 6, 7, 8, 13, 14, 15, 16, 17, 9, 10, 11, 12] rfl rfl (by decide) (by decide) (by decide) hk1 hFc hB ht rfl
              refine lv_iload hx hb dX5_addFact_76 (lv_at hl 0 rfl) ?_
              have hR := Option.some.inj hf
              subst hR
              refine vx_ret (W.widen (k := 3) (n := 18) (Nat.le_of_ble_eq_true rfl) (Nat.le_of_ble_eq_true rfl) ?_)
              exact W.iret (v := r25) hx hb hr (fun t ht hW => ⟨⟨r25, (), rfl, rfl, by rw [ht]; exact hP, va_K.moved hW.alike hK, hD⟩, hS.F ht⟩) hS.2.2 dX5_addFact_78
            · have hf := ite_T c37 hf
              have hR := Option.some.inj hf
              subst hR
              exact vx_throw0 (names := ["java/lang/RuntimeException", "java/lang/Exception"]) hx hb hst hown (by decide +kernel) (by decide +kernel) (hts _ (List.mem_of_getElem? (i := 1) rfl)) (hts _ (List.mem_of_getElem? (i := 2) rfl)) (vx_hat (fun w h => hts w (at_X5_addFact_60 w h)) (atn_0 "java/lang/IllegalStateException" (by decide +kernel) 60 (by decide)) (hC.words (by decide +kernel))) at_X5_addFact_60g hU hN hS (hl.1.trans hml.symm) dX5_addFact_49 dX5_addFact_52 dX5_addFact_53 dX5_addFact_56 (fun x h => (htab x h).elim) (Nat.le_of_ble_eq_true rfl) (Nat.le_of_ble_eq_true rfl) (Nat.le_of_ble_eq_true rfl) (Nat.le_of_ble_eq_true rfl) hlocks (thr_ hS hP hK hD rfl) hS.2.2 (Nat.le_of_ble_eq_true rfl) (Nat.le_of_ble_eq_true rfl)
          · have hf := ite_F c24 hf
            have hR := Option.some.inj hf
            subst hR
            exact vx_throw0 (names := ["java/lang/RuntimeException", "java/lang/Exception"]) hx hb hst hown (by decide +kernel) (by decide +kernel) (hts _ (List.mem_of_getElem? (i := 1) rfl)) (hts _ (List.mem_of_getElem? (i := 2) rfl)) (vx_hat (fun w h => hts w (at_X5_addFact_60 w h)) (atn_0 "java/lang/IllegalStateException" (by decide +kernel) 60 (by decide)) (hC.words (by decide +kernel))) at_X5_addFact_60g hU hN hS (hl.1.trans hml.symm) dX5_addFact_21 dX5_addFact_24 dX5_addFact_25 dX5_addFact_28 (fun x h => (htab x h).elim) (Nat.le_of_ble_eq_true rfl) (Nat.le_of_ble_eq_true rfl) (Nat.le_of_ble_eq_true rfl) (Nat.le_of_ble_eq_true rfl) hlocks (thr_ hS hP hK hD rfl) hS.2.2 (Nat.le_of_ble_eq_true rfl) (Nat.le_of_ble_eq_true rfl)
theorem hs_X5_addFact : yX5_addFact.cls = RX5 ∧ yX5_addFact.cls ≠ "java/lang/invoke/MethodHandle" ∧ yX5_addFact.cls ≠ "java/lang/invoke/VarHandle" ∧ (parseMethodDescriptor yX5_addFact.desc).map (fun d => d.parameters.length) = some 3 := by decide +kernel
set_option maxRecDepth 20000 in
theorem in_X5_close_X2 : ∀ w ∈ wsX20, w ∈ wsX5_close := by decide +kernel
set_option maxRecDepth 20000 in
theorem in_X5_close_X4 : ∀ w ∈ wsX40, w ∈ wsX5_close := by decide +kernel
set_option maxRecDepth 20000 in
theorem in_X5_close_X5 : ∀ w ∈ wsX50, w ∈ wsX5_close := by decide +kernel
set_option maxRecDepth 20000 in
theorem at_X5_close_60 : ∀ w ∈ (vx_at0 RX5 60 "java/lang/IllegalStateException" ["java/lang/RuntimeException", "java/lang/Exception"]).filter goodWord, w ∈ wsX5_close := by decide +kernel
set_option maxRecDepth 20000 in
theorem at_X5_close_60g : ∀ w ∈ Cond.classLink RX5 58 "java/lang/IllegalStateException" :: Cond.initialized "java/lang/IllegalStateException" :: vx_at0 RX5 60 "java/lang/IllegalStateException" ["java/lang/RuntimeException", "java/lang/Exception"], vx_ot w = true := by decide +kernel
set_option maxRecDepth 20000 in
theorem at_X5_close_87 : ∀ w ∈ (vx_at0 RX5 87 "java/util/NoSuchElementException" ["java/lang/RuntimeException", "java/lang/Exception"]).filter goodWord, w ∈ wsX5_close := by decide +kernel
set_option maxRecDepth 20000 in
theorem at_X5_close_87g : ∀ w ∈ Cond.classLink RX5 85 "java/util/NoSuchElementException" :: Cond.initialized "java/util/NoSuchElementException" :: vx_at0 RX5 87 "java/util/NoSuchElementException" ["java/lang/RuntimeException", "java/lang/Exception"], vx_ot w = true := by decide +kernel
def f_X5_close (a1 : Int32) (a2 : Int32) (D_ : tD_) (S_ : tS_) (V_ : tV_) (F_ : tF_) (R_ : tR_) : Option (Except String Int32 × tD_ × tV_ × tF_) :=
match D_ with
| (dhasSaved, dkeptError, dmoved) =>
match V_ with
| (vkeys, vfirsts, vends, vvalues, vinferred, vgone, vmade) =>
match F_ with
| (fkeys, fdays, famounts, fversions, fcount) =>
match R_ with
| (rkeys, rdays, rvalues, rcount) =>
bd_ (f_X5_checkKey a1) (fun x1 =>
match x1 with
| Except.error E9 => some (Except.error E9, (dhasSaved, dkeptError, dmoved), (vkeys, vfirsts, vends, vvalues, vinferred, vgone, vmade), (fkeys, fdays, famounts, fversions, fcount))
| Except.ok v2 =>
bd_ (f_X5_checkDay a2) (fun x10 =>
match x10 with
| Except.error E18 => some (Except.error E18, (dhasSaved, dkeptError, dmoved), (vkeys, vfirsts, vends, vvalues, vinferred, vgone, vmade), (fkeys, fdays, famounts, fversions, fcount))
| Except.ok v11 =>
bd_ (f_X4_onDay a1 a2 (vkeys, vfirsts, vends, vvalues, vinferred, vgone, vmade)) (fun r19 =>
if r19 = (-1) then
some (Except.error "java/util/NoSuchElementException", (dhasSaved, dkeptError, dmoved), (vkeys, vfirsts, vends, vvalues, vinferred, vgone, vmade), (fkeys, fdays, famounts, fversions, fcount))
else
gd_ r19 60 (
if (vfirsts r19.toNatClampNeg) = a2 then
some (Except.error "java/lang/IllegalStateException", (dhasSaved, dkeptError, dmoved), (vkeys, vfirsts, vends, vvalues, vinferred, vgone, vmade), (fkeys, fdays, famounts, fversions, fcount))
else
bd_ (f_X0_pointFrom a2 r19 (fkeys, fdays, famounts, fversions, fcount)) (fun r27 =>
if r27 = 0 then
gd_ r19 60 (
gd_ r19 60 (nm_ (upd vends r19.toNatClampNeg a2) (fun u36 =>
bd_ (f_X5_pointFacts (dhasSaved, dkeptError, dmoved) () (vkeys, vfirsts, u36, vvalues, vinferred, vgone, vmade) (fkeys, fdays, famounts, fversions, fcount) (rkeys, rdays, rvalues, rcount)) (fun ((dh38, dk39, dm40), (fk41, fd42, fa43, fv44, fc45)) =>
some (Except.ok (vends r19.toNatClampNeg), (dh38, dk39, dm40), (vkeys, vfirsts, u36, vvalues, vinferred, vgone, vmade), (fk41, fd42, fa43, fv44, fc45))))))
else
some (Except.error "java/lang/IllegalStateException", (dhasSaved, dkeptError, dmoved), (vkeys, vfirsts, vends, vvalues, vinferred, vgone, vmade), (fkeys, fdays, famounts, fversions, fcount)))))))
abbrev rm_X5_close : Room := { frames := 7, cells := 3, slots := 18, locals := 110 }
set_option maxHeartbeats 4000000 in
set_option maxRecDepth 100000 in
theorem c_X5_close (l : Launch) (dC : Nat → ClassId) (dI : Nat → Nat → Nat) (cI cZ cC cJ cD : ClassId) (hst : l.stackTraces = false) (d0 s0 z0 b0 q0 t0 v0 f0 r0 v_keys v_firsts v_ends v_values v_inferred v_gone f_keys f_days f_amounts f_versions r_keys r_days r_values : Nat) (sz : Nat) (dhasSaved : Int32) (dkeptError : Int32) (dmoved : Int32) (vkeys : Nat → Int32) (vfirsts : Nat → Int32) (vends : Nat → Int32) (vvalues : Nat → Int32) (vinferred : Nat → Int32) (vgone : Nat → Int32) (vmade : Int32) (fkeys : Nat → Int32) (fdays : Nat → Int32) (famounts : Nat → Int32) (fversions : Nat → Int32) (fcount : Int32) (rkeys : Nat → Int32) (rdays : Nat → Int32) (rvalues : Nat → Int32) (rcount : Int32) (a1 : Int32) (a2 : Int32) (R : Except String Int32 × tD_ × tV_ × tF_) (hf : f_X5_close a1 a2 (dhasSaved, dkeptError, dmoved) () (vkeys, vfirsts, vends, vvalues, vinferred, vgone, vmade) (fkeys, fdays, famounts, fversions, fcount) (rkeys, rdays, rvalues, rcount) = some R) : vx_Met l yX5_close wsX5_close rm_X5_close (Py_ (dC, dI) (ty_ cI cZ cC cJ cD) (wD_ d0 s0 z0 b0 q0 t0 dhasSaved dkeptError dmoved ++ wS_ s0 v0 f0 r0 ++ wV_ v0 v_keys v_firsts v_ends v_values v_inferred v_gone cI cZ vkeys vfirsts vends vvalues vinferred vgone vmade ++ wF_ f0 f_keys f_days f_amounts f_versions cI fkeys fdays famounts fversions fcount ++ wR_ r0 r_keys r_days r_values cI rkeys rdays rvalues rcount) sz [.ref d0, .int a1, .int a2]) (Xi_ (dC, dI) (ty_ cI cZ cC cJ cD) R.1 (wD_ d0 s0 z0 b0 q0 t0 R.2.1.1 R.2.1.2.1 R.2.1.2.2 ++ wS_ s0 v0 f0 r0 ++ wV_ v0 v_keys v_firsts v_ends v_values v_inferred v_gone cI cZ R.2.2.1.1 R.2.2.1.2.1 R.2.2.1.2.2.1 R.2.2.1.2.2.2.1 R.2.2.1.2.2.2.2.1 R.2.2.1.2.2.2.2.2.1 R.2.2.1.2.2.2.2.2.2 ++ wF_ f0 f_keys f_days f_amounts f_versions cI R.2.2.2.1 R.2.2.2.2.1 R.2.2.2.2.2.1 R.2.2.2.2.2.2.1 R.2.2.2.2.2.2.2 ++ wR_ r0 r_keys r_days r_values cI rkeys rdays rvalues rcount) (va_A (wD_ d0 s0 z0 b0 q0 t0 dhasSaved dkeptError dmoved ++ wS_ s0 v0 f0 r0 ++ wV_ v0 v_keys v_firsts v_ends v_values v_inferred v_gone cI cZ vkeys vfirsts vends vvalues vinferred vgone vmade ++ wF_ f0 f_keys f_days f_amounts f_versions cI fkeys fdays famounts fversions fcount ++ wR_ r0 r_keys r_days r_values cI rkeys rdays rvalues rcount) sz)) (XX_ (dC, dI) (ty_ cI cZ cC cJ cD) R.1 (wD_ d0 s0 z0 b0 q0 t0 R.2.1.1 R.2.1.2.1 R.2.1.2.2 ++ wS_ s0 v0 f0 r0 ++ wV_ v0 v_keys v_firsts v_ends v_values v_inferred v_gone cI cZ R.2.2.1.1 R.2.2.1.2.1 R.2.2.1.2.2.1 R.2.2.1.2.2.2.1 R.2.2.1.2.2.2.2.1 R.2.2.1.2.2.2.2.2.1 R.2.2.1.2.2.2.2.2.2 ++ wF_ f0 f_keys f_days f_amounts f_versions cI R.2.2.2.1 R.2.2.2.2.1 R.2.2.2.2.2.1 R.2.2.2.2.2.2.1 R.2.2.2.2.2.2.2 ++ wR_ r0 r_keys r_days r_values cI rkeys rdays rvalues rcount) (va_A (wD_ d0 s0 z0 b0 q0 t0 dhasSaved dkeptError dmoved ++ wS_ s0 v0 f0 r0 ++ wV_ v0 v_keys v_firsts v_ends v_values v_inferred v_gone cI cZ vkeys vfirsts vends vvalues vinferred vgone vmade ++ wF_ f0 f_keys f_days f_amounts f_versions cI fkeys fdays famounts fversions fcount ++ wR_ r0 r_keys r_days r_values cI rkeys rdays rvalues rcount) sz)) 3 18 (va_A (wD_ d0 s0 z0 b0 q0 t0 dhasSaved dkeptError dmoved ++ wS_ s0 v0 f0 r0 ++ wV_ v0 v_keys v_firsts v_ends v_values v_inferred v_gone cI cZ vkeys vfirsts vends vvalues vinferred vgone vmade ++ wF_ f0 f_keys f_days f_amounts f_versions cI fkeys fdays famounts fversions fcount ++ wR_ r0 r_keys r_days r_values cI rkeys rdays rvalues rcount) sz) := by
  refine mety_ (cc := cX5_close) (maxL := 6) (ret := (some .int)) (Qcf := fun A => Xi_ (dC, dI) (ty_ cI cZ cC cJ cD) R.1 (wD_ d0 s0 z0 b0 q0 t0 R.2.1.1 R.2.1.2.1 R.2.1.2.2 ++ wS_ s0 v0 f0 r0 ++ wV_ v0 v_keys v_firsts v_ends v_values v_inferred v_gone cI cZ R.2.2.1.1 R.2.2.1.2.1 R.2.2.1.2.2.1 R.2.2.1.2.2.2.1 R.2.2.1.2.2.2.2.1 R.2.2.1.2.2.2.2.2.1 R.2.2.1.2.2.2.2.2.2 ++ wF_ f0 f_keys f_days f_amounts f_versions cI R.2.2.2.1 R.2.2.2.2.1 R.2.2.2.2.2.1 R.2.2.2.2.2.2.1 R.2.2.2.2.2.2.2 ++ wR_ r0 r_keys r_days r_values cI rkeys rdays rvalues rcount) A) (XCf := fun A => XX_ (dC, dI) (ty_ cI cZ cC cJ cD) R.1 (wD_ d0 s0 z0 b0 q0 t0 R.2.1.1 R.2.1.2.1 R.2.1.2.2 ++ wS_ s0 v0 f0 r0 ++ wV_ v0 v_keys v_firsts v_ends v_values v_inferred v_gone cI cZ R.2.2.1.1 R.2.2.1.2.1 R.2.2.1.2.2.1 R.2.2.1.2.2.2.1 R.2.2.1.2.2.2.2.1 R.2.2.1.2.2.2.2.2.1 R.2.2.1.2.2.2.2.2.2 ++ wF_ f0 f_keys f_days f_amounts f_versions cI R.2.2.2.1 R.2.2.2.2.1 R.2.2.2.2.2.1 R.2.2.2.2.2.2.1 R.2.2.2.2.2.2.2 ++ wR_ r0 r_keys r_days r_values cI rkeys rdays rvalues rcount) A) (by decide) rfl (Nat.le_of_ble_eq_true rfl) ?_
  intro p e s m args below meth c A ls hx hb hr hts hown hlocks hml htab hA hU hN hC hP hK hD hl
  have hown : s.vm.findClass RX5 = some m.cls := hown
  have hl : lv_has ls 6 [(0, .ref d0), (1, .int a1), (2, .int a2)] := hl
  have hS : va_S A s.heap s.heap [] := va_S.rf
  have fl10_ : (Cond.fieldLink RX5 10 "DimensionLoader" "live" "LDimensionLoader$Store;").before args s = true := hts _ (List.mem_of_getElem? (i := 5) rfl)
  have fl51_ : (Cond.fieldLink RX5 51 "DimensionLoader$Store" "versions" "LDimensionLoader$Versions;").before args s = true := hts _ (List.mem_of_getElem? (i := 6) rfl)
  have fl64_ : (Cond.fieldLink RX5 64 "DimensionLoader$Store" "facts" "LDimensionLoader$Facts;").before args s = true := hts _ (List.mem_of_getElem? (i := 8) rfl)
  have fl88_ : (Cond.fieldLink RX5 88 "DimensionLoader$Versions" "firsts" "[I").before args s = true := hts _ (List.mem_of_getElem? (i := 7) rfl)
  have fl96_ : (Cond.fieldLink RX5 96 "DimensionLoader$Versions" "ends" "[I").before args s = true := hts _ (List.mem_of_getElem? (i := 9) rfl)
  have inX2_ : ∀ w ∈ wsX20, w ∈ wsX5_close := in_X5_close_X2
  have inX4_ : ∀ w ∈ wsX40, w ∈ wsX5_close := in_X5_close_X4
  have inX5_ : ∀ w ∈ wsX50, w ∈ wsX5_close := in_X5_close_X5
  unfold f_X5_close at hf
  dsimp only at hf
  refine lv_iload_n hx hb dX5_close_0 rfl (lv_at hl 1 rfl) ?_
  obtain ⟨R3, g4, hf⟩ := bd_B hf
  obtain ⟨x1, rfl⟩ : ∃ z, z = R3 := ⟨_, rfl⟩
  have hPc := hP.sub (ws' := []) [] rfl
  have hDc := hD.sub (ws' := []) [] (by decide) rfl
  have hFc := va_free (wc := []) hD hS hA [] rfl
  cases x1 with
  | error E9 =>
    have hR := Option.some.inj hf
    subst hR
    refine vx_callv (vx_runS (As := [.int a1]) (rest := []) ⟨hx, hb, hml, hown, hts⟩ (c_X5_checkKey l dC dI cI cZ cC cJ cD hst s.heap.size a1 (Except.error E9) g4) (cwS 1 hts gX5_close_X5_checkKey rfl rfl rfl hs_X5_checkKey ⟨Nat.le_of_ble_eq_true rfl, Nat.le_of_ble_eq_true rfl⟩) (preSy_ hPc hK hDc rfl hS hU hN hFc hC) rfl rfl hl.1 rfl (lv_room (Nat.le_of_ble_eq_true rfl)) dX5_close_1 ⟨Nat.le_of_ble_eq_true rfl, Nat.le_of_ble_eq_true rfl⟩) hS (fun q _ h => hFc q h) hFc (fun q _ h => hFc q h) (fun E ce q9 u t H7 locs ht hvm hp hB hz1 hk1 hS hce hcv hcl => ?_) (fun u t H7 locs ht hvm hw hB hz1 hk1 hS => ?_)
    · obtain ⟨hE, hB⟩ := hB
      cases hE
      obtain ⟨hP, hD⟩ := aft_ (Wr := wD_ d0 s0 z0 b0 q0 t0 dhasSaved dkeptError dmoved ++ wS_ s0 v0 f0 r0 ++ wV_ v0 v_keys v_firsts v_ends v_values v_inferred v_gone cI cZ vkeys vfirsts vends vvalues vinferred vgone vmade ++ wF_ f0 f_keys f_days f_amounts f_versions cI fkeys fdays famounts fversions fcount ++ wR_ r0 r_keys r_days r_values cI rkeys rdays rvalues rcount) (Wc' := []) (W2 := wD_ d0 s0 z0 b0 q0 t0 dhasSaved dkeptError dmoved ++ wS_ s0 v0 f0 r0 ++ wV_ v0 v_keys v_firsts v_ends v_values v_inferred v_gone cI cZ vkeys vfirsts vends vvalues vinferred vgone vmade ++ wF_ f0 f_keys f_days f_amounts f_versions cI fkeys fdays famounts fversions fcount ++ wR_ r0 r_keys r_days r_values cI rkeys rdays rvalues rcount) hP hD [] [0, 1, 2, 3, 4, 5, 6, 7, 8, 9, 10, 11, 12, 13, 14, 15, 16, 17] [0, 1, 2, 3, 4, 5, 6, 7, 8, 9, 10, 11, 12, 13, 14, 15, 16, 17] rfl rfl (by decide) (by decide) (by decide) hk1 hFc hB ht rfl
      exact vx_out (fun x h => (htab x h).elim) hlocks hce hcv hcl (thr2_ hS hP hK hD rfl) hS.2.2 (Nat.le_of_ble_eq_true rfl) (Nat.le_of_ble_eq_true rfl)
    · exact absurd hw (fun h => nomatch h)
  | ok v2 =>
    refine vx_callv (vx_runS (As := [.int a1]) (rest := []) ⟨hx, hb, hml, hown, hts⟩ (c_X5_checkKey l dC dI cI cZ cC cJ cD hst s.heap.size a1 (Except.ok ()) g4) (cwS 1 hts gX5_close_X5_checkKey rfl rfl rfl hs_X5_checkKey ⟨Nat.le_of_ble_eq_true rfl, Nat.le_of_ble_eq_true rfl⟩) (preSy_ hPc hK hDc rfl hS hU hN hFc hC) rfl rfl hl.1 rfl (lv_room (Nat.le_of_ble_eq_true rfl)) dX5_close_1 ⟨Nat.le_of_ble_eq_true rfl, Nat.le_of_ble_eq_true rfl⟩) hS (fun q _ h => hFc q h) hFc (fun q _ h => hFc q h) (fun E ce q9 u t H7 locs ht hvm hp hB hz1 hk1 hS hce hcv hcl => ?_) (fun u t H7 locs ht hvm hw hB hz1 hk1 hS => ?_)
    · exact absurd hB.1 (fun h => nomatch h)
    · obtain ⟨hP, hD⟩ := aft_ (Wr := wD_ d0 s0 z0 b0 q0 t0 dhasSaved dkeptError dmoved ++ wS_ s0 v0 f0 r0 ++ wV_ v0 v_keys v_firsts v_ends v_values v_inferred v_gone cI cZ vkeys vfirsts vends vvalues vinferred vgone vmade ++ wF_ f0 f_keys f_days f_amounts f_versions cI fkeys fdays famounts fversions fcount ++ wR_ r0 r_keys r_days r_values cI rkeys rdays rvalues rcount) (Wc' := []) (W2 := wD_ d0 s0 z0 b0 q0 t0 dhasSaved dkeptError dmoved ++ wS_ s0 v0 f0 r0 ++ wV_ v0 v_keys v_firsts v_ends v_values v_inferred v_gone cI cZ vkeys vfirsts vends vvalues vinferred vgone vmade ++ wF_ f0 f_keys f_days f_amounts f_versions cI fkeys fdays famounts fversions fcount ++ wR_ r0 r_keys r_days r_values cI rkeys rdays rvalues rcount) hP hD [] [0, 1, 2, 3, 4, 5, 6, 7, 8, 9, 10, 11, 12, 13, 14, 15, 16, 17] [0, 1, 2, 3, 4, 5, 6, 7, 8, 9, 10, 11, 12, 13, 14, 15, 16, 17] rfl rfl (by decide) (by decide) (by decide) hk1 hFc hB ht rfl
      refine lv_iload_n hx hb dX5_close_4 rfl (lv_at hl 2 rfl) ?_
      obtain ⟨R12, g13, hf⟩ := bd_B hf
      obtain ⟨x10, rfl⟩ : ∃ z, z = R12 := ⟨_, rfl⟩
      have hPc := hP.sub (ws' := []) [] rfl
      have hDc := hD.sub (ws' := []) [] (by decide) rfl
      have hFc := va_free (wc := []) hD hS hA [] rfl
      cases x10 with
      | error E18 =>
        have hR := Option.some.inj hf
        subst hR
        refine vx_callv (vx_runS (As := [.int a2]) (rest := []) ⟨hx, hb, hml, hown, hts⟩ (c_X5_checkDay l dC dI cI cZ cC cJ cD hst H7.size a2 (Except.error E18) g13) (cwS 1 hts gX5_close_X5_checkDay rfl rfl rfl hs_X5_checkDay ⟨Nat.le_of_ble_eq_true rfl, Nat.le_of_ble_eq_true rfl⟩) (preSy_ hPc hK hDc rfl hS hU hN hFc hC) rfl rfl hl.1 rfl (lv_room (Nat.le_of_ble_eq_true rfl)) dX5_close_5 ⟨Nat.le_of_ble_eq_true rfl, Nat.le_of_ble_eq_true rfl⟩) hS (fun q _ h => hFc q h) hFc (fun q _ h => hFc q h) (fun E ce q9 u t H16 locs ht hvm hp hB hz1 hk1 hS hce hcv hcl => ?_) (fun u t H16 locs ht hvm hw hB hz1 hk1 hS => ?_)
        · obtain ⟨hE, hB⟩ := hB
          cases hE
          obtain ⟨hP, hD⟩ := aft_ (Wr := wD_ d0 s0 z0 b0 q0 t0 dhasSaved dkeptError dmoved ++ wS_ s0 v0 f0 r0 ++ wV_ v0 v_keys v_firsts v_ends v_values v_inferred v_gone cI cZ vkeys vfirsts vends vvalues vinferred vgone vmade ++ wF_ f0 f_keys f_days f_amounts f_versions cI fkeys fdays famounts fversions fcount ++ wR_ r0 r_keys r_days r_values cI rkeys rdays rvalues rcount) (Wc' := []) (W2 := wD_ d0 s0 z0 b0 q0 t0 dhasSaved dkeptError dmoved ++ wS_ s0 v0 f0 r0 ++ wV_ v0 v_keys v_firsts v_ends v_values v_inferred v_gone cI cZ vkeys vfirsts vends vvalues vinferred vgone vmade ++ wF_ f0 f_keys f_days f_amounts f_versions cI fkeys fdays famounts fversions fcount ++ wR_ r0 r_keys r_days r_values cI rkeys rdays rvalues rcount) hP hD [] [0, 1, 2, 3, 4, 5, 6, 7, 8, 9, 10, 11, 12, 13, 14, 15, 16, 17] [0, 1, 2, 3, 4, 5, 6, 7, 8, 9, 10, 11, 12, 13, 14, 15, 16, 17] rfl rfl (by decide) (by decide) (by decide) hk1 hFc hB ht rfl
          exact vx_out (fun x h => (htab x h).elim) hlocks hce hcv hcl (thr2_ hS hP hK hD rfl) hS.2.2 (Nat.le_of_ble_eq_true rfl) (Nat.le_of_ble_eq_true rfl)
        · exact absurd hw (fun h => nomatch h)
      | ok v11 =>
        refine vx_callv (vx_runS (As := [.int a2]) (rest := []) ⟨hx, hb, hml, hown, hts⟩ (c_X5_checkDay l dC dI cI cZ cC cJ cD hst H7.size a2 (Except.ok ()) g13) (cwS 1 hts gX5_close_X5_checkDay rfl rfl rfl hs_X5_checkDay ⟨Nat.le_of_ble_eq_true rfl, Nat.le_of_ble_eq_true rfl⟩) (preSy_ hPc hK hDc rfl hS hU hN hFc hC) rfl rfl hl.1 rfl (lv_room (Nat.le_of_ble_eq_true rfl)) dX5_close_5 ⟨Nat.le_of_ble_eq_true rfl, Nat.le_of_ble_eq_true rfl⟩) hS (fun q _ h => hFc q h) hFc (fun q _ h => hFc q h) (fun E ce q9 u t H16 locs ht hvm hp hB hz1 hk1 hS hce hcv hcl => ?_) (fun u t H16 locs ht hvm hw hB hz1 hk1 hS => ?_)
        · exact absurd hB.1 (fun h => nomatch h)
        · obtain ⟨hP, hD⟩ := aft_ (Wr := wD_ d0 s0 z0 b0 q0 t0 dhasSaved dkeptError dmoved ++ wS_ s0 v0 f0 r0 ++ wV_ v0 v_keys v_firsts v_ends v_values v_inferred v_gone cI cZ vkeys vfirsts vends vvalues vinferred vgone vmade ++ wF_ f0 f_keys f_days f_amounts f_versions cI fkeys fdays famounts fversions fcount ++ wR_ r0 r_keys r_days r_values cI rkeys rdays rvalues rcount) (Wc' := []) (W2 := wD_ d0 s0 z0 b0 q0 t0 dhasSaved dkeptError dmoved ++ wS_ s0 v0 f0 r0 ++ wV_ v0 v_keys v_firsts v_ends v_values v_inferred v_gone cI cZ vkeys vfirsts vends vvalues vinferred vgone vmade ++ wF_ f0 f_keys f_days f_amounts f_versions cI fkeys fdays famounts fversions fcount ++ wR_ r0 r_keys r_days r_values cI rkeys rdays rvalues rcount) hP hD [] [0, 1, 2, 3, 4, 5, 6, 7, 8, 9, 10, 11, 12, 13, 14, 15, 16, 17] [0, 1, 2, 3, 4, 5, 6, 7, 8, 9, 10, 11, 12, 13, 14, 15, 16, 17] rfl rfl (by decide) (by decide) (by decide) hk1 hFc hB ht rfl
          refine lv_aload_n hx hb dX5_close_8 rfl (lv_at hl 0 rfl) ?_
          refine va_get (D := (dC, dI)) (ci := 7) (v := .ref s0) (C := RX5) (T := TX5) (N := 8) hx hb hts inX5_ hown hK hP 0 rfl rfl 0 (by decide) fl10_ (fun _ h9 => h9) rfl dX5_close_9 ?_
          refine va_get (D := (dC, dI)) (ci := 4) (v := .ref v0) (C := RX2) (T := TX2) (N := 3) hx hb hts inX2_ hown hK hP 1 rfl rfl 0 (by decide) fl51_ (fun _ h9 => h9) rfl dX5_close_12 ?_
          refine lv_astore_n (lv' := [(3, .ref v0), (0, .ref d0), (1, .int a1), (2, .int a2)]) hx hb dX5_close_15 rfl hl (by decide) rfl (fun ls hl => ?_)
          refine lv_aload_n hx hb dX5_close_16 rfl (lv_at hl 0 rfl) ?_
          refine lv_iload_n hx hb dX5_close_17 rfl (lv_at hl 2 rfl) ?_
          refine lv_iload_n hx hb dX5_close_18 rfl (lv_at hl 3 rfl) ?_
          obtain ⟨R20, g21, hf⟩ := bd_B hf
          obtain ⟨r19, rfl⟩ : ∃ z, z = R20 := ⟨_, rfl⟩
          have hPc := hP.sub (ws' := wV_ v0 v_keys v_firsts v_ends v_values v_inferred v_gone cI cZ vkeys vfirsts vends vvalues vinferred vgone vmade) [2, 3, 4, 5, 6, 7, 8] rfl
          have hDc := hD.sub (ws' := wV_ v0 v_keys v_firsts v_ends v_values v_inferred v_gone cI cZ vkeys vfirsts vends vvalues vinferred vgone vmade) [2, 3, 4, 5, 6, 7, 8] (by decide) rfl
          have hFc := va_free (wc := wV_ v0 v_keys v_firsts v_ends v_values v_inferred v_gone cI cZ vkeys vfirsts vends vvalues vinferred vgone vmade) hD hS hA [2, 3, 4, 5, 6, 7, 8] rfl
          refine va_calli (va_runV (As := [.int a1, .int a2]) (rest := []) ⟨hx, hb, hml, hown, hts⟩ (c_X4_onDay l dC dI cI cZ cC cJ cD v0 v_keys v_firsts v_ends v_values v_inferred v_gone H16.size vkeys vfirsts vends vvalues vinferred vgone vmade a1 a2 r19 g21) (cwV 2 hts gX5_close_X4_onDay rfl rfl rfl hs_X4_onDay ⟨Nat.le_of_ble_eq_true rfl, Nat.le_of_ble_eq_true rfl⟩) (preV_ (ci := 6) (q0 := 0) hPc hK hDc rfl rfl rfl rfl) rfl rfl hl.1 rfl (lv_room (Nat.le_of_ble_eq_true rfl)) dX5_close_19 ⟨Nat.le_of_ble_eq_true rfl, Nat.le_of_ble_eq_true rfl⟩) hS (fun q _ h => hFc q h) hFc (fun z23 u t H22 locs ht hvm hw hB hz1 hk1 hS => ?_)
          have hw : r19 = z23 := hw.symm
          subst hw
          obtain ⟨hP, hD⟩ := aft_ (Wr := wD_ d0 s0 z0 b0 q0 t0 dhasSaved dkeptError dmoved ++ wS_ s0 v0 f0 r0 ++ wF_ f0 f_keys f_days f_amounts f_versions cI fkeys fdays famounts fversions fcount ++ wR_ r0 r_keys r_days r_values cI rkeys rdays rvalues rcount) (Wc' := wV_ v0 v_keys v_firsts v_ends v_values v_inferred v_gone cI cZ vkeys vfirsts vends vvalues vinferred vgone vmade) (W2 := wD_ d0 s0 z0 b0 q0 t0 dhasSaved dkeptError dmoved ++ wS_ s0 v0 f0 r0 ++ wV_ v0 v_keys v_firsts v_ends v_values v_inferred v_gone cI cZ vkeys vfirsts vends vvalues vinferred vgone vmade ++ wF_ f0 f_keys f_days f_amounts f_versions cI fkeys fdays famounts fversions fcount ++ wR_ r0 r_keys r_days r_values cI rkeys rdays rvalues rcount) hP hD [2, 3, 4, 5, 6, 7, 8] [0, 1, 9, 10, 11, 12, 13, 14, 15, 16, 17] [0, 1, 11, 12, 13, 14, 15, 16, 17, 2, 3, 4, 5, 6, 7, 8, 9, 10] rfl rfl (by decide) (by decide) (by decide) hk1 hFc hB ht rfl
          refine lv_istore (lv' := [(4, .int r19), (3, .ref v0), (0, .ref d0), (1, .int a1), (2, .int a2)]) hx hb dX5_close_22 hl (by decide) rfl (fun ls hl => ?_)
          refine lv_iload hx hb dX5_close_24 (lv_at hl 0 rfl) ?_
          refine lv_iconst (v := (-1)) hx hb dX5_close_26 (by decide) ?_
          refine lv_icmp_ne (tgt := 38) hx hb dX5_close_27 (by decide) (fun c24 => ?_) (fun c24 => ?_)
          · have hf := ite_F c24 hf
            refine lv_aload_n hx hb dX5_close_38 rfl (lv_at hl 1 rfl) ?_
            refine va_get (D := (dC, dI)) (ci := 6) (v := .ref v_firsts) (C := RX4) (T := TX4) (N := 7) hx hb hts inX4_ hown hK hP 2 rfl rfl 1 (by decide) fl88_ (fun _ h9 => h9) rfl dX5_close_39 ?_
            refine lv_iload hx hb dX5_close_42 (lv_at hl 0 rfl) ?_
            obtain ⟨h25, hf⟩ := gd_T hf
            refine va_iald hx hb hK hP 4 0 rfl rfl h25 dX5_close_44 ?_
            refine lv_iload_n hx hb dX5_close_45 rfl (lv_at hl 4 rfl) ?_
            refine lv_icmp_eq (tgt := 65) hx hb dX5_close_46 (by decide) (fun c26 => ?_) (fun c26 => ?_)
            · have hf := ite_T c26 hf
              have hR := Option.some.inj hf
              subst hR
              exact vx_throw0 (names := ["java/lang/RuntimeException", "java/lang/Exception"]) hx hb hst hown (by decide +kernel) (by decide +kernel) (hts _ (List.mem_of_getElem? (i := 3) rfl)) (hts _ (List.mem_of_getElem? (i := 4) rfl)) (vx_hat (fun w h => hts w (at_X5_close_60 w h)) (atn_0 "java/lang/IllegalStateException" (by decide +kernel) 60 (by decide)) (hC.words (by decide +kernel))) at_X5_close_60g hU hN hS (hl.1.trans hml.symm) dX5_close_65 dX5_close_68 dX5_close_69 dX5_close_72 (fun x h => (htab x h).elim) (Nat.le_of_ble_eq_true rfl) (Nat.le_of_ble_eq_true rfl) (Nat.le_of_ble_eq_true rfl) (Nat.le_of_ble_eq_true rfl) hlocks (thr_ hS hP hK hD rfl) hS.2.2 (Nat.le_of_ble_eq_true rfl) (Nat.le_of_ble_eq_true rfl)
            · have hf := ite_F c26 hf
              refine lv_aload_n hx hb dX5_close_49 rfl (lv_at hl 2 rfl) ?_
              refine va_get (D := (dC, dI)) (ci := 7) (v := .ref s0) (C := RX5) (T := TX5) (N := 8) hx hb hts inX5_ hown hK hP 0 rfl rfl 0 (by decide) fl10_ (fun _ h9 => h9) rfl dX5_close_50 ?_
              refine va_get (D := (dC, dI)) (ci := 4) (v := .ref f0) (C := RX2) (T := TX2) (N := 3) hx hb hts inX2_ hown hK hP 1 rfl rfl 1 (by decide) fl64_ (fun _ h9 => h9) rfl dX5_close_53 ?_
              refine lv_iload_n hx hb dX5_close_56 rfl (lv_at hl 4 rfl) ?_
              refine lv_iload hx hb dX5_close_57 (lv_at hl 0 rfl) ?_
              obtain ⟨R28, g29, hf⟩ := bd_B hf
              obtain ⟨r27, rfl⟩ : ∃ z, z = R28 := ⟨_, rfl⟩
              have hPc := hP.sub (ws' := wF_ f0 f_keys f_days f_amounts f_versions cI fkeys fdays famounts fversions fcount) [9, 10, 11, 12, 13] rfl
              have hDc := hD.sub (ws' := wF_ f0 f_keys f_days f_amounts f_versions cI fkeys fdays famounts fversions fcount) [9, 10, 11, 12, 13] (by decide) rfl
              have hFc := va_free (wc := wF_ f0 f_keys f_days f_amounts f_versions cI fkeys fdays famounts fversions fcount) hD hS hA [9, 10, 11, 12, 13] rfl
              refine va_calli (va_runV (As := [.int a2, .int r19]) (rest := []) ⟨hx, hb, hml, hown, hts⟩ (c_X0_pointFrom l dC dI cI cZ cC cJ cD f0 f_keys f_days f_amounts f_versions H22.size fkeys fdays famounts fversions fcount a2 r19 r27 g29) (cwV 2 hts gX5_close_X0_pointFrom rfl rfl rfl hs_X0_pointFrom ⟨Nat.le_of_ble_eq_true rfl, Nat.le_of_ble_eq_true rfl⟩) (preV_ (ci := 2) (q0 := 0) hPc hK hDc rfl rfl rfl rfl) rfl rfl hl.1 rfl (lv_room (Nat.le_of_ble_eq_true rfl)) dX5_close_59 ⟨Nat.le_of_ble_eq_true rfl, Nat.le_of_ble_eq_true rfl⟩) hS (fun q _ h => hFc q h) hFc (fun z31 u t H30 locs ht hvm hw hB hz1 hk1 hS => ?_)
              have hw : r27 = z31 := hw.symm
              subst hw
              obtain ⟨hP, hD⟩ := aft_ (Wr := wD_ d0 s0 z0 b0 q0 t0 dhasSaved dkeptError dmoved ++ wS_ s0 v0 f0 r0 ++ wV_ v0 v_keys v_firsts v_ends v_values v_inferred v_gone cI cZ vkeys vfirsts vends vvalues vinferred vgone vmade ++ wR_ r0 r_keys r_days r_values cI rkeys rdays rvalues rcount) (Wc' := wF_ f0 f_keys f_days f_amounts f_versions cI fkeys fdays famounts fversions fcount) (W2 := wD_ d0 s0 z0 b0 q0 t0 dhasSaved dkeptError dmoved ++ wS_ s0 v0 f0 r0 ++ wV_ v0 v_keys v_firsts v_ends v_values v_inferred v_gone cI cZ vkeys vfirsts vends vvalues vinferred vgone vmade ++ wF_ f0 f_keys f_days f_amounts f_versions cI fkeys fdays famounts fversions fcount ++ wR_ r0 r_keys r_days r_values cI rkeys rdays rvalues rcount) hP hD [9, 10, 11, 12, 13] [0, 1, 2, 3, 4, 5, 6, 7, 8, 14, 15, 16, 17] [0, 1, 2, 3, 4, 5, 6, 7, 8, 13, 14, 15, 16, 17, 9, 10, 11, 12] rfl rfl (by decide) (by decide) (by decide) hk1 hFc hB ht rfl
              refine lv_if_eq (tgt := 73) hx hb dX5_close_62 (by decide) (fun c32 => ?_) (fun c32 => ?_)
              · have hf := ite_T c32 hf
                refine lv_aload_n hx hb dX5_close_73 rfl (lv_at hl 1 rfl) ?_
                refine va_get (D := (dC, dI)) (ci := 6) (v := .ref v_ends) (C := RX4) (T := TX4) (N := 7) hx hb hts inX4_ hown hK hP 2 rfl rfl 2 (by decide) fl96_ (fun _ h9 => h9) rfl dX5_close_74 ?_
                refine lv_iload hx hb dX5_close_77 (lv_at hl 0 rfl) ?_
                obtain ⟨h33, hf⟩ := gd_T hf
                refine va_iald hx hb hK hP 5 0 rfl rfl h33 dX5_close_79 ?_
                refine lv_istore (lv' := [(5, .int (vends r19.toNatClampNeg)), (4, .int r19), (3, .ref v0), (0, .ref d0), (1, .int a1), (2, .int a2)]) hx hb dX5_close_80 hl (by decide) rfl (fun ls hl => ?_)
                refine lv_aload_n hx hb dX5_close_82 rfl (lv_at hl 2 rfl) ?_
                refine va_get (D := (dC, dI)) (ci := 6) (v := .ref v_ends) (C := RX4) (T := TX4) (N := 7) hx hb hts inX4_ hown hK hP 2 rfl rfl 2 (by decide) fl96_ (fun _ h9 => h9) rfl dX5_close_83 ?_
                refine lv_iload hx hb dX5_close_86 (lv_at hl 1 rfl) ?_
                refine lv_iload_n hx hb dX5_close_88 rfl (lv_at hl 5 rfl) ?_
                obtain ⟨h34, hf⟩ := gd_T hf
                refine va_iast hx hb hK hP hD hS 5 0 rfl rfl h34 dX5_close_89 (fun H35 locs hP hD hS => ?_)
                have hP : va_P (dC, dI) vwCl (wD_ d0 s0 z0 b0 q0 t0 dhasSaved dkeptError dmoved ++ wS_ s0 v0 f0 r0 ++ wV_ v0 v_keys v_firsts v_ends v_values v_inferred v_gone cI cZ vkeys vfirsts (upd vends r19.toNatClampNeg a2) vvalues vinferred vgone vmade ++ wF_ f0 f_keys f_days f_amounts f_versions cI fkeys fdays famounts fversions fcount ++ wR_ r0 r_keys r_days r_values cI rkeys rdays rvalues rcount) H35 := hP
                have hD : va_D A (wD_ d0 s0 z0 b0 q0 t0 dhasSaved dkeptError dmoved ++ wS_ s0 v0 f0 r0 ++ wV_ v0 v_keys v_firsts v_ends v_values v_inferred v_gone cI cZ vkeys vfirsts (upd vends r19.toNatClampNeg a2) vvalues vinferred vgone vmade ++ wF_ f0 f_keys f_days f_amounts f_versions cI fkeys fdays famounts fversions fcount ++ wR_ r0 r_keys r_days r_values cI rkeys rdays rvalues rcount) := hD
                obtain ⟨u36, e37, hf⟩ := nm_T hf
                rw [← e37] at hP hD
                refine lv_aload_n hx hb dX5_close_90 rfl (lv_at hl 3 rfl) ?_
                obtain ⟨R46, g47, hf⟩ := bd_B hf
                obtain ⟨⟨dh38, dk39, dm40⟩, ⟨fk41, fd42, fa43, fv44, fc45⟩⟩ := R46
                dsimp only at hf
                have hPc := hP
                have hDc := hD
                have hFc := va_free (wc := wD_ d0 s0 z0 b0 q0 t0 dhasSaved dkeptError dmoved ++ wS_ s0 v0 f0 r0 ++ wV_ v0 v_keys v_firsts v_ends v_values v_inferred v_gone cI cZ vkeys vfirsts u36 vvalues vinferred vgone vmade ++ wF_ f0 f_keys f_days f_amounts f_versions cI fkeys fdays famounts fversions fcount ++ wR_ r0 r_keys r_days r_values cI rkeys rdays rvalues rcount) hD hS hA [0, 1, 2, 3, 4, 5, 6, 7, 8, 9, 10, 11, 12, 13, 14, 15, 16, 17] rfl
                refine va_callv (va_runV (As := []) (rest := []) ⟨hx, hb, hml, hown, hts⟩ (c_X5_pointFacts l dC dI cI cZ cC cJ cD d0 s0 z0 b0 q0 t0 v0 f0 r0 v_keys v_firsts v_ends v_values v_inferred v_gone f_keys f_days f_amounts f_versions r_keys r_days r_values H35.size dhasSaved dkeptError dmoved vkeys vfirsts u36 vvalues vinferred vgone vmade fkeys fdays famounts fversions fcount rkeys rdays rvalues rcount ((dh38, dk39, dm40), (fk41, fd42, fa43, fv44, fc45)) g47) (cwV 0 hts gX5_close_X5_pointFacts rfl rfl rfl hs_X5_pointFacts ⟨Nat.le_of_ble_eq_true rfl, Nat.le_of_ble_eq_true rfl⟩) (preV_ (ci := 7) (q0 := 0) hPc hK hDc rfl rfl rfl rfl) rfl rfl hl.1 rfl (lv_room (Nat.le_of_ble_eq_true rfl)) dX5_close_91 ⟨Nat.le_of_ble_eq_true rfl, Nat.le_of_ble_eq_true rfl⟩) hS (fun q _ h => hFc q h) hFc (fun u t H48 locs ht hvm hw hB hz1 hk1 hS => ?_)
                obtain ⟨hP, hD⟩ := aft_ (Wr := []) (Wc' := wD_ d0 s0 z0 b0 q0 t0 dh38 dk39 dm40 ++ wS_ s0 v0 f0 r0 ++ wV_ v0 v_keys v_firsts v_ends v_values v_inferred v_gone cI cZ vkeys vfirsts u36 vvalues vinferred vgone vmade ++ wF_ f0 f_keys f_days f_amounts f_versions cI fk41 fd42 fa43 fv44 fc45 ++ wR_ r0 r_keys r_days r_values cI rkeys rdays rvalues rcount) (W2 := wD_ d0 s0 z0 b0 q0 t0 dh38 dk39 dm40 ++ wS_ s0 v0 f0 r0 ++ wV_ v0 v_keys v_firsts v_ends v_values v_inferred v_gone cI cZ vkeys vfirsts u36 vvalues vinferred vgone vmade ++ wF_ f0 f_keys f_days f_amounts f_versions cI fk41 fd42 fa43 fv44 fc45 ++ wR_ r0 r_keys r_days r_values cI rkeys rdays rvalues rcount) hP hD [0, 1, 2, 3, 4, 5, 6, 7, 8, 9, 10, 11, 12, 13, 14, 15, 16, 17] [] [0, 1, 2, 3, 4, 5, 6, 7, 8, 9, 10, 11, 12, 13, 14, 15, 16, 17] rfl rfl (by decide) (by decide) (by decide) hk1 hFc hB ht rfl
                refine lv_iload hx hb dX5_close_94 (lv_at hl 0 rfl) ?_
                have hR := Option.some.inj hf
                subst hR
                refine vx_ret (W.widen (k := 3) (n := 18) (Nat.le_of_ble_eq_true rfl) (Nat.le_of_ble_eq_true rfl) ?_)
                exact W.iret (v := vends r19.toNatClampNeg) hx hb hr (fun t ht hW => ⟨⟨vends r19.toNatClampNeg, (), rfl, rfl, by rw [ht]; exact hP, va_K.moved hW.alike hK, hD⟩, hS.F ht⟩) hS.2.2 dX5_close_96
              · have hf := ite_F c32 hf
                have hR := Option.some.inj hf
                subst hR
                exact vx_throw0 (names := ["java/lang/RuntimeException", "java/lang/Exception"]) hx hb hst hown (by decide +kernel) (by decide +kernel) (hts _ (List.mem_of_getElem? (i := 3) rfl)) (hts _ (List.mem_of_getElem? (i := 4) rfl)) (vx_hat (fun w h => hts w (at_X5_close_60 w h)) (atn_0 "java/lang/IllegalStateException" (by decide +kernel) 60 (by decide)) (hC.words (by decide +kernel))) at_X5_close_60g hU hN hS (hl.1.trans hml.symm) dX5_close_65 dX5_close_68 dX5_close_69 dX5_close_72 (fun x h => (htab x h).elim) (Nat.le_of_ble_eq_true rfl) (Nat.le_of_ble_eq_true rfl) (Nat.le_of_ble_eq_true rfl) (Nat.le_of_ble_eq_true rfl) hlocks (thr_ hS hP hK hD rfl) hS.2.2 (Nat.le_of_ble_eq_true rfl) (Nat.le_of_ble_eq_true rfl)
          · have hf := ite_T c24 hf
            have hR := Option.some.inj hf
            subst hR
            exact vx_throw0 (names := ["java/lang/RuntimeException", "java/lang/Exception"]) hx hb hst hown (by decide +kernel) (by decide +kernel) (hts _ (List.mem_of_getElem? (i := 1) rfl)) (hts _ (List.mem_of_getElem? (i := 2) rfl)) (vx_hat (fun w h => hts w (at_X5_close_87 w h)) (atn_0 "java/util/NoSuchElementException" (by decide +kernel) 87 (by decide)) (hC.words (by decide +kernel))) at_X5_close_87g hU hN hS (hl.1.trans hml.symm) dX5_close_30 dX5_close_33 dX5_close_34 dX5_close_37 (fun x h => (htab x h).elim) (Nat.le_of_ble_eq_true rfl) (Nat.le_of_ble_eq_true rfl) (Nat.le_of_ble_eq_true rfl) (Nat.le_of_ble_eq_true rfl) hlocks (thr_ hS hP hK hD rfl) hS.2.2 (Nat.le_of_ble_eq_true rfl) (Nat.le_of_ble_eq_true rfl)
theorem hs_X5_close : yX5_close.cls = RX5 ∧ yX5_close.cls ≠ "java/lang/invoke/MethodHandle" ∧ yX5_close.cls ≠ "java/lang/invoke/VarHandle" ∧ (parseMethodDescriptor yX5_close.desc).map (fun d => d.parameters.length) = some 2 := by decide +kernel
set_option maxRecDepth 20000 in
theorem in_X5_checkVersion_X2 : ∀ w ∈ wsX20, w ∈ wsX5_checkVersion := by decide +kernel
set_option maxRecDepth 20000 in
theorem in_X5_checkVersion_X5 : ∀ w ∈ wsX50, w ∈ wsX5_checkVersion := by decide +kernel
set_option maxRecDepth 20000 in
theorem at_X5_checkVersion_171 : ∀ w ∈ (vx_at0 RX5 171 "java/lang/IndexOutOfBoundsException" ["java/lang/RuntimeException", "java/lang/Exception"]).filter goodWord, w ∈ wsX5_checkVersion := by decide +kernel
set_option maxRecDepth 20000 in
theorem at_X5_checkVersion_171g : ∀ w ∈ Cond.classLink RX5 169 "java/lang/IndexOutOfBoundsException" :: Cond.initialized "java/lang/IndexOutOfBoundsException" :: vx_at0 RX5 171 "java/lang/IndexOutOfBoundsException" ["java/lang/RuntimeException", "java/lang/Exception"], vx_ot w = true := by decide +kernel
def f_X5_checkVersion (a1 : Int32) (D_ : tD_) (S_ : tS_) (V_ : tV_) (F_ : tF_) (R_ : tR_) : Option (Except String Unit) :=
match D_ with
| (dhasSaved, dkeptError, dmoved) =>
match V_ with
| (vkeys, vfirsts, vends, vvalues, vinferred, vgone, vmade) =>
match F_ with
| (fkeys, fdays, famounts, fversions, fcount) =>
match R_ with
| (rkeys, rdays, rvalues, rcount) =>
bd_ (f_X4_has a1 (vkeys, vfirsts, vends, vvalues, vinferred, vgone, vmade)) (fun r1 =>
if r1 = 0 then
some (Except.error "java/lang/IndexOutOfBoundsException")
else
some (Except.ok ()))
abbrev rm_X5_checkVersion : Room := { frames := 6, cells := 1, slots := 6, locals := 89 }
set_option maxHeartbeats 4000000 in
set_option maxRecDepth 100000 in
theorem c_X5_checkVersion (l : Launch) (dC : Nat → ClassId) (dI : Nat → Nat → Nat) (cI cZ cC cJ cD : ClassId) (hst : l.stackTraces = false) (d0 s0 z0 b0 q0 t0 v0 f0 r0 v_keys v_firsts v_ends v_values v_inferred v_gone f_keys f_days f_amounts f_versions r_keys r_days r_values : Nat) (sz : Nat) (dhasSaved : Int32) (dkeptError : Int32) (dmoved : Int32) (vkeys : Nat → Int32) (vfirsts : Nat → Int32) (vends : Nat → Int32) (vvalues : Nat → Int32) (vinferred : Nat → Int32) (vgone : Nat → Int32) (vmade : Int32) (fkeys : Nat → Int32) (fdays : Nat → Int32) (famounts : Nat → Int32) (fversions : Nat → Int32) (fcount : Int32) (rkeys : Nat → Int32) (rdays : Nat → Int32) (rvalues : Nat → Int32) (rcount : Int32) (a1 : Int32) (R : Except String Unit) (hf : f_X5_checkVersion a1 (dhasSaved, dkeptError, dmoved) () (vkeys, vfirsts, vends, vvalues, vinferred, vgone, vmade) (fkeys, fdays, famounts, fversions, fcount) (rkeys, rdays, rvalues, rcount) = some R) : vx_Met l yX5_checkVersion wsX5_checkVersion rm_X5_checkVersion (Py_ (dC, dI) (ty_ cI cZ cC cJ cD) (wD_ d0 s0 z0 b0 q0 t0 dhasSaved dkeptError dmoved ++ wS_ s0 v0 f0 r0 ++ wV_ v0 v_keys v_firsts v_ends v_values v_inferred v_gone cI cZ vkeys vfirsts vends vvalues vinferred vgone vmade ++ wF_ f0 f_keys f_days f_amounts f_versions cI fkeys fdays famounts fversions fcount ++ wR_ r0 r_keys r_days r_values cI rkeys rdays rvalues rcount) sz [.ref d0, .int a1]) (Xv_ (dC, dI) (ty_ cI cZ cC cJ cD) R (wD_ d0 s0 z0 b0 q0 t0 dhasSaved dkeptError dmoved ++ wS_ s0 v0 f0 r0 ++ wV_ v0 v_keys v_firsts v_ends v_values v_inferred v_gone cI cZ vkeys vfirsts vends vvalues vinferred vgone vmade ++ wF_ f0 f_keys f_days f_amounts f_versions cI fkeys fdays famounts fversions fcount ++ wR_ r0 r_keys r_days r_values cI rkeys rdays rvalues rcount) (va_A (wD_ d0 s0 z0 b0 q0 t0 dhasSaved dkeptError dmoved ++ wS_ s0 v0 f0 r0 ++ wV_ v0 v_keys v_firsts v_ends v_values v_inferred v_gone cI cZ vkeys vfirsts vends vvalues vinferred vgone vmade ++ wF_ f0 f_keys f_days f_amounts f_versions cI fkeys fdays famounts fversions fcount ++ wR_ r0 r_keys r_days r_values cI rkeys rdays rvalues rcount) sz)) (XX_ (dC, dI) (ty_ cI cZ cC cJ cD) R (wD_ d0 s0 z0 b0 q0 t0 dhasSaved dkeptError dmoved ++ wS_ s0 v0 f0 r0 ++ wV_ v0 v_keys v_firsts v_ends v_values v_inferred v_gone cI cZ vkeys vfirsts vends vvalues vinferred vgone vmade ++ wF_ f0 f_keys f_days f_amounts f_versions cI fkeys fdays famounts fversions fcount ++ wR_ r0 r_keys r_days r_values cI rkeys rdays rvalues rcount) (va_A (wD_ d0 s0 z0 b0 q0 t0 dhasSaved dkeptError dmoved ++ wS_ s0 v0 f0 r0 ++ wV_ v0 v_keys v_firsts v_ends v_values v_inferred v_gone cI cZ vkeys vfirsts vends vvalues vinferred vgone vmade ++ wF_ f0 f_keys f_days f_amounts f_versions cI fkeys fdays famounts fversions fcount ++ wR_ r0 r_keys r_days r_values cI rkeys rdays rvalues rcount) sz)) 1 6 (va_A (wD_ d0 s0 z0 b0 q0 t0 dhasSaved dkeptError dmoved ++ wS_ s0 v0 f0 r0 ++ wV_ v0 v_keys v_firsts v_ends v_values v_inferred v_gone cI cZ vkeys vfirsts vends vvalues vinferred vgone vmade ++ wF_ f0 f_keys f_days f_amounts f_versions cI fkeys fdays famounts fversions fcount ++ wR_ r0 r_keys r_days r_values cI rkeys rdays rvalues rcount) sz) := by
  refine mety_ (cc := cX5_checkVersion) (maxL := 2) (ret := none) (Qcf := fun A => Xv_ (dC, dI) (ty_ cI cZ cC cJ cD) R (wD_ d0 s0 z0 b0 q0 t0 dhasSaved dkeptError dmoved ++ wS_ s0 v0 f0 r0 ++ wV_ v0 v_keys v_firsts v_ends v_values v_inferred v_gone cI cZ vkeys vfirsts vends vvalues vinferred vgone vmade ++ wF_ f0 f_keys f_days f_amounts f_versions cI fkeys fdays famounts fversions fcount ++ wR_ r0 r_keys r_days r_values cI rkeys rdays rvalues rcount) A) (XCf := fun A => XX_ (dC, dI) (ty_ cI cZ cC cJ cD) R (wD_ d0 s0 z0 b0 q0 t0 dhasSaved dkeptError dmoved ++ wS_ s0 v0 f0 r0 ++ wV_ v0 v_keys v_firsts v_ends v_values v_inferred v_gone cI cZ vkeys vfirsts vends vvalues vinferred vgone vmade ++ wF_ f0 f_keys f_days f_amounts f_versions cI fkeys fdays famounts fversions fcount ++ wR_ r0 r_keys r_days r_values cI rkeys rdays rvalues rcount) A) (by decide) rfl (Nat.le_of_ble_eq_true rfl) ?_
  intro p e s m args below meth c A ls hx hb hr hts hown hlocks hml htab hA hU hN hC hP hK hD hl
  have hown : s.vm.findClass RX5 = some m.cls := hown
  have hl : lv_has ls 2 [(0, .ref d0), (1, .int a1)] := hl
  have hS : va_S A s.heap s.heap [] := va_S.rf
  have fl10_ : (Cond.fieldLink RX5 10 "DimensionLoader" "live" "LDimensionLoader$Store;").before args s = true := hts _ (List.mem_of_getElem? (i := 3) rfl)
  have fl51_ : (Cond.fieldLink RX5 51 "DimensionLoader$Store" "versions" "LDimensionLoader$Versions;").before args s = true := hts _ (List.mem_of_getElem? (i := 4) rfl)
  have inX2_ : ∀ w ∈ wsX20, w ∈ wsX5_checkVersion := in_X5_checkVersion_X2
  have inX5_ : ∀ w ∈ wsX50, w ∈ wsX5_checkVersion := in_X5_checkVersion_X5
  unfold f_X5_checkVersion at hf
  dsimp only at hf
  refine lv_aload_n hx hb dX5_checkVersion_0 rfl (lv_at hl 0 rfl) ?_
  refine va_get (D := (dC, dI)) (ci := 7) (v := .ref s0) (C := RX5) (T := TX5) (N := 8) hx hb hts inX5_ hown hK hP 0 rfl rfl 0 (by decide) fl10_ (fun _ h9 => h9) rfl dX5_checkVersion_1 ?_
  refine va_get (D := (dC, dI)) (ci := 4) (v := .ref v0) (C := RX2) (T := TX2) (N := 3) hx hb hts inX2_ hown hK hP 1 rfl rfl 0 (by decide) fl51_ (fun _ h9 => h9) rfl dX5_checkVersion_4 ?_
  refine lv_iload_n hx hb dX5_checkVersion_7 rfl (lv_at hl 1 rfl) ?_
  obtain ⟨R2, g3, hf⟩ := bd_B hf
  obtain ⟨r1, rfl⟩ : ∃ z, z = R2 := ⟨_, rfl⟩
  have hPc := hP.sub (ws' := wV_ v0 v_keys v_firsts v_ends v_values v_inferred v_gone cI cZ vkeys vfirsts vends vvalues vinferred vgone vmade) [2, 3, 4, 5, 6, 7, 8] rfl
  have hDc := hD.sub (ws' := wV_ v0 v_keys v_firsts v_ends v_values v_inferred v_gone cI cZ vkeys vfirsts vends vvalues vinferred vgone vmade) [2, 3, 4, 5, 6, 7, 8] (by decide) rfl
  have hFc := va_free (wc := wV_ v0 v_keys v_firsts v_ends v_values v_inferred v_gone cI cZ vkeys vfirsts vends vvalues vinferred vgone vmade) hD hS hA [2, 3, 4, 5, 6, 7, 8] rfl
  refine va_calli (va_runV (As := [.int a1]) (rest := []) ⟨hx, hb, hml, hown, hts⟩ (c_X4_has l dC dI cI cZ cC cJ cD v0 v_keys v_firsts v_ends v_values v_inferred v_gone s.heap.size vkeys vfirsts vends vvalues vinferred vgone vmade a1 r1 g3) (cwV 1 hts gX5_checkVersion_X4_has rfl rfl rfl hs_X4_has ⟨Nat.le_of_ble_eq_true rfl, Nat.le_of_ble_eq_true rfl⟩) (preV_ (ci := 6) (q0 := 0) hPc hK hDc rfl rfl rfl rfl) rfl rfl hl.1 rfl (lv_room (Nat.le_of_ble_eq_true rfl)) dX5_checkVersion_8 ⟨Nat.le_of_ble_eq_true rfl, Nat.le_of_ble_eq_true rfl⟩) hS (fun q _ h => hFc q h) hFc (fun z5 u t H4 locs ht hvm hw hB hz1 hk1 hS => ?_)
  have hw : r1 = z5 := hw.symm
  subst hw
  obtain ⟨hP, hD⟩ := aft_ (Wr := wD_ d0 s0 z0 b0 q0 t0 dhasSaved dkeptError dmoved ++ wS_ s0 v0 f0 r0 ++ wF_ f0 f_keys f_days f_amounts f_versions cI fkeys fdays famounts fversions fcount ++ wR_ r0 r_keys r_days r_values cI rkeys rdays rvalues rcount) (Wc' := wV_ v0 v_keys v_firsts v_ends v_values v_inferred v_gone cI cZ vkeys vfirsts vends vvalues vinferred vgone vmade) (W2 := wD_ d0 s0 z0 b0 q0 t0 dhasSaved dkeptError dmoved ++ wS_ s0 v0 f0 r0 ++ wV_ v0 v_keys v_firsts v_ends v_values v_inferred v_gone cI cZ vkeys vfirsts vends vvalues vinferred vgone vmade ++ wF_ f0 f_keys f_days f_amounts f_versions cI fkeys fdays famounts fversions fcount ++ wR_ r0 r_keys r_days r_values cI rkeys rdays rvalues rcount) hP hD [2, 3, 4, 5, 6, 7, 8] [0, 1, 9, 10, 11, 12, 13, 14, 15, 16, 17] [0, 1, 11, 12, 13, 14, 15, 16, 17, 2, 3, 4, 5, 6, 7, 8, 9, 10] rfl rfl (by decide) (by decide) (by decide) hk1 hFc hB ht rfl
  refine lv_if_ne (tgt := 22) hx hb dX5_checkVersion_11 (by decide) (fun c6 => ?_) (fun c6 => ?_)
  · have hf := ite_F c6 hf
    have hR := Option.some.inj hf
    subst hR
    refine vx_ret (W.widen (k := 1) (n := 6) (Nat.le_of_ble_eq_true rfl) (Nat.le_of_ble_eq_true rfl) ?_)
    exact W.vret hx hb hr (fun t ht hW => ⟨⟨(), rfl, rfl, by rw [ht]; exact hP, va_K.moved hW.alike hK, hD⟩, hS.F ht⟩) hS.2.2 dX5_checkVersion_22
  · have hf := ite_T c6 hf
    have hR := Option.some.inj hf
    subst hR
    exact vx_throw0 (names := ["java/lang/RuntimeException", "java/lang/Exception"]) hx hb hst hown (by decide +kernel) (by decide +kernel) (hts _ (List.mem_of_getElem? (i := 1) rfl)) (hts _ (List.mem_of_getElem? (i := 2) rfl)) (vx_hat (fun w h => hts w (at_X5_checkVersion_171 w h)) (atn_0 "java/lang/IndexOutOfBoundsException" (by decide +kernel) 171 (by decide)) (hC.words (by decide +kernel))) at_X5_checkVersion_171g hU hN hS (hl.1.trans hml.symm) dX5_checkVersion_14 dX5_checkVersion_17 dX5_checkVersion_18 dX5_checkVersion_21 (fun x h => (htab x h).elim) (Nat.le_of_ble_eq_true rfl) (Nat.le_of_ble_eq_true rfl) (Nat.le_of_ble_eq_true rfl) (Nat.le_of_ble_eq_true rfl) hlocks (thr_ hS hP hK hD rfl) hS.2.2 (Nat.le_of_ble_eq_true rfl) (Nat.le_of_ble_eq_true rfl)
theorem hs_X5_checkVersion : yX5_checkVersion.cls = RX5 ∧ yX5_checkVersion.cls ≠ "java/lang/invoke/MethodHandle" ∧ yX5_checkVersion.cls ≠ "java/lang/invoke/VarHandle" ∧ (parseMethodDescriptor yX5_checkVersion.desc).map (fun d => d.parameters.length) = some 1 := by decide +kernel
set_option maxRecDepth 20000 in
theorem in_X5_remove_X2 : ∀ w ∈ wsX20, w ∈ wsX5_remove := by decide +kernel
set_option maxRecDepth 20000 in
theorem in_X5_remove_X5 : ∀ w ∈ wsX50, w ∈ wsX5_remove := by decide +kernel
set_option maxRecDepth 20000 in
theorem at_X5_remove_60 : ∀ w ∈ (vx_at0 RX5 60 "java/lang/IllegalStateException" ["java/lang/RuntimeException", "java/lang/Exception"]).filter goodWord, w ∈ wsX5_remove := by decide +kernel
set_option maxRecDepth 20000 in
theorem at_X5_remove_60g : ∀ w ∈ Cond.classLink RX5 58 "java/lang/IllegalStateException" :: Cond.initialized "java/lang/IllegalStateException" :: vx_at0 RX5 60 "java/lang/IllegalStateException" ["java/lang/RuntimeException", "java/lang/Exception"], vx_ot w = true := by decide +kernel
def f_X5_remove (a1 : Int32) (D_ : tD_) (S_ : tS_) (V_ : tV_) (F_ : tF_) (R_ : tR_) : Option (Except String Int32 × tD_ × tV_ × tF_) :=
match D_ with
| (dhasSaved, dkeptError, dmoved) =>
match V_ with
| (vkeys, vfirsts, vends, vvalues, vinferred, vgone, vmade) =>
match F_ with
| (fkeys, fdays, famounts, fversions, fcount) =>
match R_ with
| (rkeys, rdays, rvalues, rcount) =>
bd_ (f_X5_checkVersion a1 (dhasSaved, dkeptError, dmoved) () (vkeys, vfirsts, vends, vvalues, vinferred, vgone, vmade) (fkeys, fdays, famounts, fversions, fcount) (rkeys, rdays, rvalues, rcount)) (fun x1 =>
match x1 with
| Except.error E9 => some (Except.error E9, (dhasSaved, dkeptError, dmoved), (vkeys, vfirsts, vends, vvalues, vinferred, vgone, vmade), (fkeys, fdays, famounts, fversions, fcount))
| Except.ok v2 =>
bd_ (f_X0_countOf a1 (fkeys, fdays, famounts, fversions, fcount)) (fun r10 =>
bd_ (f_X4_endingWhereBegins a1 (vkeys, vfirsts, vends, vvalues, vinferred, vgone, vmade)) (fun r15 =>
if r10 ≤ 0 then
if r15 = (-1) then
bd_ (f_X4_drop a1 (vkeys, vfirsts, vends, vvalues, vinferred, vgone, vmade)) (fun (vk45, vf46, ve47, vv48, vi49, vg50, vm51) =>
bd_ (f_X5_pointFacts (dhasSaved, dkeptError, dmoved) () (vk45, vf46, ve47, vv48, vi49, vg50, vm51) (fkeys, fdays, famounts, fversions, fcount) (rkeys, rdays, rvalues, rcount)) (fun ((dh56, dk57, dm58), (fk59, fd60, fa61, fv62, fc63)) =>
some (Except.ok r10, (dh56, dk57, dm58), (vk45, vf46, ve47, vv48, vi49, vg50, vm51), (fk59, fd60, fa61, fv62, fc63))))
else
bd_ (f_X4_merge r15 a1 (vkeys, vfirsts, vends, vvalues, vinferred, vgone, vmade)) (fun (vk22, vf23, ve24, vv25, vi26, vg27, vm28) =>
bd_ (f_X5_pointFacts (dhasSaved, dkeptError, dmoved) () (vk22, vf23, ve24, vv25, vi26, vg27, vm28) (fkeys, fdays, famounts, fversions, fcount) (rkeys, rdays, rvalues, rcount)) (fun ((dh33, dk34, dm35), (fk36, fd37, fa38, fv39, fc40)) =>
some (Except.ok r10, (dh33, dk34, dm35), (vk22, vf23, ve24, vv25, vi26, vg27, vm28), (fk36, fd37, fa38, fv39, fc40))))
else
if r15 = (-1) then
some (Except.error "java/lang/IllegalStateException", (dhasSaved, dkeptError, dmoved), (vkeys, vfirsts, vends, vvalues, vinferred, vgone, vmade), (fkeys, fdays, famounts, fversions, fcount))
else
if r15 = (-1) then
bd_ (f_X4_drop a1 (vkeys, vfirsts, vends, vvalues, vinferred, vgone, vmade)) (fun (vk93, vf94, ve95, vv96, vi97, vg98, vm99) =>
bd_ (f_X5_pointFacts (dhasSaved, dkeptError, dmoved) () (vk93, vf94, ve95, vv96, vi97, vg98, vm99) (fkeys, fdays, famounts, fversions, fcount) (rkeys, rdays, rvalues, rcount)) (fun ((dh104, dk105, dm106), (fk107, fd108, fa109, fv110, fc111)) =>
some (Except.ok r10, (dh104, dk105, dm106), (vk93, vf94, ve95, vv96, vi97, vg98, vm99), (fk107, fd108, fa109, fv110, fc111))))
else
bd_ (f_X4_merge r15 a1 (vkeys, vfirsts, vends, vvalues, vinferred, vgone, vmade)) (fun (vk70, vf71, ve72, vv73, vi74, vg75, vm76) =>
bd_ (f_X5_pointFacts (dhasSaved, dkeptError, dmoved) () (vk70, vf71, ve72, vv73, vi74, vg75, vm76) (fkeys, fdays, famounts, fversions, fcount) (rkeys, rdays, rvalues, rcount)) (fun ((dh81, dk82, dm83), (fk84, fd85, fa86, fv87, fc88)) =>
some (Except.ok r10, (dh81, dk82, dm83), (vk70, vf71, ve72, vv73, vi74, vg75, vm76), (fk84, fd85, fa86, fv87, fc88)))))))
abbrev rm_X5_remove : Room := { frames := 7, cells := 2, slots := 12, locals := 110 }
set_option maxHeartbeats 4000000 in
set_option maxRecDepth 100000 in
theorem c_X5_remove (l : Launch) (dC : Nat → ClassId) (dI : Nat → Nat → Nat) (cI cZ cC cJ cD : ClassId) (hst : l.stackTraces = false) (d0 s0 z0 b0 q0 t0 v0 f0 r0 v_keys v_firsts v_ends v_values v_inferred v_gone f_keys f_days f_amounts f_versions r_keys r_days r_values : Nat) (sz : Nat) (dhasSaved : Int32) (dkeptError : Int32) (dmoved : Int32) (vkeys : Nat → Int32) (vfirsts : Nat → Int32) (vends : Nat → Int32) (vvalues : Nat → Int32) (vinferred : Nat → Int32) (vgone : Nat → Int32) (vmade : Int32) (fkeys : Nat → Int32) (fdays : Nat → Int32) (famounts : Nat → Int32) (fversions : Nat → Int32) (fcount : Int32) (rkeys : Nat → Int32) (rdays : Nat → Int32) (rvalues : Nat → Int32) (rcount : Int32) (a1 : Int32) (R : Except String Int32 × tD_ × tV_ × tF_) (hf : f_X5_remove a1 (dhasSaved, dkeptError, dmoved) () (vkeys, vfirsts, vends, vvalues, vinferred, vgone, vmade) (fkeys, fdays, famounts, fversions, fcount) (rkeys, rdays, rvalues, rcount) = some R) : vx_Met l yX5_remove wsX5_remove rm_X5_remove (Py_ (dC, dI) (ty_ cI cZ cC cJ cD) (wD_ d0 s0 z0 b0 q0 t0 dhasSaved dkeptError dmoved ++ wS_ s0 v0 f0 r0 ++ wV_ v0 v_keys v_firsts v_ends v_values v_inferred v_gone cI cZ vkeys vfirsts vends vvalues vinferred vgone vmade ++ wF_ f0 f_keys f_days f_amounts f_versions cI fkeys fdays famounts fversions fcount ++ wR_ r0 r_keys r_days r_values cI rkeys rdays rvalues rcount) sz [.ref d0, .int a1]) (Xi_ (dC, dI) (ty_ cI cZ cC cJ cD) R.1 (wD_ d0 s0 z0 b0 q0 t0 R.2.1.1 R.2.1.2.1 R.2.1.2.2 ++ wS_ s0 v0 f0 r0 ++ wV_ v0 v_keys v_firsts v_ends v_values v_inferred v_gone cI cZ R.2.2.1.1 R.2.2.1.2.1 R.2.2.1.2.2.1 R.2.2.1.2.2.2.1 R.2.2.1.2.2.2.2.1 R.2.2.1.2.2.2.2.2.1 R.2.2.1.2.2.2.2.2.2 ++ wF_ f0 f_keys f_days f_amounts f_versions cI R.2.2.2.1 R.2.2.2.2.1 R.2.2.2.2.2.1 R.2.2.2.2.2.2.1 R.2.2.2.2.2.2.2 ++ wR_ r0 r_keys r_days r_values cI rkeys rdays rvalues rcount) (va_A (wD_ d0 s0 z0 b0 q0 t0 dhasSaved dkeptError dmoved ++ wS_ s0 v0 f0 r0 ++ wV_ v0 v_keys v_firsts v_ends v_values v_inferred v_gone cI cZ vkeys vfirsts vends vvalues vinferred vgone vmade ++ wF_ f0 f_keys f_days f_amounts f_versions cI fkeys fdays famounts fversions fcount ++ wR_ r0 r_keys r_days r_values cI rkeys rdays rvalues rcount) sz)) (XX_ (dC, dI) (ty_ cI cZ cC cJ cD) R.1 (wD_ d0 s0 z0 b0 q0 t0 R.2.1.1 R.2.1.2.1 R.2.1.2.2 ++ wS_ s0 v0 f0 r0 ++ wV_ v0 v_keys v_firsts v_ends v_values v_inferred v_gone cI cZ R.2.2.1.1 R.2.2.1.2.1 R.2.2.1.2.2.1 R.2.2.1.2.2.2.1 R.2.2.1.2.2.2.2.1 R.2.2.1.2.2.2.2.2.1 R.2.2.1.2.2.2.2.2.2 ++ wF_ f0 f_keys f_days f_amounts f_versions cI R.2.2.2.1 R.2.2.2.2.1 R.2.2.2.2.2.1 R.2.2.2.2.2.2.1 R.2.2.2.2.2.2.2 ++ wR_ r0 r_keys r_days r_values cI rkeys rdays rvalues rcount) (va_A (wD_ d0 s0 z0 b0 q0 t0 dhasSaved dkeptError dmoved ++ wS_ s0 v0 f0 r0 ++ wV_ v0 v_keys v_firsts v_ends v_values v_inferred v_gone cI cZ vkeys vfirsts vends vvalues vinferred vgone vmade ++ wF_ f0 f_keys f_days f_amounts f_versions cI fkeys fdays famounts fversions fcount ++ wR_ r0 r_keys r_days r_values cI rkeys rdays rvalues rcount) sz)) 2 12 (va_A (wD_ d0 s0 z0 b0 q0 t0 dhasSaved dkeptError dmoved ++ wS_ s0 v0 f0 r0 ++ wV_ v0 v_keys v_firsts v_ends v_values v_inferred v_gone cI cZ vkeys vfirsts vends vvalues vinferred vgone vmade ++ wF_ f0 f_keys f_days f_amounts f_versions cI fkeys fdays famounts fversions fcount ++ wR_ r0 r_keys r_days r_values cI rkeys rdays rvalues rcount) sz) := by
  refine mety_ (cc := cX5_remove) (maxL := 4) (ret := (some .int)) (Qcf := fun A => Xi_ (dC, dI) (ty_ cI cZ cC cJ cD) R.1 (wD_ d0 s0 z0 b0 q0 t0 R.2.1.1 R.2.1.2.1 R.2.1.2.2 ++ wS_ s0 v0 f0 r0 ++ wV_ v0 v_keys v_firsts v_ends v_values v_inferred v_gone cI cZ R.2.2.1.1 R.2.2.1.2.1 R.2.2.1.2.2.1 R.2.2.1.2.2.2.1 R.2.2.1.2.2.2.2.1 R.2.2.1.2.2.2.2.2.1 R.2.2.1.2.2.2.2.2.2 ++ wF_ f0 f_keys f_days f_amounts f_versions cI R.2.2.2.1 R.2.2.2.2.1 R.2.2.2.2.2.1 R.2.2.2.2.2.2.1 R.2.2.2.2.2.2.2 ++ wR_ r0 r_keys r_days r_values cI rkeys rdays rvalues rcount) A) (XCf := fun A => XX_ (dC, dI) (ty_ cI cZ cC cJ cD) R.1 (wD_ d0 s0 z0 b0 q0 t0 R.2.1.1 R.2.1.2.1 R.2.1.2.2 ++ wS_ s0 v0 f0 r0 ++ wV_ v0 v_keys v_firsts v_ends v_values v_inferred v_gone cI cZ R.2.2.1.1 R.2.2.1.2.1 R.2.2.1.2.2.1 R.2.2.1.2.2.2.1 R.2.2.1.2.2.2.2.1 R.2.2.1.2.2.2.2.2.1 R.2.2.1.2.2.2.2.2.2 ++ wF_ f0 f_keys f_days f_amounts f_versions cI R.2.2.2.1 R.2.2.2.2.1 R.2.2.2.2.2.1 R.2.2.2.2.2.2.1 R.2.2.2.2.2.2.2 ++ wR_ r0 r_keys r_days r_values cI rkeys rdays rvalues rcount) A) (by decide) rfl (Nat.le_of_ble_eq_true rfl) ?_
  intro p e s m args below meth c A ls hx hb hr hts hown hlocks hml htab hA hU hN hC hP hK hD hl
  have hown : s.vm.findClass RX5 = some m.cls := hown
  have hl : lv_has ls 4 [(0, .ref d0), (1, .int a1)] := hl
  have hS : va_S A s.heap s.heap [] := va_S.rf
  have fl10_ : (Cond.fieldLink RX5 10 "DimensionLoader" "live" "LDimensionLoader$Store;").before args s = true := hts _ (List.mem_of_getElem? (i := 3) rfl)
  have fl51_ : (Cond.fieldLink RX5 51 "DimensionLoader$Store" "versions" "LDimensionLoader$Versions;").before args s = true := hts _ (List.mem_of_getElem? (i := 5) rfl)
  have fl64_ : (Cond.fieldLink RX5 64 "DimensionLoader$Store" "facts" "LDimensionLoader$Facts;").before args s = true := hts _ (List.mem_of_getElem? (i := 4) rfl)
  have inX2_ : ∀ w ∈ wsX20, w ∈ wsX5_remove := in_X5_remove_X2
  have inX5_ : ∀ w ∈ wsX50, w ∈ wsX5_remove := in_X5_remove_X5
  unfold f_X5_remove at hf
  dsimp only at hf
  refine lv_aload_n hx hb dX5_remove_0 rfl (lv_at hl 0 rfl) ?_
  refine lv_iload_n hx hb dX5_remove_1 rfl (lv_at hl 1 rfl) ?_
  obtain ⟨R3, g4, hf⟩ := bd_B hf
  obtain ⟨x1, rfl⟩ : ∃ z, z = R3 := ⟨_, rfl⟩
  have hPc := hP
  have hDc := hD
  have hFc := va_free (wc := wD_ d0 s0 z0 b0 q0 t0 dhasSaved dkeptError dmoved ++ wS_ s0 v0 f0 r0 ++ wV_ v0 v_keys v_firsts v_ends v_values v_inferred v_gone cI cZ vkeys vfirsts vends vvalues vinferred vgone vmade ++ wF_ f0 f_keys f_days f_amounts f_versions cI fkeys fdays famounts fversions fcount ++ wR_ r0 r_keys r_days r_values cI rkeys rdays rvalues rcount) hD hS hA [0, 1, 2, 3, 4, 5, 6, 7, 8, 9, 10, 11, 12, 13, 14, 15, 16, 17] rfl
  cases x1 with
  | error E9 =>
    have hR := Option.some.inj hf
    subst hR
    refine vx_callv (vx_runV (As := [.int a1]) (rest := []) ⟨hx, hb, hml, hown, hts⟩ (c_X5_checkVersion l dC dI cI cZ cC cJ cD hst d0 s0 z0 b0 q0 t0 v0 f0 r0 v_keys v_firsts v_ends v_values v_inferred v_gone f_keys f_days f_amounts f_versions r_keys r_days r_values s.heap.size dhasSaved dkeptError dmoved vkeys vfirsts vends vvalues vinferred vgone vmade fkeys fdays famounts fversions fcount rkeys rdays rvalues rcount a1 (Except.error E9) g4) (cwV 1 hts gX5_remove_X5_checkVersion rfl rfl rfl hs_X5_checkVersion ⟨Nat.le_of_ble_eq_true rfl, Nat.le_of_ble_eq_true rfl⟩) (preVy_ (ci := 7) (q0 := 0) hPc hK hDc rfl rfl rfl rfl hS hU hN hFc hC) rfl rfl hl.1 rfl (lv_room (Nat.le_of_ble_eq_true rfl)) dX5_remove_2 ⟨Nat.le_of_ble_eq_true rfl, Nat.le_of_ble_eq_true rfl⟩) hS (fun q _ h => hFc q h) hFc (fun q _ h => hFc q h) (fun E ce q9 u t H7 locs ht hvm hp hB hz1 hk1 hS hce hcv hcl => ?_) (fun u t H7 locs ht hvm hw hB hz1 hk1 hS => ?_)
    · obtain ⟨hE, hB⟩ := hB
      cases hE
      obtain ⟨hP, hD⟩ := aft_ (Wr := []) (Wc' := wD_ d0 s0 z0 b0 q0 t0 dhasSaved dkeptError dmoved ++ wS_ s0 v0 f0 r0 ++ wV_ v0 v_keys v_firsts v_ends v_values v_inferred v_gone cI cZ vkeys vfirsts vends vvalues vinferred vgone vmade ++ wF_ f0 f_keys f_days f_amounts f_versions cI fkeys fdays famounts fversions fcount ++ wR_ r0 r_keys r_days r_values cI rkeys rdays rvalues rcount) (W2 := wD_ d0 s0 z0 b0 q0 t0 dhasSaved dkeptError dmoved ++ wS_ s0 v0 f0 r0 ++ wV_ v0 v_keys v_firsts v_ends v_values v_inferred v_gone cI cZ vkeys vfirsts vends vvalues vinferred vgone vmade ++ wF_ f0 f_keys f_days f_amounts f_versions cI fkeys fdays famounts fversions fcount ++ wR_ r0 r_keys r_days r_values cI rkeys rdays rvalues rcount) hP hD [0, 1, 2, 3, 4, 5, 6, 7, 8, 9, 10, 11, 12, 13, 14, 15, 16, 17] [] [0, 1, 2, 3, 4, 5, 6, 7, 8, 9, 10, 11, 12, 13, 14, 15, 16, 17] rfl rfl (by decide) (by decide) (by decide) hk1 hFc hB ht rfl
      exact vx_out (fun x h => (htab x h).elim) hlocks hce hcv hcl (thr2_ hS hP hK hD rfl) hS.2.2 (Nat.le_of_ble_eq_true rfl) (Nat.le_of_ble_eq_true rfl)
    · exact absurd hw (fun h => nomatch h)
  | ok v2 =>
    refine vx_callv (vx_runV (As := [.int a1]) (rest := []) ⟨hx, hb, hml, hown, hts⟩ (c_X5_checkVersion l dC dI cI cZ cC cJ cD hst d0 s0 z0 b0 q0 t0 v0 f0 r0 v_keys v_firsts v_ends v_values v_inferred v_gone f_keys f_days f_amounts f_versions r_keys r_days r_values s.heap.size dhasSaved dkeptError dmoved vkeys vfirsts vends vvalues vinferred vgone vmade fkeys fdays famounts fversions fcount rkeys rdays rvalues rcount a1 (Except.ok ()) g4) (cwV 1 hts gX5_remove_X5_checkVersion rfl rfl rfl hs_X5_checkVersion ⟨Nat.le_of_ble_eq_true rfl, Nat.le_of_ble_eq_true rfl⟩) (preVy_ (ci := 7) (q0 := 0) hPc hK hDc rfl rfl rfl rfl hS hU hN hFc hC) rfl rfl hl.1 rfl (lv_room (Nat.le_of_ble_eq_true rfl)) dX5_remove_2 ⟨Nat.le_of_ble_eq_true rfl, Nat.le_of_ble_eq_true rfl⟩) hS (fun q _ h => hFc q h) hFc (fun q _ h => hFc q h) (fun E ce q9 u t H7 locs ht hvm hp hB hz1 hk1 hS hce hcv hcl => ?_) (fun u t H7 locs ht hvm hw hB hz1 hk1 hS => ?_)
    · exact absurd hB.1 (fun h => nomatch h)
    · obtain ⟨hP, hD⟩ := aft_ (Wr := []) (Wc' := wD_ d0 s0 z0 b0 q0 t0 dhasSaved dkeptError dmoved ++ wS_ s0 v0 f0 r0 ++ wV_ v0 v_keys v_firsts v_ends v_values v_inferred v_gone cI cZ vkeys vfirsts vends vvalues vinferred vgone vmade ++ wF_ f0 f_keys f_days f_amounts f_versions cI fkeys fdays famounts fversions fcount ++ wR_ r0 r_keys r_days r_values cI rkeys rdays rvalues rcount) (W2 := wD_ d0 s0 z0 b0 q0 t0 dhasSaved dkeptError dmoved ++ wS_ s0 v0 f0 r0 ++ wV_ v0 v_keys v_firsts v_ends v_values v_inferred v_gone cI cZ vkeys vfirsts vends vvalues vinferred vgone vmade ++ wF_ f0 f_keys f_days f_amounts f_versions cI fkeys fdays famounts fversions fcount ++ wR_ r0 r_keys r_days r_values cI rkeys rdays rvalues rcount) hP hD [0, 1, 2, 3, 4, 5, 6, 7, 8, 9, 10, 11, 12, 13, 14, 15, 16, 17] [] [0, 1, 2, 3, 4, 5, 6, 7, 8, 9, 10, 11, 12, 13, 14, 15, 16, 17] rfl rfl (by decide) (by decide) (by decide) hk1 hFc hB ht rfl
      refine lv_aload_n hx hb dX5_remove_5 rfl (lv_at hl 0 rfl) ?_
      refine va_get (D := (dC, dI)) (ci := 7) (v := .ref s0) (C := RX5) (T := TX5) (N := 8) hx hb hts inX5_ hown hK hP 0 rfl rfl 0 (by decide) fl10_ (fun _ h9 => h9) rfl dX5_remove_6 ?_
      refine va_get (D := (dC, dI)) (ci := 4) (v := .ref f0) (C := RX2) (T := TX2) (N := 3) hx hb hts inX2_ hown hK hP 1 rfl rfl 1 (by decide) fl64_ (fun _ h9 => h9) rfl dX5_remove_9 ?_
      refine lv_iload_n hx hb dX5_remove_12 rfl (lv_at hl 1 rfl) ?_
      obtain ⟨R11, g12, hf⟩ := bd_B hf
      obtain ⟨r10, rfl⟩ : ∃ z, z = R11 := ⟨_, rfl⟩
      have hPc := hP.sub (ws' := wF_ f0 f_keys f_days f_amounts f_versions cI fkeys fdays famounts fversions fcount) [9, 10, 11, 12, 13] rfl
      have hDc := hD.sub (ws' := wF_ f0 f_keys f_days f_amounts f_versions cI fkeys fdays famounts fversions fcount) [9, 10, 11, 12, 13] (by decide) rfl
      have hFc := va_free (wc := wF_ f0 f_keys f_days f_amounts f_versions cI fkeys fdays famounts fversions fcount) hD hS hA [9, 10, 11, 12, 13] rfl
      refine va_calli (va_runV (As := [.int a1]) (rest := []) ⟨hx, hb, hml, hown, hts⟩ (c_X0_countOf l dC dI cI cZ cC cJ cD f0 f_keys f_days f_amounts f_versions H7.size fkeys fdays famounts fversions fcount a1 r10 g12) (cwV 1 hts gX5_remove_X0_countOf rfl rfl rfl hs_X0_countOf ⟨Nat.le_of_ble_eq_true rfl, Nat.le_of_ble_eq_true rfl⟩) (preV_ (ci := 2) (q0 := 0) hPc hK hDc rfl rfl rfl rfl) rfl rfl hl.1 rfl (lv_room (Nat.le_of_ble_eq_true rfl)) dX5_remove_13 ⟨Nat.le_of_ble_eq_true rfl, Nat.le_of_ble_eq_true rfl⟩) hS (fun q _ h => hFc q h) hFc (fun z14 u t H13 locs ht hvm hw hB hz1 hk1 hS => ?_)
      have hw : r10 = z14 := hw.symm
      subst hw
      obtain ⟨hP, hD⟩ := aft_ (Wr := wD_ d0 s0 z0 b0 q0 t0 dhasSaved dkeptError dmoved ++ wS_ s0 v0 f0 r0 ++ wV_ v0 v_keys v_firsts v_ends v_values v_inferred v_gone cI cZ vkeys vfirsts vends vvalues vinferred vgone vmade ++ wR_ r0 r_keys r_days r_values cI rkeys rdays rvalues rcount) (Wc' := wF_ f0 f_keys f_days f_amounts f_versions cI fkeys fdays famounts fversions fcount) (W2 := wD_ d0 s0 z0 b0 q0 t0 dhasSaved dkeptError dmoved ++ wS_ s0 v0 f0 r0 ++ wV_ v0 v_keys v_firsts v_ends v_values v_inferred v_gone cI cZ vkeys vfirsts vends vvalues vinferred vgone vmade ++ wF_ f0 f_keys f_days f_amounts f_versions cI fkeys fdays famounts fversions fcount ++ wR_ r0 r_keys r_days r_values cI rkeys rdays rvalues rcount) hP hD [9, 10, 11, 12, 13] [0, 1, 2, 3, 4, 5, 6, 7, 8, 14, 15, 16, 17] [0, 1, 2, 3, 4, 5, 6, 7, 8, 13, 14, 15, 16, 17, 9, 10, 11, 12] rfl rfl (by decide) (by decide) (by decide) hk1 hFc hB ht rfl
      refine lv_istore_n (lv' := [(2, .int r10), (0, .ref d0), (1, .int a1)]) hx hb dX5_remove_16 rfl hl (by decide) rfl (fun ls hl => ?_)
      refine lv_aload_n hx hb dX5_remove_17 rfl (lv_at hl 1 rfl) ?_
      refine va_get (D := (dC, dI)) (ci := 7) (v := .ref s0) (C := RX5) (T := TX5) (N := 8) hx hb hts inX5_ hown hK hP 0 rfl rfl 0 (by decide) fl10_ (fun _ h9 => h9) rfl dX5_remove_18 ?_
      refine va_get (D := (dC, dI)) (ci := 4) (v := .ref v0) (C := RX2) (T := TX2) (N := 3) hx hb hts inX2_ hown hK hP 1 rfl rfl 0 (by decide) fl51_ (fun _ h9 => h9) rfl dX5_remove_21 ?_
      refine lv_iload_n hx hb dX5_remove_24 rfl (lv_at hl 2 rfl) ?_
      obtain ⟨R16, g17, hf⟩ := bd_B hf
      obtain ⟨r15, rfl⟩ : ∃ z, z = R16 := ⟨_, rfl⟩
      have hPc := hP.sub (ws' := wV_ v0 v_keys v_firsts v_ends v_values v_inferred v_gone cI cZ vkeys vfirsts vends vvalues vinferred vgone vmade) [2, 3, 4, 5, 6, 7, 8] rfl
      have hDc := hD.sub (ws' := wV_ v0 v_keys v_firsts v_ends v_values v_inferred v_gone cI cZ vkeys vfirsts vends vvalues vinferred vgone vmade) [2, 3, 4, 5, 6, 7, 8] (by decide) rfl
      have hFc := va_free (wc := wV_ v0 v_keys v_firsts v_ends v_values v_inferred v_gone cI cZ vkeys vfirsts vends vvalues vinferred vgone vmade) hD hS hA [2, 3, 4, 5, 6, 7, 8] rfl
      refine va_calli (va_runV (As := [.int a1]) (rest := []) ⟨hx, hb, hml, hown, hts⟩ (c_X4_endingWhereBegins l dC dI cI cZ cC cJ cD v0 v_keys v_firsts v_ends v_values v_inferred v_gone H13.size vkeys vfirsts vends vvalues vinferred vgone vmade a1 r15 g17) (cwV 1 hts gX5_remove_X4_endingWhereBegins rfl rfl rfl hs_X4_endingWhereBegins ⟨Nat.le_of_ble_eq_true rfl, Nat.le_of_ble_eq_true rfl⟩) (preV_ (ci := 6) (q0 := 0) hPc hK hDc rfl rfl rfl rfl) rfl rfl hl.1 rfl (lv_room (Nat.le_of_ble_eq_true rfl)) dX5_remove_25 ⟨Nat.le_of_ble_eq_true rfl, Nat.le_of_ble_eq_true rfl⟩) hS (fun q _ h => hFc q h) hFc (fun z19 u t H18 locs ht hvm hw hB hz1 hk1 hS => ?_)
      have hw : r15 = z19 := hw.symm
      subst hw
      obtain ⟨hP, hD⟩ := aft_ (Wr := wD_ d0 s0 z0 b0 q0 t0 dhasSaved dkeptError dmoved ++ wS_ s0 v0 f0 r0 ++ wF_ f0 f_keys f_days f_amounts f_versions cI fkeys fdays famounts fversions fcount ++ wR_ r0 r_keys r_days r_values cI rkeys rdays rvalues rcount) (Wc' := wV_ v0 v_keys v_firsts v_ends v_values v_inferred v_gone cI cZ vkeys vfirsts vends vvalues vinferred vgone vmade) (W2 := wD_ d0 s0 z0 b0 q0 t0 dhasSaved dkeptError dmoved ++ wS_ s0 v0 f0 r0 ++ wV_ v0 v_keys v_firsts v_ends v_values v_inferred v_gone cI cZ vkeys vfirsts vends vvalues vinferred vgone vmade ++ wF_ f0 f_keys f_days f_amounts f_versions cI fkeys fdays famounts fversions fcount ++ wR_ r0 r_keys r_days r_values cI rkeys rdays rvalues rcount) hP hD [2, 3, 4, 5, 6, 7, 8] [0, 1, 9, 10, 11, 12, 13, 14, 15, 16, 17] [0, 1, 11, 12, 13, 14, 15, 16, 17, 2, 3, 4, 5, 6, 7, 8, 9, 10] rfl rfl (by decide) (by decide) (by decide) hk1 hFc hB ht rfl
      refine lv_istore_n (lv' := [(3, .int r15), (2, .int r10), (0, .ref d0), (1, .int a1)]) hx hb dX5_remove_28 rfl hl (by decide) rfl (fun ls hl => ?_)
      refine lv_iload_n hx hb dX5_remove_29 rfl (lv_at hl 1 rfl) ?_
      refine lv_if_le (tgt := 46) hx hb dX5_remove_30 (by decide) (fun c20 => ?_) (fun c20 => ?_)
      · have hf := ite_T c20 hf
        refine lv_iload_n hx hb dX5_remove_46 rfl (lv_at hl 0 rfl) ?_
        refine lv_iconst (v := (-1)) hx hb dX5_remove_47 (by decide) ?_
        refine lv_icmp_ne (tgt := 65) hx hb dX5_remove_48 (by decide) (fun c21 => ?_) (fun c21 => ?_)
        · have hf := ite_F c21 hf
          refine lv_aload_n hx hb dX5_remove_65 rfl (lv_at hl 2 rfl) ?_
          refine va_get (D := (dC, dI)) (ci := 7) (v := .ref s0) (C := RX5) (T := TX5) (N := 8) hx hb hts inX5_ hown hK hP 0 rfl rfl 0 (by decide) fl10_ (fun _ h9 => h9) rfl dX5_remove_66 ?_
          refine va_get (D := (dC, dI)) (ci := 4) (v := .ref v0) (C := RX2) (T := TX2) (N := 3) hx hb hts inX2_ hown hK hP 1 rfl rfl 0 (by decide) fl51_ (fun _ h9 => h9) rfl dX5_remove_69 ?_
          refine lv_iload_n hx hb dX5_remove_72 rfl (lv_at hl 0 rfl) ?_
          refine lv_iload_n hx hb dX5_remove_73 rfl (lv_at hl 3 rfl) ?_
          obtain ⟨R29, g30, hf⟩ := bd_B hf
          obtain ⟨vk22, vf23, ve24, vv25, vi26, vg27, vm28⟩ := R29
          dsimp only at hf
          have hPc := hP.sub (ws' := wV_ v0 v_keys v_firsts v_ends v_values v_inferred v_gone cI cZ vkeys vfirsts vends vvalues vinferred vgone vmade) [2, 3, 4, 5, 6, 7, 8] rfl
          have hDc := hD.sub (ws' := wV_ v0 v_keys v_firsts v_ends v_values v_inferred v_gone cI cZ vkeys vfirsts vends vvalues vinferred vgone vmade) [2, 3, 4, 5, 6, 7, 8] (by decide) rfl
          have hFc := va_free (wc := wV_ v0 v_keys v_firsts v_ends v_values v_inferred v_gone cI cZ vkeys vfirsts vends vvalues vinferred vgone vmade) hD hS hA [2, 3, 4, 5, 6, 7, 8] rfl
          refine va_callv (va_runV (As := [.int r15, .int a1]) (rest := []) ⟨hx, hb, hml, hown, hts⟩ (c_X4_merge l dC dI cI cZ cC cJ cD v0 v_keys v_firsts v_ends v_values v_inferred v_gone H18.size vkeys vfirsts vends vvalues vinferred vgone vmade r15 a1 (vk22, vf23, ve24, vv25, vi26, vg27, vm28) g30) (cwV 2 hts gX5_remove_X4_merge rfl rfl rfl hs_X4_merge ⟨Nat.le_of_ble_eq_true rfl, Nat.le_of_ble_eq_true rfl⟩) (preV_ (ci := 6) (q0 := 0) hPc hK hDc rfl rfl rfl rfl) rfl rfl hl.1 rfl (lv_room (Nat.le_of_ble_eq_true rfl)) dX5_remove_74 ⟨Nat.le_of_ble_eq_true rfl, Nat.le_of_ble_eq_true rfl⟩) hS (fun q _ h => hFc q h) hFc (fun u t H31 locs ht hvm hw hB hz1 hk1 hS => ?_)
          obtain ⟨hP, hD⟩ := aft_ (Wr := wD_ d0 s0 z0 b0 q0 t0 dhasSaved dkeptError dmoved ++ wS_ s0 v0 f0 r0 ++ wF_ f0 f_keys f_days f_amounts f_versions cI fkeys fdays famounts fversions fcount ++ wR_ r0 r_keys r_days r_values cI rkeys rdays rvalues rcount) (Wc' := wV_ v0 v_keys v_firsts v_ends v_values v_inferred v_gone cI cZ vk22 vf23 ve24 vv25 vi26 vg27 vm28) (W2 := wD_ d0 s0 z0 b0 q0 t0 dhasSaved dkeptError dmoved ++ wS_ s0 v0 f0 r0 ++ wV_ v0 v_keys v_firsts v_ends v_values v_inferred v_gone cI cZ vk22 vf23 ve24 vv25 vi26 vg27 vm28 ++ wF_ f0 f_keys f_days f_amounts f_versions cI fkeys fdays famounts fversions fcount ++ wR_ r0 r_keys r_days r_values cI rkeys rdays rvalues rcount) hP hD [2, 3, 4, 5, 6, 7, 8] [0, 1, 9, 10, 11, 12, 13, 14, 15, 16, 17] [0, 1, 11, 12, 13, 14, 15, 16, 17, 2, 3, 4, 5, 6, 7, 8, 9, 10] rfl rfl (by decide) (by decide) (by decide) hk1 hFc hB ht rfl
          refine lv_aload_n hx hb dX5_remove_77 rfl (lv_at hl 2 rfl) ?_
          obtain ⟨R41, g42, hf⟩ := bd_B hf
          obtain ⟨⟨dh33, dk34, dm35⟩, ⟨fk36, fd37, fa38, fv39, fc40⟩⟩ := R41
          dsimp only at hf
          have hPc := hP
          have hDc := hD
          have hFc := va_free (wc := wD_ d0 s0 z0 b0 q0 t0 dhasSaved dkeptError dmoved ++ wS_ s0 v0 f0 r0 ++ wV_ v0 v_keys v_firsts v_ends v_values v_inferred v_gone cI cZ vk22 vf23 ve24 vv25 vi26 vg27 vm28 ++ wF_ f0 f_keys f_days f_amounts f_versions cI fkeys fdays famounts fversions fcount ++ wR_ r0 r_keys r_days r_values cI rkeys rdays rvalues rcount) hD hS hA [0, 1, 2, 3, 4, 5, 6, 7, 8, 9, 10, 11, 12, 13, 14, 15, 16, 17] rfl
          refine va_callv (va_runV (As := []) (rest := []) ⟨hx, hb, hml, hown, hts⟩ (c_X5_pointFacts l dC dI cI cZ cC cJ cD d0 s0 z0 b0 q0 t0 v0 f0 r0 v_keys v_firsts v_ends v_values v_inferred v_gone f_keys f_days f_amounts f_versions r_keys r_days r_values H31.size dhasSaved dkeptError dmoved vk22 vf23 ve24 vv25 vi26 vg27 vm28 fkeys fdays famounts fversions fcount rkeys rdays rvalues rcount ((dh33, dk34, dm35), (fk36, fd37, fa38, fv39, fc40)) g42) (cwV 0 hts gX5_remove_X5_pointFacts rfl rfl rfl hs_X5_pointFacts ⟨Nat.le_of_ble_eq_true rfl, Nat.le_of_ble_eq_true rfl⟩) (preV_ (ci := 7) (q0 := 0) hPc hK hDc rfl rfl rfl rfl) rfl rfl hl.1 rfl (lv_room (Nat.le_of_ble_eq_true rfl)) dX5_remove_78 ⟨Nat.le_of_ble_eq_true rfl, Nat.le_of_ble_eq_true rfl⟩) hS (fun q _ h => hFc q h) hFc (fun u t H43 locs ht hvm hw hB hz1 hk1 hS => ?_)
          obtain ⟨hP, hD⟩ := aft_ (Wr := []) (Wc' := wD_ d0 s0 z0 b0 q0 t0 dh33 dk34 dm35 ++ wS_ s0 v0 f0 r0 ++ wV_ v0 v_keys v_firsts v_ends v_values v_inferred v_gone cI cZ vk22 vf23 ve24 vv25 vi26 vg27 vm28 ++ wF_ f0 f_keys f_days f_amounts f_versions cI fk36 fd37 fa38 fv39 fc40 ++ wR_ r0 r_keys r_days r_values cI rkeys rdays rvalues rcount) (W2 := wD_ d0 s0 z0 b0 q0 t0 dh33 dk34 dm35 ++ wS_ s0 v0 f0 r0 ++ wV_ v0 v_keys v_firsts v_ends v_values v_inferred v_gone cI cZ vk22 vf23 ve24 vv25 vi26 vg27 vm28 ++ wF_ f0 f_keys f_days f_amounts f_versions cI fk36 fd37 fa38 fv39 fc40 ++ wR_ r0 r_keys r_days r_values cI rkeys rdays rvalues rcount) hP hD [0, 1, 2, 3, 4, 5, 6, 7, 8, 9, 10, 11, 12, 13, 14, 15, 16, 17] [] [0, 1, 2, 3, 4, 5, 6, 7, 8, 9, 10, 11, 12, 13, 14, 15, 16, 17] rfl rfl (by decide) (by decide) (by decide) hk1 hFc hB ht rfl
          refine lv_iload_n hx hb dX5_remove_81 rfl (lv_at hl 1 rfl) ?_
          have hR := Option.some.inj hf
          subst hR
          refine vx_ret (W.widen (k := 2) (n := 12) (Nat.le_of_ble_eq_true rfl) (Nat.le_of_ble_eq_true rfl) ?_)
          exact W.iret (v := r10) hx hb hr (fun t ht hW => ⟨⟨r10, (), rfl, rfl, by rw [ht]; exact hP, va_K.moved hW.alike hK, hD⟩, hS.F ht⟩) hS.2.2 dX5_remove_82
        · have hf := ite_T c21 hf
          refine lv_aload_n hx hb dX5_remove_51 rfl (lv_at hl 2 rfl) ?_
          refine va_get (D := (dC, dI)) (ci := 7) (v := .ref s0) (C := RX5) (T := TX5) (N := 8) hx hb hts inX5_ hown hK hP 0 rfl rfl 0 (by decide) fl10_ (fun _ h9 => h9) rfl dX5_remove_52 ?_
          refine va_get (D := (dC, dI)) (ci := 4) (v := .ref v0) (C := RX2) (T := TX2) (N := 3) hx hb hts inX2_ hown hK hP 1 rfl rfl 0 (by decide) fl51_ (fun _ h9 => h9) rfl dX5_remove_55 ?_
          refine lv_iload_n hx hb dX5_remove_58 rfl (lv_at hl 3 rfl) ?_
          obtain ⟨R52, g53, hf⟩ := bd_B hf
          obtain ⟨vk45, vf46, ve47, vv48, vi49, vg50, vm51⟩ := R52
          dsimp only at hf
          have hPc := hP.sub (ws' := wV_ v0 v_keys v_firsts v_ends v_values v_inferred v_gone cI cZ vkeys vfirsts vends vvalues vinferred vgone vmade) [2, 3, 4, 5, 6, 7, 8] rfl
          have hDc := hD.sub (ws' := wV_ v0 v_keys v_firsts v_ends v_values v_inferred v_gone cI cZ vkeys vfirsts vends vvalues vinferred vgone vmade) [2, 3, 4, 5, 6, 7, 8] (by decide) rfl
          have hFc := va_free (wc := wV_ v0 v_keys v_firsts v_ends v_values v_inferred v_gone cI cZ vkeys vfirsts vends vvalues vinferred vgone vmade) hD hS hA [2, 3, 4, 5, 6, 7, 8] rfl
          refine va_callv (va_runV (As := [.int a1]) (rest := []) ⟨hx, hb, hml, hown, hts⟩ (c_X4_drop l dC dI cI cZ cC cJ cD v0 v_keys v_firsts v_ends v_values v_inferred v_gone H18.size vkeys vfirsts vends vvalues vinferred vgone vmade a1 (vk45, vf46, ve47, vv48, vi49, vg50, vm51) g53) (cwV 1 hts gX5_remove_X4_drop rfl rfl rfl hs_X4_drop ⟨Nat.le_of_ble_eq_true rfl, Nat.le_of_ble_eq_true rfl⟩) (preV_ (ci := 6) (q0 := 0) hPc hK hDc rfl rfl rfl rfl) rfl rfl hl.1 rfl (lv_room (Nat.le_of_ble_eq_true rfl)) dX5_remove_59 ⟨Nat.le_of_ble_eq_true rfl, Nat.le_of_ble_eq_true rfl⟩) hS (fun q _ h => hFc q h) hFc (fun u t H54 locs ht hvm hw hB hz1 hk1 hS => ?_)
          obtain ⟨hP, hD⟩ := aft_ (Wr := wD_ d0 s0 z0 b0 q0 t0 dhasSaved dkeptError dmoved ++ wS_ s0 v0 f0 r0 ++ wF_ f0 f_keys f_days f_amounts f_versions cI fkeys fdays famounts fversions fcount ++ wR_ r0 r_keys r_days r_values cI rkeys rdays rvalues rcount) (Wc' := wV_ v0 v_keys v_firsts v_ends v_values v_inferred v_gone cI cZ vk45 vf46 ve47 vv48 vi49 vg50 vm51) (W2 := wD_ d0 s0 z0 b0 q0 t0 dhasSaved dkeptError dmoved ++ wS_ s0 v0 f0 r0 ++ wV_ v0 v_keys v_firsts v_ends v_values v_inferred v_gone cI cZ vk45 vf46 ve47 vv48 vi49 vg50 vm51 ++ wF_ f0 f_keys f_days f_amounts f_versions cI fkeys fdays famounts fversions fcount ++ wR_ r0 r_keys r_days r_values cI rkeys rdays rvalues rcount) hP hD [2, 3, 4, 5, 6, 7, 8] [0, 1, 9, 10, 11, 12, 13, 14, 15, 16, 17] [0, 1, 11, 12, 13, 14, 15, 16, 17, 2, 3, 4, 5, 6, 7, 8, 9, 10] rfl rfl (by decide) (by decide) (by decide) hk1 hFc hB ht rfl
          refine lv_goto (tgt := 77) hx hb dX5_remove_62 (by decide) ?_
          refine lv_aload_n hx hb dX5_remove_77 rfl (lv_at hl 2 rfl) ?_
          obtain ⟨R64, g65, hf⟩ := bd_B hf
          obtain ⟨⟨dh56, dk57, dm58⟩, ⟨fk59, fd60, fa61, fv62, fc63⟩⟩ := R64
          dsimp only at hf
          have hPc := hP
          have hDc := hD
          have hFc := va_free (wc := wD_ d0 s0 z0 b0 q0 t0 dhasSaved dkeptError dmoved ++ wS_ s0 v0 f0 r0 ++ wV_ v0 v_keys v_firsts v_ends v_values v_inferred v_gone cI cZ vk45 vf46 ve47 vv48 vi49 vg50 vm51 ++ wF_ f0 f_keys f_days f_amounts f_versions cI fkeys fdays famounts fversions fcount ++ wR_ r0 r_keys r_days r_values cI rkeys rdays rvalues rcount) hD hS hA [0, 1, 2, 3, 4, 5, 6, 7, 8, 9, 10, 11, 12, 13, 14, 15, 16, 17] rfl
          refine va_callv (va_runV (As := []) (rest := []) ⟨hx, hb, hml, hown, hts⟩ (c_X5_pointFacts l dC dI cI cZ cC cJ cD d0 s0 z0 b0 q0 t0 v0 f0 r0 v_keys v_firsts v_ends v_values v_inferred v_gone f_keys f_days f_amounts f_versions r_keys r_days r_values H54.size dhasSaved dkeptError dmoved vk45 vf46 ve47 vv48 vi49 vg50 vm51 fkeys fdays famounts fversions fcount rkeys rdays rvalues rcount ((dh56, dk57, dm58), (fk59, fd60, fa61, fv62, fc63)) g65) (cwV 0 hts gX5_remove_X5_pointFacts rfl rfl rfl hs_X5_pointFacts ⟨Nat.le_of_ble_eq_true rfl, Nat.le_of_ble_eq_true rfl⟩) (preV_ (ci := 7) (q0 := 0) hPc hK hDc rfl rfl rfl rfl) rfl rfl hl.1 rfl (lv_room (Nat.le_of_ble_eq_true rfl)) dX5_remove_78 ⟨Nat.le_of_ble_eq_true rfl, Nat.le_of_ble_eq_true rfl⟩) hS (fun q _ h => hFc q h) hFc (fun u t H66 locs ht hvm hw hB hz1 hk1 hS => ?_)
          obtain ⟨hP, hD⟩ := aft_ (Wr := []) (Wc' := wD_ d0 s0 z0 b0 q0 t0 dh56 dk57 dm58 ++ wS_ s0 v0 f0 r0 ++ wV_ v0 v_keys v_firsts v_ends v_values v_inferred v_gone cI cZ vk45 vf46 ve47 vv48 vi49 vg50 vm51 ++ wF_ f0 f_keys f_days f_amounts f_versions cI fk59 fd60 fa61 fv62 fc63 ++ wR_ r0 r_keys r_days r_values cI rkeys rdays rvalues rcount) (W2 := wD_ d0 s0 z0 b0 q0 t0 dh56 dk57 dm58 ++ wS_ s0 v0 f0 r0 ++ wV_ v0 v_keys v_firsts v_ends v_values v_inferred v_gone cI cZ vk45 vf46 ve47 vv48 vi49 vg50 vm51 ++ wF_ f0 f_keys f_days f_amounts f_versions cI fk59 fd60 fa61 fv62 fc63 ++ wR_ r0 r_keys r_days r_values cI rkeys rdays rvalues rcount) hP hD [0, 1, 2, 3, 4, 5, 6, 7, 8, 9, 10, 11, 12, 13, 14, 15, 16, 17] [] [0, 1, 2, 3, 4, 5, 6, 7, 8, 9, 10, 11, 12, 13, 14, 15, 16, 17] rfl rfl (by decide) (by decide) (by decide) hk1 hFc hB ht rfl
          refine lv_iload_n hx hb dX5_remove_81 rfl (lv_at hl 1 rfl) ?_
          have hR := Option.some.inj hf
          subst hR
          refine vx_ret (W.widen (k := 2) (n := 12) (Nat.le_of_ble_eq_true rfl) (Nat.le_of_ble_eq_true rfl) ?_)
          exact W.iret (v := r10) hx hb hr (fun t ht hW => ⟨⟨r10, (), rfl, rfl, by rw [ht]; exact hP, va_K.moved hW.alike hK, hD⟩, hS.F ht⟩) hS.2.2 dX5_remove_82
      · have hf := ite_F c20 hf
        refine lv_iload_n hx hb dX5_remove_33 rfl (lv_at hl 0 rfl) ?_
        refine lv_iconst (v := (-1)) hx hb dX5_remove_34 (by decide) ?_
        refine lv_icmp_ne (tgt := 46) hx hb dX5_remove_35 (by decide) (fun c68 => ?_) (fun c68 => ?_)
        · have hf := ite_F c68 hf
          refine lv_iload_n hx hb dX5_remove_46 rfl (lv_at hl 0 rfl) ?_
          refine lv_iconst (v := (-1)) hx hb dX5_remove_47 (by decide) ?_
          refine lv_icmp_ne (tgt := 65) hx hb dX5_remove_48 (by decide) (fun c69 => ?_) (fun c69 => ?_)
          · have hf := ite_F c69 hf
            refine lv_aload_n hx hb dX5_remove_65 rfl (lv_at hl 2 rfl) ?_
            refine va_get (D := (dC, dI)) (ci := 7) (v := .ref s0) (C := RX5) (T := TX5) (N := 8) hx hb hts inX5_ hown hK hP 0 rfl rfl 0 (by decide) fl10_ (fun _ h9 => h9) rfl dX5_remove_66 ?_
            refine va_get (D := (dC, dI)) (ci := 4) (v := .ref v0) (C := RX2) (T := TX2) (N := 3) hx hb hts inX2_ hown hK hP 1 rfl rfl 0 (by decide) fl51_ (fun _ h9 => h9) rfl dX5_remove_69 ?_
            refine lv_iload_n hx hb dX5_remove_72 rfl (lv_at hl 0 rfl) ?_
            refine lv_iload_n hx hb dX5_remove_73 rfl (lv_at hl 3 rfl) ?_
            obtain ⟨R77, g78, hf⟩ := bd_B hf
            obtain ⟨vk70, vf71, ve72, vv73, vi74, vg75, vm76⟩ := R77
            dsimp only at hf
            have hPc := hP.sub (ws' := wV_ v0 v_keys v_firsts v_ends v_values v_inferred v_gone cI cZ vkeys vfirsts vends vvalues vinferred vgone vmade) [2, 3, 4, 5, 6, 7, 8] rfl
            have hDc := hD.sub (ws' := wV_ v0 v_keys v_firsts v_ends v_values v_inferred v_gone cI cZ vkeys vfirsts vends vvalues vinferred vgone vmade) [2, 3, 4, 5, 6, 7, 8] (by decide) rfl
            have hFc := va_free (wc := wV_ v0 v_keys v_firsts v_ends v_values v_inferred v_gone cI cZ vkeys vfirsts vends vvalues vinferred vgone vmade) hD hS hA [2, 3, 4, 5, 6, 7, 8] rfl
            refine va_callv (va_runV (As := [.int r15, .int a1]) (rest := []) ⟨hx, hb, hml, hown, hts⟩ (c_X4_merge l dC dI cI cZ cC cJ cD v0 v_keys v_firsts v_ends v_values v_inferred v_gone H18.size vkeys vfirsts vends vvalues vinferred vgone vmade r15 a1 (vk70, vf71, ve72, vv73, vi74, vg75, vm76) g78) (cwV 2 hts gX5_remove_X4_merge rfl rfl rfl hs_X4_merge ⟨Nat.le_of_ble_eq_true rfl, Nat.le_of_ble_eq_true rfl⟩) (preV_ (ci := 6) (q0 := 0) hPc hK hDc rfl rfl rfl rfl) rfl rfl hl.1 rfl (lv_room (Nat.le_of_ble_eq_true rfl)) dX5_remove_74 ⟨Nat.le_of_ble_eq_true rfl, Nat.le_of_ble_eq_true rfl⟩) hS (fun q _ h => hFc q h) hFc (fun u t H79 locs ht hvm hw hB hz1 hk1 hS => ?_)
            obtain ⟨hP, hD⟩ := aft_ (Wr := wD_ d0 s0 z0 b0 q0 t0 dhasSaved dkeptError dmoved ++ wS_ s0 v0 f0 r0 ++ wF_ f0 f_keys f_days f_amounts f_versions cI fkeys fdays famounts fversions fcount ++ wR_ r0 r_keys r_days r_values cI rkeys rdays rvalues rcount) (Wc' := wV_ v0 v_keys v_firsts v_ends v_values v_inferred v_gone cI cZ vk70 vf71 ve72 vv73 vi74 vg75 vm76) (W2 := wD_ d0 s0 z0 b0 q0 t0 dhasSaved dkeptError dmoved ++ wS_ s0 v0 f0 r0 ++ wV_ v0 v_keys v_firsts v_ends v_values v_inferred v_gone cI cZ vk70 vf71 ve72 vv73 vi74 vg75 vm76 ++ wF_ f0 f_keys f_days f_amounts f_versions cI fkeys fdays famounts fversions fcount ++ wR_ r0 r_keys r_days r_values cI rkeys rdays rvalues rcount) hP hD [2, 3, 4, 5, 6, 7, 8] [0, 1, 9, 10, 11, 12, 13, 14, 15, 16, 17] [0, 1, 11, 12, 13, 14, 15, 16, 17, 2, 3, 4, 5, 6, 7, 8, 9, 10] rfl rfl (by decide) (by decide) (by decide) hk1 hFc hB ht rfl
            refine lv_aload_n hx hb dX5_remove_77 rfl (lv_at hl 2 rfl) ?_
            obtain ⟨R89, g90, hf⟩ := bd_B hf
            obtain ⟨⟨dh81, dk82, dm83⟩, ⟨fk84, fd85, fa86, fv87, fc88⟩⟩ := R89
            dsimp only at hf
            have hPc := hP
            have hDc := hD
            have hFc := va_free (wc := wD_ d0 s0 z0 b0 q0 t0 dhasSaved dkeptError dmoved ++ wS_ s0 v0 f0 r0 ++ wV_ v0 v_keys v_firsts v_ends v_values v_inferred v_gone cI cZ vk70 vf71 ve72 vv73 vi74 vg75 vm76 ++ wF_ f0 f_keys f_days f_amounts f_versions cI fkeys fdays famounts fversions fcount ++ wR_ r0 r_keys r_days r_values cI rkeys rdays rvalues rcount) hD hS hA [0, 1, 2, 3, 4, 5, 6, 7, 8, 9, 10, 11, 12, 13, 14, 15, 16, 17] rfl
            refine va_callv (va_runV (As := []) (rest := []) ⟨hx, hb, hml, hown, hts⟩ (c_X5_pointFacts l dC dI cI cZ cC cJ cD d0 s0 z0 b0 q0 t0 v0 f0 r0 v_keys v_firsts v_ends v_values v_inferred v_gone f_keys f_days f_amounts f_versions r_keys r_days r_values H79.size dhasSaved dkeptError dmoved vk70 vf71 ve72 vv73 vi74 vg75 vm76 fkeys fdays famounts fversions fcount rkeys rdays rvalues rcount ((dh81, dk82, dm83), (fk84, fd85, fa86, fv87, fc88)) g90) (cwV 0 hts gX5_remove_X5_pointFacts rfl rfl rfl hs_X5_pointFacts ⟨Nat.le_of_ble_eq_true rfl, Nat.le_of_ble_eq_true rfl⟩) (preV_ (ci := 7) (q0 := 0) hPc hK hDc rfl rfl rfl rfl) rfl rfl hl.1 rfl (lv_room (Nat.le_of_ble_eq_true rfl)) dX5_remove_78 ⟨Nat.le_of_ble_eq_true rfl, Nat.le_of_ble_eq_true rfl⟩) hS (fun q _ h => hFc q h) hFc (fun u t H91 locs ht hvm hw hB hz1 hk1 hS => ?_)
            obtain ⟨hP, hD⟩ := aft_ (Wr := []) (Wc' := wD_ d0 s0 z0 b0 q0 t0 dh81 dk82 dm83 ++ wS_ s0 v0 f0 r0 ++ wV_ v0 v_keys v_firsts v_ends v_values v_inferred v_gone cI cZ vk70 vf71 ve72 vv73 vi74 vg75 vm76 ++ wF_ f0 f_keys f_days f_amounts f_versions cI fk84 fd85 fa86 fv87 fc88 ++ wR_ r0 r_keys r_days r_values cI rkeys rdays rvalues rcount) (W2 := wD_ d0 s0 z0 b0 q0 t0 dh81 dk82 dm83 ++ wS_ s0 v0 f0 r0 ++ wV_ v0 v_keys v_firsts v_ends v_values v_inferred v_gone cI cZ vk70 vf71 ve72 vv73 vi74 vg75 vm76 ++ wF_ f0 f_keys f_days f_amounts f_versions cI fk84 fd85 fa86 fv87 fc88 ++ wR_ r0 r_keys r_days r_values cI rkeys rdays rvalues rcount) hP hD [0, 1, 2, 3, 4, 5, 6, 7, 8, 9, 10, 11, 12, 13, 14, 15, 16, 17] [] [0, 1, 2, 3, 4, 5, 6, 7, 8, 9, 10, 11, 12, 13, 14, 15, 16, 17] rfl rfl (by decide) (by decide) (by decide) hk1 hFc hB ht rfl
            refine lv_iload_n hx hb dX5_remove_81 rfl (lv_at hl 1 rfl) ?_
            have hR := Option.some.inj hf
            subst hR
            refine vx_ret (W.widen (k := 2) (n := 12) (Nat.le_of_ble_eq_true rfl) (Nat.le_of_ble_eq_true rfl) ?_)
            exact W.iret (v := r10) hx hb hr (fun t ht hW => ⟨⟨r10, (), rfl, rfl, by rw [ht]; exact hP, va_K.moved hW.alike hK, hD⟩, hS.F ht⟩) hS.2.2 dX5_remove_82
          · have hf := ite_T c69 hf
            refine lv_aload_n hx hb dX5_remove_51 rfl (lv_at hl 2 rfl) ?_
            refine va_get (D := (dC, dI)) (ci := 7) (v := .ref s0) (C := RX5) (T := TX5) (N := 8) hx hb hts inX5_ hown hK hP 0 rfl rfl 0 (by decide) fl10_ (fun _ h9 => h9) rfl dX5_remove_52 ?_
            refine va_get (D := (dC, dI)) (ci := 4) (v := .ref v0) (C := RX2) (T := TX2) (N := 3) hx hb hts inX2_ hown hK hP 1 rfl rfl 0 (by decide) fl51_ (fun _ h9 => h9) rfl dX5_remove_55 ?_
            refine lv_iload_n hx hb dX5_remove_58 rfl (lv_at hl 3 rfl) ?_
            obtain ⟨R100, g101, hf⟩ := bd_B hf
            obtain ⟨vk93, vf94, ve95, vv96, vi97, vg98, vm99⟩ := R100
            dsimp only at hf
            have hPc := hP.sub (ws' := wV_ v0 v_keys v_firsts v_ends v_values v_inferred v_gone cI cZ vkeys vfirsts vends vvalues vinferred vgone vmade) [2, 3, 4, 5, 6, 7, 8] rfl
            have hDc := hD.sub (ws' := wV_ v0 v_keys v_firsts v_ends v_values v_inferred v_gone cI cZ vkeys vfirsts vends vvalues vinferred vgone vmade) [2, 3, 4, 5, 6, 7, 8] (by decide) rfl
            have hFc := va_free (wc := wV_ v0 v_keys v_firsts v_ends v_values v_inferred v_gone cI cZ vkeys vfirsts vends vvalues vinferred vgone vmade) hD hS hA [2, 3, 4, 5, 6, 7, 8] rfl
            refine va_callv (va_runV (As := [.int a1]) (rest := []) ⟨hx, hb, hml, hown, hts⟩ (c_X4_drop l dC dI cI cZ cC cJ cD v0 v_keys v_firsts v_ends v_values v_inferred v_gone H18.size vkeys vfirsts vends vvalues vinferred vgone vmade a1 (vk93, vf94, ve95, vv96, vi97, vg98, vm99) g101) (cwV 1 hts gX5_remove_X4_drop rfl rfl rfl hs_X4_drop ⟨Nat.le_of_ble_eq_true rfl, Nat.le_of_ble_eq_true rfl⟩) (preV_ (ci := 6) (q0 := 0) hPc hK hDc rfl rfl rfl rfl) rfl rfl hl.1 rfl (lv_room (Nat.le_of_ble_eq_true rfl)) dX5_remove_59 ⟨Nat.le_of_ble_eq_true rfl, Nat.le_of_ble_eq_true rfl⟩) hS (fun q _ h => hFc q h) hFc (fun u t H102 locs ht hvm hw hB hz1 hk1 hS => ?_)
            obtain ⟨hP, hD⟩ := aft_ (Wr := wD_ d0 s0 z0 b0 q0 t0 dhasSaved dkeptError dmoved ++ wS_ s0 v0 f0 r0 ++ wF_ f0 f_keys f_days f_amounts f_versions cI fkeys fdays famounts fversions fcount ++ wR_ r0 r_keys r_days r_values cI rkeys rdays rvalues rcount) (Wc' := wV_ v0 v_keys v_firsts v_ends v_values v_inferred v_gone cI cZ vk93 vf94 ve95 vv96 vi97 vg98 vm99) (W2 := wD_ d0 s0 z0 b0 q0 t0 dhasSaved dkeptError dmoved ++ wS_ s0 v0 f0 r0 ++ wV_ v0 v_keys v_firsts v_ends v_values v_inferred v_gone cI cZ vk93 vf94 ve95 vv96 vi97 vg98 vm99 ++ wF_ f0 f_keys f_days f_amounts f_versions cI fkeys fdays famounts fversions fcount ++ wR_ r0 r_keys r_days r_values cI rkeys rdays rvalues rcount) hP hD [2, 3, 4, 5, 6, 7, 8] [0, 1, 9, 10, 11, 12, 13, 14, 15, 16, 17] [0, 1, 11, 12, 13, 14, 15, 16, 17, 2, 3, 4, 5, 6, 7, 8, 9, 10] rfl rfl (by decide) (by decide) (by decide) hk1 hFc hB ht rfl
            refine lv_goto (tgt := 77) hx hb dX5_remove_62 (by decide) ?_
            refine lv_aload_n hx hb dX5_remove_77 rfl (lv_at hl 2 rfl) ?_
            obtain ⟨R112, g113, hf⟩ := bd_B hf
            obtain ⟨⟨dh104, dk105, dm106⟩, ⟨fk107, fd108, fa109, fv110, fc111⟩⟩ := R112
            dsimp only at hf
            have hPc := hP
            have hDc := hD
            have hFc := va_free (wc := wD_ d0 s0 z0 b0 q0 t0 dhasSaved dkeptError dmoved ++ wS_ s0 v0 f0 r0 ++ wV_ v0 v_keys v_firsts v_ends v_values v_inferred v_gone cI cZ vk93 vf94 ve95 vv96 vi97 vg98 vm99 ++ wF_ f0 f_keys f_days f_amounts f_versions cI fkeys fdays famounts fversions fcount ++ wR_ r0 r_keys r_days r_values cI rkeys rdays rvalues rcount) hD hS hA [0, 1, 2, 3, 4, 5, 6, 7, 8, 9, 10, 11, 12, 13, 14, 15, 16, 17] rfl
            refine va_callv (va_runV (As := []) (rest := []) ⟨hx, hb, hml, hown, hts⟩ (c_X5_pointFacts l dC dI cI cZ cC cJ cD d0 s0 z0 b0 q0 t0 v0 f0 r0 v_keys v_firsts v_ends v_values v_inferred v_gone f_keys f_days f_amounts f_versions r_keys r_days r_values H102.size dhasSaved dkeptError dmoved vk93 vf94 ve95 vv96 vi97 vg98 vm99 fkeys fdays famounts fversions fcount rkeys rdays rvalues rcount ((dh104, dk105, dm106), (fk107, fd108, fa109, fv110, fc111)) g113) (cwV 0 hts gX5_remove_X5_pointFacts rfl rfl rfl hs_X5_pointFacts ⟨Nat.le_of_ble_eq_true rfl, Nat.le_of_ble_eq_true rfl⟩) (preV_ (ci := 7) (q0 := 0) hPc hK hDc rfl rfl rfl rfl) rfl rfl hl.1 rfl (lv_room (Nat.le_of_ble_eq_true rfl)) dX5_remove_78 ⟨Nat.le_of_ble_eq_true rfl, Nat.le_of_ble_eq_true rfl⟩) hS (fun q _ h => hFc q h) hFc (fun u t H114 locs ht hvm hw hB hz1 hk1 hS => ?_)
            obtain ⟨hP, hD⟩ := aft_ (Wr := []) (Wc' := wD_ d0 s0 z0 b0 q0 t0 dh104 dk105 dm106 ++ wS_ s0 v0 f0 r0 ++ wV_ v0 v_keys v_firsts v_ends v_values v_inferred v_gone cI cZ vk93 vf94 ve95 vv96 vi97 vg98 vm99 ++ wF_ f0 f_keys f_days f_amounts f_versions cI fk107 fd108 fa109 fv110 fc111 ++ wR_ r0 r_keys r_days r_values cI rkeys rdays rvalues rcount) (W2 := wD_ d0 s0 z0 b0 q0 t0 dh104 dk105 dm106 ++ wS_ s0 v0 f0 r0 ++ wV_ v0 v_keys v_firsts v_ends v_values v_inferred v_gone cI cZ vk93 vf94 ve95 vv96 vi97 vg98 vm99 ++ wF_ f0 f_keys f_days f_amounts f_versions cI fk107 fd108 fa109 fv110 fc111 ++ wR_ r0 r_keys r_days r_values cI rkeys rdays rvalues rcount) hP hD [0, 1, 2, 3, 4, 5, 6, 7, 8, 9, 10, 11, 12, 13, 14, 15, 16, 17] [] [0, 1, 2, 3, 4, 5, 6, 7, 8, 9, 10, 11, 12, 13, 14, 15, 16, 17] rfl rfl (by decide) (by decide) (by decide) hk1 hFc hB ht rfl
            refine lv_iload_n hx hb dX5_remove_81 rfl (lv_at hl 1 rfl) ?_
            have hR := Option.some.inj hf
            subst hR
            refine vx_ret (W.widen (k := 2) (n := 12) (Nat.le_of_ble_eq_true rfl) (Nat.le_of_ble_eq_true rfl) ?_)
            exact W.iret (v := r10) hx hb hr (fun t ht hW => ⟨⟨r10, (), rfl, rfl, by rw [ht]; exact hP, va_K.moved hW.alike hK, hD⟩, hS.F ht⟩) hS.2.2 dX5_remove_82
        · have hf := ite_T c68 hf
          have hR := Option.some.inj hf
          subst hR
          exact vx_throw0 (names := ["java/lang/RuntimeException", "java/lang/Exception"]) hx hb hst hown (by decide +kernel) (by decide +kernel) (hts _ (List.mem_of_getElem? (i := 1) rfl)) (hts _ (List.mem_of_getElem? (i := 2) rfl)) (vx_hat (fun w h => hts w (at_X5_remove_60 w h)) (atn_0 "java/lang/IllegalStateException" (by decide +kernel) 60 (by decide)) (hC.words (by decide +kernel))) at_X5_remove_60g hU hN hS (hl.1.trans hml.symm) dX5_remove_38 dX5_remove_41 dX5_remove_42 dX5_remove_45 (fun x h => (htab x h).elim) (Nat.le_of_ble_eq_true rfl) (Nat.le_of_ble_eq_true rfl) (Nat.le_of_ble_eq_true rfl) (Nat.le_of_ble_eq_true rfl) hlocks (thr_ hS hP hK hD rfl) hS.2.2 (Nat.le_of_ble_eq_true rfl) (Nat.le_of_ble_eq_true rfl)
theorem hs_X5_remove : yX5_remove.cls = RX5 ∧ yX5_remove.cls ≠ "java/lang/invoke/MethodHandle" ∧ yX5_remove.cls ≠ "java/lang/invoke/VarHandle" ∧ (parseMethodDescriptor yX5_remove.desc).map (fun d => d.parameters.length) = some 1 := by decide +kernel
set_option maxRecDepth 20000 in
theorem in_X5_join_X2 : ∀ w ∈ wsX20, w ∈ wsX5_join := by decide +kernel
set_option maxRecDepth 20000 in
theorem in_X5_join_X5 : ∀ w ∈ wsX50, w ∈ wsX5_join := by decide +kernel
def f_X5_join (a1 : Int32) (D_ : tD_) (S_ : tS_) (V_ : tV_) (F_ : tF_) (R_ : tR_) : Option (Except String Int32 × tD_ × tV_ × tF_) :=
match D_ with
| (dhasSaved, dkeptError, dmoved) =>
match V_ with
| (vkeys, vfirsts, vends, vvalues, vinferred, vgone, vmade) =>
match F_ with
| (fkeys, fdays, famounts, fversions, fcount) =>
match R_ with
| (rkeys, rdays, rvalues, rcount) =>
bd_ (f_X5_checkKey a1) (fun x1 =>
match x1 with
| Except.error E9 => some (Except.error E9, (dhasSaved, dkeptError, dmoved), (vkeys, vfirsts, vends, vvalues, vinferred, vgone, vmade), (fkeys, fdays, famounts, fversions, fcount))
| Except.ok v2 =>
bd_ (f_X4_joinAlike a1 (vkeys, vfirsts, vends, vvalues, vinferred, vgone, vmade)) (fun (r10, (vk11, vf12, ve13, vv14, vi15, vg16, vm17)) =>
bd_ (f_X5_pointFacts (dhasSaved, dkeptError, dmoved) () (vk11, vf12, ve13, vv14, vi15, vg16, vm17) (fkeys, fdays, famounts, fversions, fcount) (rkeys, rdays, rvalues, rcount)) (fun ((dh22, dk23, dm24), (fk25, fd26, fa27, fv28, fc29)) =>
some (Except.ok r10, (dh22, dk23, dm24), (vk11, vf12, ve13, vv14, vi15, vg16, vm17), (fk25, fd26, fa27, fv28, fc29)))))
abbrev rm_X5_join : Room := { frames := 7, cells := 1, slots := 6, locals := 110 }
set_option maxHeartbeats 4000000 in
set_option maxRecDepth 100000 in
theorem c_X5_join (l : Launch) (dC : Nat → ClassId) (dI : Nat → Nat → Nat) (cI cZ cC cJ cD : ClassId) (hst : l.stackTraces = false) (d0 s0 z0 b0 q0 t0 v0 f0 r0 v_keys v_firsts v_ends v_values v_inferred v_gone f_keys f_days f_amounts f_versions r_keys r_days r_values : Nat) (sz : Nat) (dhasSaved : Int32) (dkeptError : Int32) (dmoved : Int32) (vkeys : Nat → Int32) (vfirsts : Nat → Int32) (vends : Nat → Int32) (vvalues : Nat → Int32) (vinferred : Nat → Int32) (vgone : Nat → Int32) (vmade : Int32) (fkeys : Nat → Int32) (fdays : Nat → Int32) (famounts : Nat → Int32) (fversions : Nat → Int32) (fcount : Int32) (rkeys : Nat → Int32) (rdays : Nat → Int32) (rvalues : Nat → Int32) (rcount : Int32) (a1 : Int32) (R : Except String Int32 × tD_ × tV_ × tF_) (hf : f_X5_join a1 (dhasSaved, dkeptError, dmoved) () (vkeys, vfirsts, vends, vvalues, vinferred, vgone, vmade) (fkeys, fdays, famounts, fversions, fcount) (rkeys, rdays, rvalues, rcount) = some R) : vx_Met l yX5_join wsX5_join rm_X5_join (Py_ (dC, dI) (ty_ cI cZ cC cJ cD) (wD_ d0 s0 z0 b0 q0 t0 dhasSaved dkeptError dmoved ++ wS_ s0 v0 f0 r0 ++ wV_ v0 v_keys v_firsts v_ends v_values v_inferred v_gone cI cZ vkeys vfirsts vends vvalues vinferred vgone vmade ++ wF_ f0 f_keys f_days f_amounts f_versions cI fkeys fdays famounts fversions fcount ++ wR_ r0 r_keys r_days r_values cI rkeys rdays rvalues rcount) sz [.ref d0, .int a1]) (Xi_ (dC, dI) (ty_ cI cZ cC cJ cD) R.1 (wD_ d0 s0 z0 b0 q0 t0 R.2.1.1 R.2.1.2.1 R.2.1.2.2 ++ wS_ s0 v0 f0 r0 ++ wV_ v0 v_keys v_firsts v_ends v_values v_inferred v_gone cI cZ R.2.2.1.1 R.2.2.1.2.1 R.2.2.1.2.2.1 R.2.2.1.2.2.2.1 R.2.2.1.2.2.2.2.1 R.2.2.1.2.2.2.2.2.1 R.2.2.1.2.2.2.2.2.2 ++ wF_ f0 f_keys f_days f_amounts f_versions cI R.2.2.2.1 R.2.2.2.2.1 R.2.2.2.2.2.1 R.2.2.2.2.2.2.1 R.2.2.2.2.2.2.2 ++ wR_ r0 r_keys r_days r_values cI rkeys rdays rvalues rcount) (va_A (wD_ d0 s0 z0 b0 q0 t0 dhasSaved dkeptError dmoved ++ wS_ s0 v0 f0 r0 ++ wV_ v0 v_keys v_firsts v_ends v_values v_inferred v_gone cI cZ vkeys vfirsts vends vvalues vinferred vgone vmade ++ wF_ f0 f_keys f_days f_amounts f_versions cI fkeys fdays famounts fversions fcount ++ wR_ r0 r_keys r_days r_values cI rkeys rdays rvalues rcount) sz)) (XX_ (dC, dI) (ty_ cI cZ cC cJ cD) R.1 (wD_ d0 s0 z0 b0 q0 t0 R.2.1.1 R.2.1.2.1 R.2.1.2.2 ++ wS_ s0 v0 f0 r0 ++ wV_ v0 v_keys v_firsts v_ends v_values v_inferred v_gone cI cZ R.2.2.1.1 R.2.2.1.2.1 R.2.2.1.2.2.1 R.2.2.1.2.2.2.1 R.2.2.1.2.2.2.2.1 R.2.2.1.2.2.2.2.2.1 R.2.2.1.2.2.2.2.2.2 ++ wF_ f0 f_keys f_days f_amounts f_versions cI R.2.2.2.1 R.2.2.2.2.1 R.2.2.2.2.2.1 R.2.2.2.2.2.2.1 R.2.2.2.2.2.2.2 ++ wR_ r0 r_keys r_days r_values cI rkeys rdays rvalues rcount) (va_A (wD_ d0 s0 z0 b0 q0 t0 dhasSaved dkeptError dmoved ++ wS_ s0 v0 f0 r0 ++ wV_ v0 v_keys v_firsts v_ends v_values v_inferred v_gone cI cZ vkeys vfirsts vends vvalues vinferred vgone vmade ++ wF_ f0 f_keys f_days f_amounts f_versions cI fkeys fdays famounts fversions fcount ++ wR_ r0 r_keys r_days r_values cI rkeys rdays rvalues rcount) sz)) 1 6 (va_A (wD_ d0 s0 z0 b0 q0 t0 dhasSaved dkeptError dmoved ++ wS_ s0 v0 f0 r0 ++ wV_ v0 v_keys v_firsts v_ends v_values v_inferred v_gone cI cZ vkeys vfirsts vends vvalues vinferred vgone vmade ++ wF_ f0 f_keys f_days f_amounts f_versions cI fkeys fdays famounts fversions fcount ++ wR_ r0 r_keys r_days r_values cI rkeys rdays rvalues rcount) sz) := by
  refine mety_ (cc := cX5_join) (maxL := 3) (ret := (some .int)) (Qcf := fun A => Xi_ (dC, dI) (ty_ cI cZ cC cJ cD) R.1 (wD_ d0 s0 z0 b0 q0 t0 R.2.1.1 R.2.1.2.1 R.2.1.2.2 ++ wS_ s0 v0 f0 r0 ++ wV_ v0 v_keys v_firsts v_ends v_values v_inferred v_gone cI cZ R.2.2.1.1 R.2.2.1.2.1 R.2.2.1.2.2.1 R.2.2.1.2.2.2.1 R.2.2.1.2.2.2.2.1 R.2.2.1.2.2.2.2.2.1 R.2.2.1.2.2.2.2.2.2 ++ wF_ f0 f_keys f_days f_amounts f_versions cI R.2.2.2.1 R.2.2.2.2.1 R.2.2.2.2.2.1 R.2.2.2.2.2.2.1 R.2.2.2.2.2.2.2 ++ wR_ r0 r_keys r_days r_values cI rkeys rdays rvalues rcount) A) (XCf := fun A => XX_ (dC, dI) (ty_ cI cZ cC cJ cD) R.1 (wD_ d0 s0 z0 b0 q0 t0 R.2.1.1 R.2.1.2.1 R.2.1.2.2 ++ wS_ s0 v0 f0 r0 ++ wV_ v0 v_keys v_firsts v_ends v_values v_inferred v_gone cI cZ R.2.2.1.1 R.2.2.1.2.1 R.2.2.1.2.2.1 R.2.2.1.2.2.2.1 R.2.2.1.2.2.2.2.1 R.2.2.1.2.2.2.2.2.1 R.2.2.1.2.2.2.2.2.2 ++ wF_ f0 f_keys f_days f_amounts f_versions cI R.2.2.2.1 R.2.2.2.2.1 R.2.2.2.2.2.1 R.2.2.2.2.2.2.1 R.2.2.2.2.2.2.2 ++ wR_ r0 r_keys r_days r_values cI rkeys rdays rvalues rcount) A) (by decide) rfl (Nat.le_of_ble_eq_true rfl) ?_
  intro p e s m args below meth c A ls hx hb hr hts hown hlocks hml htab hA hU hN hC hP hK hD hl
  have hown : s.vm.findClass RX5 = some m.cls := hown
  have hl : lv_has ls 3 [(0, .ref d0), (1, .int a1)] := hl
  have hS : va_S A s.heap s.heap [] := va_S.rf
  have fl10_ : (Cond.fieldLink RX5 10 "DimensionLoader" "live" "LDimensionLoader$Store;").before args s = true := hts _ (List.mem_of_getElem? (i := 1) rfl)
  have fl51_ : (Cond.fieldLink RX5 51 "DimensionLoader$Store" "versions" "LDimensionLoader$Versions;").before args s = true := hts _ (List.mem_of_getElem? (i := 2) rfl)
  have inX2_ : ∀ w ∈ wsX20, w ∈ wsX5_join := in_X5_join_X2
  have inX5_ : ∀ w ∈ wsX50, w ∈ wsX5_join := in_X5_join_X5
  unfold f_X5_join at hf
  dsimp only at hf
  refine lv_iload_n hx hb dX5_join_0 rfl (lv_at hl 1 rfl) ?_
  obtain ⟨R3, g4, hf⟩ := bd_B hf
  obtain ⟨x1, rfl⟩ : ∃ z, z = R3 := ⟨_, rfl⟩
  have hPc := hP.sub (ws' := []) [] rfl
  have hDc := hD.sub (ws' := []) [] (by decide) rfl
  have hFc := va_free (wc := []) hD hS hA [] rfl
  cases x1 with
  | error E9 =>
    have hR := Option.some.inj hf
    subst hR
    refine vx_callv (vx_runS (As := [.int a1]) (rest := []) ⟨hx, hb, hml, hown, hts⟩ (c_X5_checkKey l dC dI cI cZ cC cJ cD hst s.heap.size a1 (Except.error E9) g4) (cwS 1 hts gX5_join_X5_checkKey rfl rfl rfl hs_X5_checkKey ⟨Nat.le_of_ble_eq_true rfl, Nat.le_of_ble_eq_true rfl⟩) (preSy_ hPc hK hDc rfl hS hU hN hFc hC) rfl rfl hl.1 rfl (lv_room (Nat.le_of_ble_eq_true rfl)) dX5_join_1 ⟨Nat.le_of_ble_eq_true rfl, Nat.le_of_ble_eq_true rfl⟩) hS (fun q _ h => hFc q h) hFc (fun q _ h => hFc q h) (fun E ce q9 u t H7 locs ht hvm hp hB hz1 hk1 hS hce hcv hcl => ?_) (fun u t H7 locs ht hvm hw hB hz1 hk1 hS => ?_)
    · obtain ⟨hE, hB⟩ := hB
      cases hE
      obtain ⟨hP, hD⟩ := aft_ (Wr := wD_ d0 s0 z0 b0 q0 t0 dhasSaved dkeptError dmoved ++ wS_ s0 v0 f0 r0 ++ wV_ v0 v_keys v_firsts v_ends v_values v_inferred v_gone cI cZ vkeys vfirsts vends vvalues vinferred vgone vmade ++ wF_ f0 f_keys f_days f_amounts f_versions cI fkeys fdays famounts fversions fcount ++ wR_ r0 r_keys r_days r_values cI rkeys rdays rvalues rcount) (Wc' := []) (W2 := wD_ d0 s0 z0 b0 q0 t0 dhasSaved dkeptError dmoved ++ wS_ s0 v0 f0 r0 ++ wV_ v0 v_keys v_firsts v_ends v_values v_inferred v_gone cI cZ vkeys vfirsts vends vvalues vinferred vgone vmade ++ wF_ f0 f_keys f_days f_amounts f_versions cI fkeys fdays famounts fversions fcount ++ wR_ r0 r_keys r_days r_values cI rkeys rdays rvalues rcount) hP hD [] [0, 1, 2, 3, 4, 5, 6, 7, 8, 9, 10, 11, 12, 13, 14, 15, 16, 17] [0, 1, 2, 3, 4, 5, 6, 7, 8, 9, 10, 11, 12, 13, 14, 15, 16, 17] rfl rfl (by decide) (by decide) (by decide) hk1 hFc hB ht rfl
      exact vx_out (fun x h => (htab x h).elim) hlocks hce hcv hcl (thr2_ hS hP hK hD rfl) hS.2.2 (Nat.le_of_ble_eq_true rfl) (Nat.le_of_ble_eq_true rfl)
    · exact absurd hw (fun h => nomatch h)
  | ok v2 =>
    refine vx_callv (vx_runS (As := [.int a1]) (rest := []) ⟨hx, hb, hml, hown, hts⟩ (c_X5_checkKey l dC dI cI cZ cC cJ cD hst s.heap.size a1 (Except.ok ()) g4) (cwS 1 hts gX5_join_X5_checkKey rfl rfl rfl hs_X5_checkKey ⟨Nat.le_of_ble_eq_true rfl, Nat.le_of_ble_eq_true rfl⟩) (preSy_ hPc hK hDc rfl hS hU hN hFc hC) rfl rfl hl.1 rfl (lv_room (Nat.le_of_ble_eq_true rfl)) dX5_join_1 ⟨Nat.le_of_ble_eq_true rfl, Nat.le_of_ble_eq_true rfl⟩) hS (fun q _ h => hFc q h) hFc (fun q _ h => hFc q h) (fun E ce q9 u t H7 locs ht hvm hp hB hz1 hk1 hS hce hcv hcl => ?_) (fun u t H7 locs ht hvm hw hB hz1 hk1 hS => ?_)
    · exact absurd hB.1 (fun h => nomatch h)
    · obtain ⟨hP, hD⟩ := aft_ (Wr := wD_ d0 s0 z0 b0 q0 t0 dhasSaved dkeptError dmoved ++ wS_ s0 v0 f0 r0 ++ wV_ v0 v_keys v_firsts v_ends v_values v_inferred v_gone cI cZ vkeys vfirsts vends vvalues vinferred vgone vmade ++ wF_ f0 f_keys f_days f_amounts f_versions cI fkeys fdays famounts fversions fcount ++ wR_ r0 r_keys r_days r_values cI rkeys rdays rvalues rcount) (Wc' := []) (W2 := wD_ d0 s0 z0 b0 q0 t0 dhasSaved dkeptError dmoved ++ wS_ s0 v0 f0 r0 ++ wV_ v0 v_keys v_firsts v_ends v_values v_inferred v_gone cI cZ vkeys vfirsts vends vvalues vinferred vgone vmade ++ wF_ f0 f_keys f_days f_amounts f_versions cI fkeys fdays famounts fversions fcount ++ wR_ r0 r_keys r_days r_values cI rkeys rdays rvalues rcount) hP hD [] [0, 1, 2, 3, 4, 5, 6, 7, 8, 9, 10, 11, 12, 13, 14, 15, 16, 17] [0, 1, 2, 3, 4, 5, 6, 7, 8, 9, 10, 11, 12, 13, 14, 15, 16, 17] rfl rfl (by decide) (by decide) (by decide) hk1 hFc hB ht rfl
      refine lv_aload_n hx hb dX5_join_4 rfl (lv_at hl 0 rfl) ?_
      refine va_get (D := (dC, dI)) (ci := 7) (v := .ref s0) (C := RX5) (T := TX5) (N := 8) hx hb hts inX5_ hown hK hP 0 rfl rfl 0 (by decide) fl10_ (fun _ h9 => h9) rfl dX5_join_5 ?_
      refine va_get (D := (dC, dI)) (ci := 4) (v := .ref v0) (C := RX2) (T := TX2) (N := 3) hx hb hts inX2_ hown hK hP 1 rfl rfl 0 (by decide) fl51_ (fun _ h9 => h9) rfl dX5_join_8 ?_
      refine lv_iload_n hx hb dX5_join_11 rfl (lv_at hl 1 rfl) ?_
      obtain ⟨R18, g19, hf⟩ := bd_B hf
      obtain ⟨r10, ⟨vk11, vf12, ve13, vv14, vi15, vg16, vm17⟩⟩ := R18
      dsimp only at hf
      have hPc := hP.sub (ws' := wV_ v0 v_keys v_firsts v_ends v_values v_inferred v_gone cI cZ vkeys vfirsts vends vvalues vinferred vgone vmade) [2, 3, 4, 5, 6, 7, 8] rfl
      have hDc := hD.sub (ws' := wV_ v0 v_keys v_firsts v_ends v_values v_inferred v_gone cI cZ vkeys vfirsts vends vvalues vinferred vgone vmade) [2, 3, 4, 5, 6, 7, 8] (by decide) rfl
      have hFc := va_free (wc := wV_ v0 v_keys v_firsts v_ends v_values v_inferred v_gone cI cZ vkeys vfirsts vends vvalues vinferred vgone vmade) hD hS hA [2, 3, 4, 5, 6, 7, 8] rfl
      refine va_calli (va_runV (As := [.int a1]) (rest := []) ⟨hx, hb, hml, hown, hts⟩ (c_X4_joinAlike l dC dI cI cZ cC cJ cD v0 v_keys v_firsts v_ends v_values v_inferred v_gone H7.size vkeys vfirsts vends vvalues vinferred vgone vmade a1 (r10, (vk11, vf12, ve13, vv14, vi15, vg16, vm17)) g19) (cwV 1 hts gX5_join_X4_joinAlike rfl rfl rfl hs_X4_joinAlike ⟨Nat.le_of_ble_eq_true rfl, Nat.le_of_ble_eq_true rfl⟩) (preV_ (ci := 6) (q0 := 0) hPc hK hDc rfl rfl rfl rfl) rfl rfl hl.1 rfl (lv_room (Nat.le_of_ble_eq_true rfl)) dX5_join_12 ⟨Nat.le_of_ble_eq_true rfl, Nat.le_of_ble_eq_true rfl⟩) hS (fun q _ h => hFc q h) hFc (fun z21 u t H20 locs ht hvm hw hB hz1 hk1 hS => ?_)
      have hw : r10 = z21 := hw.symm
      subst hw
      obtain ⟨hP, hD⟩ := aft_ (Wr := wD_ d0 s0 z0 b0 q0 t0 dhasSaved dkeptError dmoved ++ wS_ s0 v0 f0 r0 ++ wF_ f0 f_keys f_days f_amounts f_versions cI fkeys fdays famounts fversions fcount ++ wR_ r0 r_keys r_days r_values cI rkeys rdays rvalues rcount) (Wc' := wV_ v0 v_keys v_firsts v_ends v_values v_inferred v_gone cI cZ vk11 vf12 ve13 vv14 vi15 vg16 vm17) (W2 := wD_ d0 s0 z0 b0 q0 t0 dhasSaved dkeptError dmoved ++ wS_ s0 v0 f0 r0 ++ wV_ v0 v_keys v_firsts v_ends v_values v_inferred v_gone cI cZ vk11 vf12 ve13 vv14 vi15 vg16 vm17 ++ wF_ f0 f_keys f_days f_amounts f_versions cI fkeys fdays famounts fversions fcount ++ wR_ r0 r_keys r_days r_values cI rkeys rdays rvalues rcount) hP hD [2, 3, 4, 5, 6, 7, 8] [0, 1, 9, 10, 11, 12, 13, 14, 15, 16, 17] [0, 1, 11, 12, 13, 14, 15, 16, 17, 2, 3, 4, 5, 6, 7, 8, 9, 10] rfl rfl (by decide) (by decide) (by decide) hk1 hFc hB ht rfl
      refine lv_istore_n (lv' := [(2, .int r10), (0, .ref d0), (1, .int a1)]) hx hb dX5_join_15 rfl hl (by decide) rfl (fun ls hl => ?_)
      refine lv_aload_n hx hb dX5_join_16 rfl (lv_at hl 1 rfl) ?_
      obtain ⟨R30, g31, hf⟩ := bd_B hf
      obtain ⟨⟨dh22, dk23, dm24⟩, ⟨fk25, fd26, fa27, fv28, fc29⟩⟩ := R30
      dsimp only at hf
      have hPc := hP
      have hDc := hD
      have hFc := va_free (wc := wD_ d0 s0 z0 b0 q0 t0 dhasSaved dkeptError dmoved ++ wS_ s0 v0 f0 r0 ++ wV_ v0 v_keys v_firsts v_ends v_values v_inferred v_gone cI cZ vk11 vf12 ve13 vv14 vi15 vg16 vm17 ++ wF_ f0 f_keys f_days f_amounts f_versions cI fkeys fdays famounts fversions fcount ++ wR_ r0 r_keys r_days r_values cI rkeys rdays rvalues rcount) hD hS hA [0, 1, 2, 3, 4, 5, 6, 7, 8, 9, 10, 11, 12, 13, 14, 15, 16, 17] rfl
      refine va_callv (va_runV (As := []) (rest := []) ⟨hx, hb, hml, hown, hts⟩ (c_X5_pointFacts l dC dI cI cZ cC cJ cD d0 s0 z0 b0 q0 t0 v0 f0 r0 v_keys v_firsts v_ends v_values v_inferred v_gone f_keys f_days f_amounts f_versions r_keys r_days r_values H20.size dhasSaved dkeptError dmoved vk11 vf12 ve13 vv14 vi15 vg16 vm17 fkeys fdays famounts fversions fcount rkeys rdays rvalues rcount ((dh22, dk23, dm24), (fk25, fd26, fa27, fv28, fc29)) g31) (cwV 0 hts gX5_join_X5_pointFacts rfl rfl rfl hs_X5_pointFacts ⟨Nat.le_of_ble_eq_true rfl, Nat.le_of_ble_eq_true rfl⟩) (preV_ (ci := 7) (q0 := 0) hPc hK hDc rfl rfl rfl rfl) rfl rfl hl.1 rfl (lv_room (Nat.le_of_ble_eq_true rfl)) dX5_join_17 ⟨Nat.le_of_ble_eq_true rfl, Nat.le_of_ble_eq_true rfl⟩) hS (fun q _ h => hFc q h) hFc (fun u t H32 locs ht hvm hw hB hz1 hk1 hS => ?_)
      obtain ⟨hP, hD⟩ := aft_ (Wr := []) (Wc' := wD_ d0 s0 z0 b0 q0 t0 dh22 dk23 dm24 ++ wS_ s0 v0 f0 r0 ++ wV_ v0 v_keys v_firsts v_ends v_values v_inferred v_gone cI cZ vk11 vf12 ve13 vv14 vi15 vg16 vm17 ++ wF_ f0 f_keys f_days f_amounts f_versions cI fk25 fd26 fa27 fv28 fc29 ++ wR_ r0 r_keys r_days r_values cI rkeys rdays rvalues rcount) (W2 := wD_ d0 s0 z0 b0 q0 t0 dh22 dk23 dm24 ++ wS_ s0 v0 f0 r0 ++ wV_ v0 v_keys v_firsts v_ends v_values v_inferred v_gone cI cZ vk11 vf12 ve13 vv14 vi15 vg16 vm17 ++ wF_ f0 f_keys f_days f_amounts f_versions cI fk25 fd26 fa27 fv28 fc29 ++ wR_ r0 r_keys r_days r_values cI rkeys rdays rvalues rcount) hP hD [0, 1, 2, 3, 4, 5, 6, 7, 8, 9, 10, 11, 12, 13, 14, 15, 16, 17] [] [0, 1, 2, 3, 4, 5, 6, 7, 8, 9, 10, 11, 12, 13, 14, 15, 16, 17] rfl rfl (by decide) (by decide) (by decide) hk1 hFc hB ht rfl
      refine lv_iload_n hx hb dX5_join_20 rfl (lv_at hl 0 rfl) ?_
      have hR := Option.some.inj hf
      subst hR
      refine vx_ret (W.widen (k := 1) (n := 6) (Nat.le_of_ble_eq_true rfl) (Nat.le_of_ble_eq_true rfl) ?_)
      exact W.iret (v := r10) hx hb hr (fun t ht hW => ⟨⟨r10, (), rfl, rfl, by rw [ht]; exact hP, va_K.moved hW.alike hK, hD⟩, hS.F ht⟩) hS.2.2 dX5_join_21
theorem hs_X5_join : yX5_join.cls = RX5 ∧ yX5_join.cls ≠ "java/lang/invoke/MethodHandle" ∧ yX5_join.cls ≠ "java/lang/invoke/VarHandle" ∧ (parseMethodDescriptor yX5_join.desc).map (fun d => d.parameters.length) = some 1 := by decide +kernel
set_option maxRecDepth 20000 in
theorem in_X5_versionCount_X2 : ∀ w ∈ wsX20, w ∈ wsX5_versionCount := by decide +kernel
set_option maxRecDepth 20000 in
theorem in_X5_versionCount_X5 : ∀ w ∈ wsX50, w ∈ wsX5_versionCount := by decide +kernel
def f_X5_versionCount  (D_ : tD_) (S_ : tS_) (V_ : tV_) (F_ : tF_) (R_ : tR_) : Option (Int32) :=
match D_ with
| (dhasSaved, dkeptError, dmoved) =>
match V_ with
| (vkeys, vfirsts, vends, vvalues, vinferred, vgone, vmade) =>
match F_ with
| (fkeys, fdays, famounts, fversions, fcount) =>
match R_ with
| (rkeys, rdays, rvalues, rcount) =>
bd_ (f_X4_count (vkeys, vfirsts, vends, vvalues, vinferred, vgone, vmade)) (fun r1 =>
some r1)
abbrev rm_X5_versionCount : Room := { frames := 2, cells := 0, slots := 0, locals := 43 }
set_option maxHeartbeats 4000000 in
set_option maxRecDepth 100000 in
theorem c_X5_versionCount (l : Launch) (dC : Nat → ClassId) (dI : Nat → Nat → Nat) (cI cZ cC cJ cD : ClassId) (d0 s0 z0 b0 q0 t0 v0 f0 r0 v_keys v_firsts v_ends v_values v_inferred v_gone f_keys f_days f_amounts f_versions r_keys r_days r_values : Nat) (sz : Nat) (dhasSaved : Int32) (dkeptError : Int32) (dmoved : Int32) (vkeys : Nat → Int32) (vfirsts : Nat → Int32) (vends : Nat → Int32) (vvalues : Nat → Int32) (vinferred : Nat → Int32) (vgone : Nat → Int32) (vmade : Int32) (fkeys : Nat → Int32) (fdays : Nat → Int32) (famounts : Nat → Int32) (fversions : Nat → Int32) (fcount : Int32) (rkeys : Nat → Int32) (rdays : Nat → Int32) (rvalues : Nat → Int32) (rcount : Int32)  (R : Int32) (hf : f_X5_versionCount  (dhasSaved, dkeptError, dmoved) () (vkeys, vfirsts, vends, vvalues, vinferred, vgone, vmade) (fkeys, fdays, famounts, fversions, fcount) (rkeys, rdays, rvalues, rcount) = some R) : Met l yX5_versionCount wsX5_versionCount rm_X5_versionCount (Pc_ (dC, dI) (ty_ cI cZ cC cJ cD) (wD_ d0 s0 z0 b0 q0 t0 dhasSaved dkeptError dmoved ++ wS_ s0 v0 f0 r0 ++ wV_ v0 v_keys v_firsts v_ends v_values v_inferred v_gone cI cZ vkeys vfirsts vends vvalues vinferred vgone vmade ++ wF_ f0 f_keys f_days f_amounts f_versions cI fkeys fdays famounts fversions fcount ++ wR_ r0 r_keys r_days r_values cI rkeys rdays rvalues rcount) sz [.ref d0]) (Qi_ (dC, dI) (ty_ cI cZ cC cJ cD) R (wD_ d0 s0 z0 b0 q0 t0 dhasSaved dkeptError dmoved ++ wS_ s0 v0 f0 r0 ++ wV_ v0 v_keys v_firsts v_ends v_values v_inferred v_gone cI cZ vkeys vfirsts vends vvalues vinferred vgone vmade ++ wF_ f0 f_keys f_days f_amounts f_versions cI fkeys fdays famounts fversions fcount ++ wR_ r0 r_keys r_days r_values cI rkeys rdays rvalues rcount) (va_A (wD_ d0 s0 z0 b0 q0 t0 dhasSaved dkeptError dmoved ++ wS_ s0 v0 f0 r0 ++ wV_ v0 v_keys v_firsts v_ends v_values v_inferred v_gone cI cZ vkeys vfirsts vends vvalues vinferred vgone vmade ++ wF_ f0 f_keys f_days f_amounts f_versions cI fkeys fdays famounts fversions fcount ++ wR_ r0 r_keys r_days r_values cI rkeys rdays rvalues rcount) sz)) 0 0 (va_A (wD_ d0 s0 z0 b0 q0 t0 dhasSaved dkeptError dmoved ++ wS_ s0 v0 f0 r0 ++ wV_ v0 v_keys v_firsts v_ends v_values v_inferred v_gone cI cZ vkeys vfirsts vends vvalues vinferred vgone vmade ++ wF_ f0 f_keys f_days f_amounts f_versions cI fkeys fdays famounts fversions fcount ++ wR_ r0 r_keys r_days r_values cI rkeys rdays rvalues rcount) sz) := by
  refine met_ (cc := cX5_versionCount) (maxL := 1) (ret := (some .int)) (Qcf := fun A => Qi_ (dC, dI) (ty_ cI cZ cC cJ cD) R (wD_ d0 s0 z0 b0 q0 t0 dhasSaved dkeptError dmoved ++ wS_ s0 v0 f0 r0 ++ wV_ v0 v_keys v_firsts v_ends v_values v_inferred v_gone cI cZ vkeys vfirsts vends vvalues vinferred vgone vmade ++ wF_ f0 f_keys f_days f_amounts f_versions cI fkeys fdays famounts fversions fcount ++ wR_ r0 r_keys r_days r_values cI rkeys rdays rvalues rcount) A) (by decide) rfl (Nat.le_of_ble_eq_true rfl) ?_
  intro p e s m args below meth c A ls hx hb hr hts hown hlocks hml hA hP hK hD hl
  have hown : s.vm.findClass RX5 = some m.cls := hown
  have hl : lv_has ls 1 [(0, .ref d0)] := hl
  have hS : va_S A s.heap s.heap [] := va_S.rf
  have fl10_ : (Cond.fieldLink RX5 10 "DimensionLoader" "live" "LDimensionLoader$Store;").before args s = true := hts _ (List.mem_of_getElem? (i := 1) rfl)
  have fl51_ : (Cond.fieldLink RX5 51 "DimensionLoader$Store" "versions" "LDimensionLoader$Versions;").before args s = true := hts _ (List.mem_of_getElem? (i := 2) rfl)
  have inX2_ : ∀ w ∈ wsX20, w ∈ wsX5_versionCount := in_X5_versionCount_X2
  have inX5_ : ∀ w ∈ wsX50, w ∈ wsX5_versionCount := in_X5_versionCount_X5
  unfold f_X5_versionCount at hf
  dsimp only at hf
  refine lv_aload_n hx hb dX5_versionCount_0 rfl (lv_at hl 0 rfl) ?_
  refine va_get (D := (dC, dI)) (ci := 7) (v := .ref s0) (C := RX5) (T := TX5) (N := 8) hx hb hts inX5_ hown hK hP 0 rfl rfl 0 (by decide) fl10_ (fun _ h9 => h9) rfl dX5_versionCount_1 ?_
  refine va_get (D := (dC, dI)) (ci := 4) (v := .ref v0) (C := RX2) (T := TX2) (N := 3) hx hb hts inX2_ hown hK hP 1 rfl rfl 0 (by decide) fl51_ (fun _ h9 => h9) rfl dX5_versionCount_4 ?_
  obtain ⟨R2, g3, hf⟩ := bd_B hf
  obtain ⟨r1, rfl⟩ : ∃ z, z = R2 := ⟨_, rfl⟩
  have hPc := hP.sub (ws' := wV_ v0 v_keys v_firsts v_ends v_values v_inferred v_gone cI cZ vkeys vfirsts vends vvalues vinferred vgone vmade) [2, 3, 4, 5, 6, 7, 8] rfl
  have hDc := hD.sub (ws' := wV_ v0 v_keys v_firsts v_ends v_values v_inferred v_gone cI cZ vkeys vfirsts vends vvalues vinferred vgone vmade) [2, 3, 4, 5, 6, 7, 8] (by decide) rfl
  have hFc := va_free (wc := wV_ v0 v_keys v_firsts v_ends v_values v_inferred v_gone cI cZ vkeys vfirsts vends vvalues vinferred vgone vmade) hD hS hA [2, 3, 4, 5, 6, 7, 8] rfl
  refine va_calli (va_runV (As := []) (rest := []) ⟨hx, hb, hml, hown, hts⟩ (c_X4_count l dC dI cI cZ cC cJ cD v0 v_keys v_firsts v_ends v_values v_inferred v_gone s.heap.size vkeys vfirsts vends vvalues vinferred vgone vmade r1 g3) (cwV 0 hts gX5_versionCount_X4_count rfl rfl rfl hs_X4_count ⟨Nat.le_of_ble_eq_true rfl, Nat.le_of_ble_eq_true rfl⟩) (preV_ (ci := 6) (q0 := 0) hPc hK hDc rfl rfl rfl rfl) rfl rfl hl.1 rfl (lv_room (Nat.le_of_ble_eq_true rfl)) dX5_versionCount_7 ⟨Nat.le_of_ble_eq_true rfl, Nat.le_of_ble_eq_true rfl⟩) hS (fun q _ h => hFc q h) hFc (fun z5 u t H4 locs ht hvm hw hB hz1 hk1 hS => ?_)
  have hw : r1 = z5 := hw.symm
  subst hw
  obtain ⟨hP, hD⟩ := aft_ (Wr := wD_ d0 s0 z0 b0 q0 t0 dhasSaved dkeptError dmoved ++ wS_ s0 v0 f0 r0 ++ wF_ f0 f_keys f_days f_amounts f_versions cI fkeys fdays famounts fversions fcount ++ wR_ r0 r_keys r_days r_values cI rkeys rdays rvalues rcount) (Wc' := wV_ v0 v_keys v_firsts v_ends v_values v_inferred v_gone cI cZ vkeys vfirsts vends vvalues vinferred vgone vmade) (W2 := wD_ d0 s0 z0 b0 q0 t0 dhasSaved dkeptError dmoved ++ wS_ s0 v0 f0 r0 ++ wV_ v0 v_keys v_firsts v_ends v_values v_inferred v_gone cI cZ vkeys vfirsts vends vvalues vinferred vgone vmade ++ wF_ f0 f_keys f_days f_amounts f_versions cI fkeys fdays famounts fversions fcount ++ wR_ r0 r_keys r_days r_values cI rkeys rdays rvalues rcount) hP hD [2, 3, 4, 5, 6, 7, 8] [0, 1, 9, 10, 11, 12, 13, 14, 15, 16, 17] [0, 1, 11, 12, 13, 14, 15, 16, 17, 2, 3, 4, 5, 6, 7, 8, 9, 10] rfl rfl (by decide) (by decide) (by decide) hk1 hFc hB ht rfl
  have hR := Option.some.inj hf
  subst hR
  exact W.iret (v := r1) hx hb hr (fun t ht hW => ⟨⟨r1, (), rfl, rfl, by rw [ht]; exact hP, va_K.moved hW.alike hK, hD⟩, hS.F ht⟩) hS.2.2 dX5_versionCount_10
theorem hs_X5_versionCount : yX5_versionCount.cls = RX5 ∧ yX5_versionCount.cls ≠ "java/lang/invoke/MethodHandle" ∧ yX5_versionCount.cls ≠ "java/lang/invoke/VarHandle" ∧ (parseMethodDescriptor yX5_versionCount.desc).map (fun d => d.parameters.length) = some 0 := by decide +kernel
