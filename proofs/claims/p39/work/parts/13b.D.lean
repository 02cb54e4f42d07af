set_option maxRecDepth 20000 in
theorem in_X5_versionsOf_X2 : ∀ w ∈ wsX20, w ∈ wsX5_versionsOf := by decide +kernel
set_option maxRecDepth 20000 in
theorem in_X5_versionsOf_X5 : ∀ w ∈ wsX50, w ∈ wsX5_versionsOf := by decide +kernel
def f_X5_versionsOf (a1 : Int32) (D_ : tD_) (S_ : tS_) (V_ : tV_) (F_ : tF_) (R_ : tR_) : Option (Except String Int32) :=
match D_ with
| (dhasSaved, dkeptError, dmoved) =>
match V_ with
| (vkeys, vfirsts, vends, vvalues, vinferred, vgone, vmade) =>
match F_ with
| (fkeys, fdays, famounts, fversions, fcount) =>
match R_ with
| (rkeys, rdays, rvalues, rcount) =>
bd_ (f_X5_checkKey a1) (fun x1 =>
match x1 with
| Except.error E9 => some (Except.error E9)
| Except.ok v2 =>
bd_ (f_X4_countOf a1 (vkeys, vfirsts, vends, vvalues, vinferred, vgone, vmade)) (fun r10 =>
some (Except.ok r10)))
abbrev rm_X5_versionsOf : Room := { frames := 7, cells := 1, slots := 6, locals := 109 }
set_option maxHeartbeats 4000000 in
set_option maxRecDepth 100000 in
theorem c_X5_versionsOf (l : Launch) (dC : Nat → ClassId) (dI : Nat → Nat → Nat) (cI cZ cC cJ cD : ClassId) (hst : l.stackTraces = false) (d0 s0 z0 b0 q0 t0 v0 f0 r0 v_keys v_firsts v_ends v_values v_inferred v_gone f_keys f_days f_amounts f_versions r_keys r_days r_values : Nat) (sz : Nat) (dhasSaved : Int32) (dkeptError : Int32) (dmoved : Int32) (vkeys : Nat → Int32) (vfirsts : Nat → Int32) (vends : Nat → Int32) (vvalues : Nat → Int32) (vinferred : Nat → Int32) (vgone : Nat → Int32) (vmade : Int32) (fkeys : Nat → Int32) (fdays : Nat → Int32) (famounts : Nat → Int32) (fversions : Nat → Int32) (fcount : Int32) (rkeys : Nat → Int32) (rdays : Nat → Int32) (rvalues : Nat → Int32) (rcount : Int32) (a1 : Int32) (R : Except String Int32) (hf : f_X5_versionsOf a1 (dhasSaved, dkeptError, dmoved) () (vkeys, vfirsts, vends, vvalues, vinferred, vgone, vmade) (fkeys, fdays, famounts, fversions, fcount) (rkeys, rdays, rvalues, rcount) = some R) : vx_Met l yX5_versionsOf wsX5_versionsOf rm_X5_versionsOf (Py_ (dC, dI) (ty_ cI cZ cC cJ cD) (wD_ d0 s0 z0 b0 q0 t0 dhasSaved dkeptError dmoved ++ wS_ s0 v0 f0 r0 ++ wV_ v0 v_keys v_firsts v_ends v_values v_inferred v_gone cI cZ vkeys vfirsts vends vvalues vinferred vgone vmade ++ wF_ f0 f_keys f_days f_amounts f_versions cI fkeys fdays famounts fversions fcount ++ wR_ r0 r_keys r_days r_values cI rkeys rdays rvalues rcount) sz [.ref d0, .int a1]) (Xi_ (dC, dI) (ty_ cI cZ cC cJ cD) R (wD_ d0 s0 z0 b0 q0 t0 dhasSaved dkeptError dmoved ++ wS_ s0 v0 f0 r0 ++ wV_ v0 v_keys v_firsts v_ends v_values v_inferred v_gone cI cZ vkeys vfirsts vends vvalues vinferred vgone vmade ++ wF_ f0 f_keys f_days f_amounts f_versions cI fkeys fdays famounts fversions fcount ++ wR_ r0 r_keys r_days r_values cI rkeys rdays rvalues rcount) (va_A (wD_ d0 s0 z0 b0 q0 t0 dhasSaved dkeptError dmoved ++ wS_ s0 v0 f0 r0 ++ wV_ v0 v_keys v_firsts v_ends v_values v_inferred v_gone cI cZ vkeys vfirsts vends vvalues vinferred vgone vmade ++ wF_ f0 f_keys f_days f_amounts f_versions cI fkeys fdays famounts fversions fcount ++ wR_ r0 r_keys r_days r_values cI rkeys rdays rvalues rcount) sz)) (XX_ (dC, dI) (ty_ cI cZ cC cJ cD) R (wD_ d0 s0 z0 b0 q0 t0 dhasSaved dkeptError dmoved ++ wS_ s0 v0 f0 r0 ++ wV_ v0 v_keys v_firsts v_ends v_values v_inferred v_gone cI cZ vkeys vfirsts vends vvalues vinferred vgone vmade ++ wF_ f0 f_keys f_days f_amounts f_versions cI fkeys fdays famounts fversions fcount ++ wR_ r0 r_keys r_days r_values cI rkeys rdays rvalues rcount) (va_A (wD_ d0 s0 z0 b0 q0 t0 dhasSaved dkeptError dmoved ++ wS_ s0 v0 f0 r0 ++ wV_ v0 v_keys v_firsts v_ends v_values v_inferred v_gone cI cZ vkeys vfirsts vends vvalues vinferred vgone vmade ++ wF_ f0 f_keys f_days f_amounts f_versions cI fkeys fdays famounts fversions fcount ++ wR_ r0 r_keys r_days r_values cI rkeys rdays rvalues rcount) sz)) 1 6 (va_A (wD_ d0 s0 z0 b0 q0 t0 dhasSaved dkeptError dmoved ++ wS_ s0 v0 f0 r0 ++ wV_ v0 v_keys v_firsts v_ends v_values v_inferred v_gone cI cZ vkeys vfirsts vends vvalues vinferred vgone vmade ++ wF_ f0 f_keys f_days f_amounts f_versions cI fkeys fdays famounts fversions fcount ++ wR_ r0 r_keys r_days r_values cI rkeys rdays rvalues rcount) sz) := by
  refine mety_ (cc := cX5_versionsOf) (maxL := 2) (ret := (some .int)) (Qcf := fun A => Xi_ (dC, dI) (ty_ cI cZ cC cJ cD) R (wD_ d0 s0 z0 b0 q0 t0 dhasSaved dkeptError dmoved ++ wS_ s0 v0 f0 r0 ++ wV_ v0 v_keys v_firsts v_ends v_values v_inferred v_gone cI cZ vkeys vfirsts vends vvalues vinferred vgone vmade ++ wF_ f0 f_keys f_days f_amounts f_versions cI fkeys fdays famounts fversions fcount ++ wR_ r0 r_keys r_days r_values cI rkeys rdays rvalues rcount) A) (XCf := fun A => XX_ (dC, dI) (ty_ cI cZ cC cJ cD) R (wD_ d0 s0 z0 b0 q0 t0 dhasSaved dkeptError dmoved ++ wS_ s0 v0 f0 r0 ++ wV_ v0 v_keys v_firsts v_ends v_values v_inferred v_gone cI cZ vkeys vfirsts vends vvalues vinferred vgone vmade ++ wF_ f0 f_keys f_days f_amounts f_versions cI fkeys fdays famounts fversions fcount ++ wR_ r0 r_keys r_days r_values cI rkeys rdays rvalues rcount) A) (by decide) rfl (Nat.le_of_ble_eq_true rfl) ?_
  intro p e s m args below meth c A ls hx hb hr hts hown hlocks hml htab hA hU hN hC hP hK hD hl
  have hown : s.vm.findClass RX5 = some m.cls := hown
  have hl : lv_has ls 2 [(0, .ref d0), (1, .int a1)] := hl
  have hS : va_S A s.heap s.heap [] := va_S.rf
  have fl10_ : (Cond.fieldLink RX5 10 "DimensionLoader" "live" "LDimensionLoader$Store;").before args s = true := hts _ (List.mem_of_getElem? (i := 1) rfl)
  have fl51_ : (Cond.fieldLink RX5 51 "DimensionLoader$Store" "versions" "LDimensionLoader$Versions;").before args s = true := hts _ (List.mem_of_getElem? (i := 2) rfl)
  have inX2_ : ∀ w ∈ wsX20, w ∈ wsX5_versionsOf := in_X5_versionsOf_X2
  have inX5_ : ∀ w ∈ wsX50, w ∈ wsX5_versionsOf := in_X5_versionsOf_X5
  unfold f_X5_versionsOf at hf
  dsimp only at hf
  refine lv_iload_n hx hb dX5_versionsOf_0 rfl (lv_at hl 1 rfl) ?_
  obtain ⟨R3, g4, hf⟩ := bd_B hf
  obtain ⟨x1, rfl⟩ : ∃ z, z = R3 := ⟨_, rfl⟩
  have hPc := hP.sub (ws' := []) [] rfl
  have hDc := hD.sub (ws' := []) [] (by decide) rfl
  have hFc := va_free (wc := []) hD hS hA [] rfl
  cases x1 with
  | error E9 =>
    have hR := Option.some.inj hf
    subst hR
    refine vx_callv (vx_runS (As := [.int a1]) (rest := []) ⟨hx, hb, hml, hown, hts⟩ (c_X5_checkKey l dC dI cI cZ cC cJ cD hst s.heap.size a1 (Except.error E9) g4) (cwS 1 hts gX5_versionsOf_X5_checkKey rfl rfl rfl hs_X5_checkKey ⟨Nat.le_of_ble_eq_true rfl, Nat.le_of_ble_eq_true rfl⟩) (preSy_ hPc hK hDc rfl hS hU hN hFc hC) rfl rfl hl.1 rfl (lv_room (Nat.le_of_ble_eq_true rfl)) dX5_versionsOf_1 ⟨Nat.le_of_ble_eq_true rfl, Nat.le_of_ble_eq_true rfl⟩) hS (fun q _ h => hFc q h) hFc (fun q _ h => hFc q h) (fun E ce q9 u t H7 locs ht hvm hp hB hz1 hk1 hS hce hcv hcl => ?_) (fun u t H7 locs ht hvm hw hB hz1 hk1 hS => ?_)
    · obtain ⟨hE, hB⟩ := hB
      cases hE
      obtain ⟨hP, hD⟩ := aft_ (Wr := wD_ d0 s0 z0 b0 q0 t0 dhasSaved dkeptError dmoved ++ wS_ s0 v0 f0 r0 ++ wV_ v0 v_keys v_firsts v_ends v_values v_inferred v_gone cI cZ vkeys vfirsts vends vvalues vinferred vgone vmade ++ wF_ f0 f_keys f_days f_amounts f_versions cI fkeys fdays famounts fversions fcount ++ wR_ r0 r_keys r_days r_values cI rkeys rdays rvalues rcount) (Wc' := []) (W2 := wD_ d0 s0 z0 b0 q0 t0 dhasSaved dkeptError dmoved ++ wS_ s0 v0 f0 r0 ++ wV_ v0 v_keys v_firsts v_ends v_values v_inferred v_gone cI cZ vkeys vfirsts vends vvalues vinferred vgone vmade ++ wF_ f0 f_keys f_days f_amounts f_versions cI fkeys fdays famounts fversions fcount ++ wR_ r0 r_keys r_days r_values cI rkeys rdays rvalues rcount) hP hD [] [0, 1, 2, 3, 4, 5, 6, 7, 8, 9, 10, 11, 12, 13, 14, 15, 16, 17] [0, 1, 2, 3, 4, 5, 6, 7, 8, 9, 10, 11, 12, 13, 14, 15, 16, 17] rfl rfl (by decide) (by decide) (by decide) hk1 hFc hB ht rfl
      exact vx_out (fun x h => (htab x h).elim) hlocks hce hcv hcl (thr2_ hS hP hK hD rfl) hS.2.2 (Nat.le_of_ble_eq_true rfl) (Nat.le_of_ble_eq_true rfl)
    · exact absurd hw (fun h => nomatch h)
  | ok v2 =>
    refine vx_callv (vx_runS (As := [.int a1]) (rest := []) ⟨hx, hb, hml, hown, hts⟩ (c_X5_checkKey l dC dI cI cZ cC cJ cD hst s.heap.size a1 (Except.ok ()) g4) (cwS 1 hts gX5_versionsOf_X5_checkKey rfl rfl rfl hs_X5_checkKey ⟨Nat.le_of_ble_eq_true rfl, Nat.le_of_ble_eq_true rfl⟩) (preSy_ hPc hK hDc rfl hS hU hN hFc hC) rfl rfl hl.1 rfl (lv_room (Nat.le_of_ble_eq_true rfl)) dX5_versionsOf_1 ⟨Nat.le_of_ble_eq_true rfl, Nat.le_of_ble_eq_true rfl⟩) hS (fun q _ h => hFc q h) hFc (fun q _ h => hFc q h) (fun E ce q9 u t H7 locs ht hvm hp hB hz1 hk1 hS hce hcv hcl => ?_) (fun u t H7 locs ht hvm hw hB hz1 hk1 hS => ?_)
    · exact absurd hB.1 (fun h => nomatch h)
    · obtain ⟨hP, hD⟩ := aft_ (Wr := wD_ d0 s0 z0 b0 q0 t0 dhasSaved dkeptError dmoved ++ wS_ s0 v0 f0 r0 ++ wV_ v0 v_keys v_firsts v_ends v_values v_inferred v_gone cI cZ vkeys vfirsts vends vvalues vinferred vgone vmade ++ wF_ f0 f_keys f_days f_amounts f_versions cI fkeys fdays famounts fversions fcount ++ wR_ r0 r_keys r_days r_values cI rkeys rdays rvalues rcount) (Wc' := []) (W2 := wD_ d0 s0 z0 b0 q0 t0 dhasSaved dkeptError dmoved ++ wS_ s0 v0 f0 r0 ++ wV_ v0 v_keys v_firsts v_ends v_values v_inferred v_gone cI cZ vkeys vfirsts vends vvalues vinferred vgone vmade ++ wF_ f0 f_keys f_days f_amounts f_versions cI fkeys fdays famounts fversions fcount ++ wR_ r0 r_keys r_days r_values cI rkeys rdays rvalues rcount) hP hD [] [0, 1, 2, 3, 4, 5, 6, 7, 8, 9, 10, 11, 12, 13, 14, 15, 16, 17] [0, 1, 2, 3, 4, 5, 6, 7, 8, 9, 10, 11, 12, 13, 14, 15, 16, 17] rfl rfl (by decide) (by decide) (by decide) hk1 hFc hB ht rfl
      refine lv_aload_n hx hb dX5_versionsOf_4 rfl (lv_at hl 0 rfl) ?_
      refine va_get (D := (dC, dI)) (ci := 7) (v := .ref s0) (C := RX5) (T := TX5) (N := 8) hx hb hts inX5_ hown hK hP 0 rfl rfl 0 (by decide) fl10_ (fun _ h9 => h9) rfl dX5_versionsOf_5 ?_
      refine va_get (D := (dC, dI)) (ci := 4) (v := .ref v0) (C := RX2) (T := TX2) (N := 3) hx hb hts inX2_ hown hK hP 1 rfl rfl 0 (by decide) fl51_ (fun _ h9 => h9) rfl dX5_versionsOf_8 ?_
      refine lv_iload_n hx hb dX5_versionsOf_11 rfl (lv_at hl 1 rfl) ?_
      obtain ⟨R11, g12, hf⟩ := bd_B hf
      obtain ⟨r10, rfl⟩ : ∃ z, z = R11 := ⟨_, rfl⟩
      have hPc := hP.sub (ws' := wV_ v0 v_keys v_firsts v_ends v_values v_inferred v_gone cI cZ vkeys vfirsts vends vvalues vinferred vgone vmade) [2, 3, 4, 5, 6, 7, 8] rfl
      have hDc := hD.sub (ws' := wV_ v0 v_keys v_firsts v_ends v_values v_inferred v_gone cI cZ vkeys vfirsts vends vvalues vinferred vgone vmade) [2, 3, 4, 5, 6, 7, 8] (by decide) rfl
      have hFc := va_free (wc := wV_ v0 v_keys v_firsts v_ends v_values v_inferred v_gone cI cZ vkeys vfirsts vends vvalues vinferred vgone vmade) hD hS hA [2, 3, 4, 5, 6, 7, 8] rfl
      refine va_calli (va_runV (As := [.int a1]) (rest := []) ⟨hx, hb, hml, hown, hts⟩ (c_X4_countOf l dC dI cI cZ cC cJ cD v0 v_keys v_firsts v_ends v_values v_inferred v_gone H7.size vkeys vfirsts vends vvalues vinferred vgone vmade a1 r10 g12) (cwV 1 hts gX5_versionsOf_X4_countOf rfl rfl rfl hs_X4_countOf ⟨Nat.le_of_ble_eq_true rfl, Nat.le_of_ble_eq_true rfl⟩) (preV_ (ci := 6) (q0 := 0) hPc hK hDc rfl rfl rfl rfl) rfl rfl hl.1 rfl (lv_room (Nat.le_of_ble_eq_true rfl)) dX5_versionsOf_12 ⟨Nat.le_of_ble_eq_true rfl, Nat.le_of_ble_eq_true rfl⟩) hS (fun q _ h => hFc q h) hFc (fun z14 u t H13 locs ht hvm hw hB hz1 hk1 hS => ?_)
      have hw : r10 = z14 := hw.symm
      subst hw
      obtain ⟨hP, hD⟩ := aft_ (Wr := wD_ d0 s0 z0 b0 q0 t0 dhasSaved dkeptError dmoved ++ wS_ s0 v0 f0 r0 ++ wF_ f0 f_keys f_days f_amounts f_versions cI fkeys fdays famounts fversions fcount ++ wR_ r0 r_keys r_days r_values cI rkeys rdays rvalues rcount) (Wc' := wV_ v0 v_keys v_firsts v_ends v_values v_inferred v_gone cI cZ vkeys vfirsts vends vvalues vinferred vgone vmade) (W2 := wD_ d0 s0 z0 b0 q0 t0 dhasSaved dkeptError dmoved ++ wS_ s0 v0 f0 r0 ++ wV_ v0 v_keys v_firsts v_ends v_values v_inferred v_gone cI cZ vkeys vfirsts vends vvalues vinferred vgone vmade ++ wF_ f0 f_keys f_days f_amounts f_versions cI fkeys fdays famounts fversions fcount ++ wR_ r0 r_keys r_days r_values cI rkeys rdays rvalues rcount) hP hD [2, 3, 4, 5, 6, 7, 8] [0, 1, 9, 10, 11, 12, 13, 14, 15, 16, 17] [0, 1, 11, 12, 13, 14, 15, 16, 17, 2, 3, 4, 5, 6, 7, 8, 9, 10] rfl rfl (by decide) (by decide) (by decide) hk1 hFc hB ht rfl
      have hR := Option.some.inj hf
      subst hR
      refine vx_ret (W.widen (k := 1) (n := 6) (Nat.le_of_ble_eq_true rfl) (Nat.le_of_ble_eq_true rfl) ?_)
      exact W.iret (v := r10) hx hb hr (fun t ht hW => ⟨⟨r10, (), rfl, rfl, by rw [ht]; exact hP, va_K.moved hW.alike hK, hD⟩, hS.F ht⟩) hS.2.2 dX5_versionsOf_15
theorem hs_X5_versionsOf : yX5_versionsOf.cls = RX5 ∧ yX5_versionsOf.cls ≠ "java/lang/invoke/MethodHandle" ∧ yX5_versionsOf.cls ≠ "java/lang/invoke/VarHandle" ∧ (parseMethodDescriptor yX5_versionsOf.desc).map (fun d => d.parameters.length) = some 1 := by decide +kernel
set_option maxRecDepth 20000 in
theorem at_X5_found_87 : ∀ w ∈ (vx_at0 RX5 87 "java/util/NoSuchElementException" ["java/lang/RuntimeException", "java/lang/Exception"]).filter goodWord, w ∈ wsX5_found := by decide +kernel
set_option maxRecDepth 20000 in
theorem at_X5_found_87g : ∀ w ∈ Cond.classLink RX5 85 "java/util/NoSuchElementException" :: Cond.initialized "java/util/NoSuchElementException" :: vx_at0 RX5 87 "java/util/NoSuchElementException" ["java/lang/RuntimeException", "java/lang/Exception"], vx_ot w = true := by decide +kernel
def f_X5_found (a1 : Int32)  : Option (Except String Int32) :=
if a1 = (-1) then
some (Except.error "java/util/NoSuchElementException")
else
some (Except.ok a1)
abbrev rm_X5_found : Room := { frames := 6, cells := 1, slots := 6, locals := 89 }
set_option maxHeartbeats 4000000 in
set_option maxRecDepth 100000 in
theorem c_X5_found (l : Launch) (dC : Nat → ClassId) (dI : Nat → Nat → Nat) (cI cZ cC cJ cD : ClassId) (hst : l.stackTraces = false) (sz : Nat)  (a1 : Int32) (R : Except String Int32) (hf : f_X5_found a1  = some R) : vx_Met l yX5_found wsX5_found rm_X5_found (Py_ (dC, dI) (ty_ cI cZ cC cJ cD) ([]) sz [.int a1]) (Xi_ (dC, dI) (ty_ cI cZ cC cJ cD) R ([]) (va_A ([]) sz)) (XX_ (dC, dI) (ty_ cI cZ cC cJ cD) R ([]) (va_A ([]) sz)) 1 6 (va_A ([]) sz) := by
  refine mety_ (cc := cX5_found) (maxL := 1) (ret := (some .int)) (Qcf := fun A => Xi_ (dC, dI) (ty_ cI cZ cC cJ cD) R ([]) A) (XCf := fun A => XX_ (dC, dI) (ty_ cI cZ cC cJ cD) R ([]) A) (by decide) rfl (Nat.le_of_ble_eq_true rfl) ?_
  intro p e s m args below meth c A ls hx hb hr hts hown hlocks hml htab hA hU hN hC hP hK hD hl
  have hown : s.vm.findClass RX5 = some m.cls := hown
  have hl : lv_has ls 1 [(0, .int a1)] := hl
  have hS : va_S A s.heap s.heap [] := va_S.rf
  unfold f_X5_found at hf
  refine lv_iload_n hx hb dX5_found_0 rfl (lv_at hl 0 rfl) ?_
  refine lv_iconst (v := (-1)) hx hb dX5_found_1 (by decide) ?_
  refine lv_icmp_ne (tgt := 13) hx hb dX5_found_2 (by decide) (fun c1 => ?_) (fun c1 => ?_)
  · have hf := ite_F c1 hf
    refine lv_iload_n hx hb dX5_found_13 rfl (lv_at hl 0 rfl) ?_
    have hR := Option.some.inj hf
    subst hR
    refine vx_ret (W.widen (k := 1) (n := 6) (Nat.le_of_ble_eq_true rfl) (Nat.le_of_ble_eq_true rfl) ?_)
    exact W.iret (v := a1) hx hb hr (fun t ht hW => ⟨⟨a1, (), rfl, rfl, by rw [ht]; exact hP, va_K.moved hW.alike hK, hD⟩, hS.F ht⟩) hS.2.2 dX5_found_14
  · have hf := ite_T c1 hf
    have hR := Option.some.inj hf
    subst hR
    exact vx_throw0 (names := ["java/lang/RuntimeException", "java/lang/Exception"]) hx hb hst hown (by decide +kernel) (by decide +kernel) (hts _ (List.mem_of_getElem? (i := 1) rfl)) (hts _ (List.mem_of_getElem? (i := 2) rfl)) (vx_hat (fun w h => hts w (at_X5_found_87 w h)) (atn_0 "java/util/NoSuchElementException" (by decide +kernel) 87 (by decide)) (hC.words (by decide +kernel))) at_X5_found_87g hU hN hS (hl.1.trans hml.symm) dX5_found_5 dX5_found_8 dX5_found_9 dX5_found_12 (fun x h => (htab x h).elim) (Nat.le_of_ble_eq_true rfl) (Nat.le_of_ble_eq_true rfl) (Nat.le_of_ble_eq_true rfl) (Nat.le_of_ble_eq_true rfl) hlocks (thr_ hS hP hK hD rfl) hS.2.2 (Nat.le_of_ble_eq_true rfl) (Nat.le_of_ble_eq_true rfl)
theorem hs_X5_found : yX5_found.cls = RX5 ∧ yX5_found.cls ≠ "java/lang/invoke/MethodHandle" ∧ yX5_found.cls ≠ "java/lang/invoke/VarHandle" ∧ (parseMethodDescriptor yX5_found.desc).map (fun d => d.parameters.length) = some 1 := by decide +kernel
set_option maxRecDepth 20000 in
theorem in_X5_versionAt_X2 : ∀ w ∈ wsX20, w ∈ wsX5_versionAt := by decide +kernel
set_option maxRecDepth 20000 in
theorem in_X5_versionAt_X5 : ∀ w ∈ wsX50, w ∈ wsX5_versionAt := by decide +kernel
def f_X5_versionAt (a1 : Int32) (a2 : Int32) (D_ : tD_) (S_ : tS_) (V_ : tV_) (F_ : tF_) (R_ : tR_) : Option (Except String Int32) :=
match D_ with
| (dhasSaved, dkeptError, dmoved) =>
match V_ with
| (vkeys, vfirsts, vends, vvalues, vinferred, vgone, vmade) =>
match F_ with
| (fkeys, fdays, famounts, fversions, fcount) =>
match R_ with
| (rkeys, rdays, rvalues, rcount) =>
bd_ (f_X5_checkKey a1) (fun x1 =>
match x1 with
| Except.error E9 => some (Except.error E9)
| Except.ok v2 =>
bd_ (f_X4_atPlace a1 a2 (vkeys, vfirsts, vends, vvalues, vinferred, vgone, vmade)) (fun r10 =>
bd_ (f_X5_found r10) (fun x15 =>
match x15 with
| Except.error E23 => some (Except.error E23)
| Except.ok r16 =>
some (Except.ok r16))))
abbrev rm_X5_versionAt : Room := { frames := 7, cells := 2, slots := 12, locals := 109 }
set_option maxHeartbeats 4000000 in
set_option maxRecDepth 100000 in
theorem c_X5_versionAt (l : Launch) (dC : Nat → ClassId) (dI : Nat → Nat → Nat) (cI cZ cC cJ cD : ClassId) (hst : l.stackTraces = false) (d0 s0 z0 b0 q0 t0 v0 f0 r0 v_keys v_firsts v_ends v_values v_inferred v_gone f_keys f_days f_amounts f_versions r_keys r_days r_values : Nat) (sz : Nat) (dhasSaved : Int32) (dkeptError : Int32) (dmoved : Int32) (vkeys : Nat → Int32) (vfirsts : Nat → Int32) (vends : Nat → Int32) (vvalues : Nat → Int32) (vinferred : Nat → Int32) (vgone : Nat → Int32) (vmade : Int32) (fkeys : Nat → Int32) (fdays : Nat → Int32) (famounts : Nat → Int32) (fversions : Nat → Int32) (fcount : Int32) (rkeys : Nat → Int32) (rdays : Nat → Int32) (rvalues : Nat → Int32) (rcount : Int32) (a1 : Int32) (a2 : Int32) (R : Except String Int32) (hf : f_X5_versionAt a1 a2 (dhasSaved, dkeptError, dmoved) () (vkeys, vfirsts, vends, vvalues, vinferred, vgone, vmade) (fkeys, fdays, famounts, fversions, fcount) (rkeys, rdays, rvalues, rcount) = some R) : vx_Met l yX5_versionAt wsX5_versionAt rm_X5_versionAt (Py_ (dC, dI) (ty_ cI cZ cC cJ cD) (wD_ d0 s0 z0 b0 q0 t0 dhasSaved dkeptError dmoved ++ wS_ s0 v0 f0 r0 ++ wV_ v0 v_keys v_firsts v_ends v_values v_inferred v_gone cI cZ vkeys vfirsts vends vvalues vinferred vgone vmade ++ wF_ f0 f_keys f_days f_amounts f_versions cI fkeys fdays famounts fversions fcount ++ wR_ r0 r_keys r_days r_values cI rkeys rdays rvalues rcount) sz [.ref d0, .int a1, .int a2]) (Xi_ (dC, dI) (ty_ cI cZ cC cJ cD) R (wD_ d0 s0 z0 b0 q0 t0 dhasSaved dkeptError dmoved ++ wS_ s0 v0 f0 r0 ++ wV_ v0 v_keys v_firsts v_ends v_values v_inferred v_gone cI cZ vkeys vfirsts vends vvalues vinferred vgone vmade ++ wF_ f0 f_keys f_days f_amounts f_versions cI fkeys fdays famounts fversions fcount ++ wR_ r0 r_keys r_days r_values cI rkeys rdays rvalues rcount) (va_A (wD_ d0 s0 z0 b0 q0 t0 dhasSaved dkeptError dmoved ++ wS_ s0 v0 f0 r0 ++ wV_ v0 v_keys v_firsts v_ends v_values v_inferred v_gone cI cZ vkeys vfirsts vends vvalues vinferred vgone vmade ++ wF_ f0 f_keys f_days f_amounts f_versions cI fkeys fdays famounts fversions fcount ++ wR_ r0 r_keys r_days r_values cI rkeys rdays rvalues rcount) sz)) (XX_ (dC, dI) (ty_ cI cZ cC cJ cD) R (wD_ d0 s0 z0 b0 q0 t0 dhasSaved dkeptError dmoved ++ wS_ s0 v0 f0 r0 ++ wV_ v0 v_keys v_firsts v_ends v_values v_inferred v_gone cI cZ vkeys vfirsts vends vvalues vinferred vgone vmade ++ wF_ f0 f_keys f_days f_amounts f_versions cI fkeys fdays famounts fversions fcount ++ wR_ r0 r_keys r_days r_values cI rkeys rdays rvalues rcount) (va_A (wD_ d0 s0 z0 b0 q0 t0 dhasSaved dkeptError dmoved ++ wS_ s0 v0 f0 r0 ++ wV_ v0 v_keys v_firsts v_ends v_values v_inferred v_gone cI cZ vkeys vfirsts vends vvalues vinferred vgone vmade ++ wF_ f0 f_keys f_days f_amounts f_versions cI fkeys fdays famounts fversions fcount ++ wR_ r0 r_keys r_days r_values cI rkeys rdays rvalues rcount) sz)) 2 12 (va_A (wD_ d0 s0 z0 b0 q0 t0 dhasSaved dkeptError dmoved ++ wS_ s0 v0 f0 r0 ++ wV_ v0 v_keys v_firsts v_ends v_values v_inferred v_gone cI cZ vkeys vfirsts vends vvalues vinferred vgone vmade ++ wF_ f0 f_keys f_days f_amounts f_versions cI fkeys fdays famounts fversions fcount ++ wR_ r0 r_keys r_days r_values cI rkeys rdays rvalues rcount) sz) := by
  refine mety_ (cc := cX5_versionAt) (maxL := 3) (ret := (some .int)) (Qcf := fun A => Xi_ (dC, dI) (ty_ cI cZ cC cJ cD) R (wD_ d0 s0 z0 b0 q0 t0 dhasSaved dkeptError dmoved ++ wS_ s0 v0 f0 r0 ++ wV_ v0 v_keys v_firsts v_ends v_values v_inferred v_gone cI cZ vkeys vfirsts vends vvalues vinferred vgone vmade ++ wF_ f0 f_keys f_days f_amounts f_versions cI fkeys fdays famounts fversions fcount ++ wR_ r0 r_keys r_days r_values cI rkeys rdays rvalues rcount) A) (XCf := fun A => XX_ (dC, dI) (ty_ cI cZ cC cJ cD) R (wD_ d0 s0 z0 b0 q0 t0 dhasSaved dkeptError dmoved ++ wS_ s0 v0 f0 r0 ++ wV_ v0 v_keys v_firsts v_ends v_values v_inferred v_gone cI cZ vkeys vfirsts vends vvalues vinferred vgone vmade ++ wF_ f0 f_keys f_days f_amounts f_versions cI fkeys fdays famounts fversions fcount ++ wR_ r0 r_keys r_days r_values cI rkeys rdays rvalues rcount) A) (by decide) rfl (Nat.le_of_ble_eq_true rfl) ?_
  intro p e s m args below meth c A ls hx hb hr hts hown hlocks hml htab hA hU hN hC hP hK hD hl
  have hown : s.vm.findClass RX5 = some m.cls := hown
  have hl : lv_has ls 3 [(0, .ref d0), (1, .int a1), (2, .int a2)] := hl
  have hS : va_S A s.heap s.heap [] := va_S.rf
  have fl10_ : (Cond.fieldLink RX5 10 "DimensionLoader" "live" "LDimensionLoader$Store;").before args s = true := hts _ (List.mem_of_getElem? (i := 1) rfl)
  have fl51_ : (Cond.fieldLink RX5 51 "DimensionLoader$Store" "versions" "LDimensionLoader$Versions;").before args s = true := hts _ (List.mem_of_getElem? (i := 2) rfl)
  have inX2_ : ∀ w ∈ wsX20, w ∈ wsX5_versionAt := in_X5_versionAt_X2
  have inX5_ : ∀ w ∈ wsX50, w ∈ wsX5_versionAt := in_X5_versionAt_X5
  unfold f_X5_versionAt at hf
  dsimp only at hf
  refine lv_iload_n hx hb dX5_versionAt_0 rfl (lv_at hl 1 rfl) ?_
  obtain ⟨R3, g4, hf⟩ := bd_B hf
  obtain ⟨x1, rfl⟩ : ∃ z, z = R3 := ⟨_, rfl⟩
  have hPc := hP.sub (ws' := []) [] rfl
  have hDc := hD.sub (ws' := []) [] (by decide) rfl
  have hFc := va_free (wc := []) hD hS hA [] rfl
  cases x1 with
  | error E9 =>
    have hR := Option.some.inj hf
    subst hR
    refine vx_callv (vx_runS (As := [.int a1]) (rest := []) ⟨hx, hb, hml, hown, hts⟩ (c_X5_checkKey l dC dI cI cZ cC cJ cD hst s.heap.size a1 (Except.error E9) g4) (cwS 1 hts gX5_versionAt_X5_checkKey rfl rfl rfl hs_X5_checkKey ⟨Nat.le_of_ble_eq_true rfl, Nat.le_of_ble_eq_true rfl⟩) (preSy_ hPc hK hDc rfl hS hU hN hFc hC) rfl rfl hl.1 rfl (lv_room (Nat.le_of_ble_eq_true rfl)) dX5_versionAt_1 ⟨Nat.le_of_ble_eq_true rfl, Nat.le_of_ble_eq_true rfl⟩) hS (fun q _ h => hFc q h) hFc (fun q _ h => hFc q h) (fun E ce q9 u t H7 locs ht hvm hp hB hz1 hk1 hS hce hcv hcl => ?_) (fun u t H7 locs ht hvm hw hB hz1 hk1 hS => ?_)
    · obtain ⟨hE, hB⟩ := hB
      cases hE
      obtain ⟨hP, hD⟩ := aft_ (Wr := wD_ d0 s0 z0 b0 q0 t0 dhasSaved dkeptError dmoved ++ wS_ s0 v0 f0 r0 ++ wV_ v0 v_keys v_firsts v_ends v_values v_inferred v_gone cI cZ vkeys vfirsts vends vvalues vinferred vgone vmade ++ wF_ f0 f_keys f_days f_amounts f_versions cI fkeys fdays famounts fversions fcount ++ wR_ r0 r_keys r_days r_values cI rkeys rdays rvalues rcount) (Wc' := []) (W2 := wD_ d0 s0 z0 b0 q0 t0 dhasSaved dkeptError dmoved ++ wS_ s0 v0 f0 r0 ++ wV_ v0 v_keys v_firsts v_ends v_values v_inferred v_gone cI cZ vkeys vfirsts vends vvalues vinferred vgone vmade ++ wF_ f0 f_keys f_days f_amounts f_versions cI fkeys fdays famounts fversions fcount ++ wR_ r0 r_keys r_days r_values cI rkeys rdays rvalues rcount) hP hD [] [0, 1, 2, 3, 4, 5, 6, 7, 8, 9, 10, 11, 12, 13, 14, 15, 16, 17] [0, 1, 2, 3, 4, 5, 6, 7, 8, 9, 10, 11, 12, 13, 14, 15, 16, 17] rfl rfl (by decide) (by decide) (by decide) hk1 hFc hB ht rfl
      exact vx_out (fun x h => (htab x h).elim) hlocks hce hcv hcl (thr2_ hS hP hK hD rfl) hS.2.2 (Nat.le_of_ble_eq_true rfl) (Nat.le_of_ble_eq_true rfl)
    · exact absurd hw (fun h => nomatch h)
  | ok v2 =>
    refine vx_callv (vx_runS (As := [.int a1]) (rest := []) ⟨hx, hb, hml, hown, hts⟩ (c_X5_checkKey l dC dI cI cZ cC cJ cD hst s.heap.size a1 (Except.ok ()) g4) (cwS 1 hts gX5_versionAt_X5_checkKey rfl rfl rfl hs_X5_checkKey ⟨Nat.le_of_ble_eq_true rfl, Nat.le_of_ble_eq_true rfl⟩) (preSy_ hPc hK hDc rfl hS hU hN hFc hC) rfl rfl hl.1 rfl (lv_room (Nat.le_of_ble_eq_true rfl)) dX5_versionAt_1 ⟨Nat.le_of_ble_eq_true rfl, Nat.le_of_ble_eq_true rfl⟩) hS (fun q _ h => hFc q h) hFc (fun q _ h => hFc q h) (fun E ce q9 u t H7 locs ht hvm hp hB hz1 hk1 hS hce hcv hcl => ?_) (fun u t H7 locs ht hvm hw hB hz1 hk1 hS => ?_)
    · exact absurd hB.1 (fun h => nomatch h)
    · obtain ⟨hP, hD⟩ := aft_ (Wr := wD_ d0 s0 z0 b0 q0 t0 dhasSaved dkeptError dmoved ++ wS_ s0 v0 f0 r0 ++ wV_ v0 v_keys v_firsts v_ends v_values v_inferred v_gone cI cZ vkeys vfirsts vends vvalues vinferred vgone vmade ++ wF_ f0 f_keys f_days f_amounts f_versions cI fkeys fdays famounts fversions fcount ++ wR_ r0 r_keys r_days r_values cI rkeys rdays rvalues rcount) (Wc' := []) (W2 := wD_ d0 s0 z0 b0 q0 t0 dhasSaved dkeptError dmoved ++ wS_ s0 v0 f0 r0 ++ wV_ v0 v_keys v_firsts v_ends v_values v_inferred v_gone cI cZ vkeys vfirsts vends vvalues vinferred vgone vmade ++ wF_ f0 f_keys f_days f_amounts f_versions cI fkeys fdays famounts fversions fcount ++ wR_ r0 r_keys r_days r_values cI rkeys rdays rvalues rcount) hP hD [] [0, 1, 2, 3, 4, 5, 6, 7, 8, 9, 10, 11, 12, 13, 14, 15, 16, 17] [0, 1, 2, 3, 4, 5, 6, 7, 8, 9, 10, 11, 12, 13, 14, 15, 16, 17] rfl rfl (by decide) (by decide) (by decide) hk1 hFc hB ht rfl
      refine lv_aload_n hx hb dX5_versionAt_4 rfl (lv_at hl 0 rfl) ?_
      refine va_get (D := (dC, dI)) (ci := 7) (v := .ref s0) (C := RX5) (T := TX5) (N := 8) hx hb hts inX5_ hown hK hP 0 rfl rfl 0 (by decide) fl10_ (fun _ h9 => h9) rfl dX5_versionAt_5 ?_
      refine va_get (D := (dC, dI)) (ci := 4) (v := .ref v0) (C := RX2) (T := TX2) (N := 3) hx hb hts inX2_ hown hK hP 1 rfl rfl 0 (by decide) fl51_ (fun _ h9 => h9) rfl dX5_versionAt_8 ?_
      refine lv_iload_n hx hb dX5_versionAt_11 rfl (lv_at hl 1 rfl) ?_
      refine lv_iload_n hx hb dX5_versionAt_12 rfl (lv_at hl 2 rfl) ?_
      obtain ⟨R11, g12, hf⟩ := bd_B hf
      obtain ⟨r10, rfl⟩ : ∃ z, z = R11 := ⟨_, rfl⟩
      have hPc := hP.sub (ws' := wV_ v0 v_keys v_firsts v_ends v_values v_inferred v_gone cI cZ vkeys vfirsts vends vvalues vinferred vgone vmade) [2, 3, 4, 5, 6, 7, 8] rfl
      have hDc := hD.sub (ws' := wV_ v0 v_keys v_firsts v_ends v_values v_inferred v_gone cI cZ vkeys vfirsts vends vvalues vinferred vgone vmade) [2, 3, 4, 5, 6, 7, 8] (by decide) rfl
      have hFc := va_free (wc := wV_ v0 v_keys v_firsts v_ends v_values v_inferred v_gone cI cZ vkeys vfirsts vends vvalues vinferred vgone vmade) hD hS hA [2, 3, 4, 5, 6, 7, 8] rfl
      refine va_calli (va_runV (As := [.int a1, .int a2]) (rest := []) ⟨hx, hb, hml, hown, hts⟩ (c_X4_atPlace l dC dI cI cZ cC cJ cD v0 v_keys v_firsts v_ends v_values v_inferred v_gone H7.size vkeys vfirsts vends vvalues vinferred vgone vmade a1 a2 r10 g12) (cwV 2 hts gX5_versionAt_X4_atPlace rfl rfl rfl hs_X4_atPlace ⟨Nat.le_of_ble_eq_true rfl, Nat.le_of_ble_eq_true rfl⟩) (preV_ (ci := 6) (q0 := 0) hPc hK hDc rfl rfl rfl rfl) rfl rfl hl.1 rfl (lv_room (Nat.le_of_ble_eq_true rfl)) dX5_versionAt_13 ⟨Nat.le_of_ble_eq_true rfl, Nat.le_of_ble_eq_true rfl⟩) hS (fun q _ h => hFc q h) hFc (fun z14 u t H13 locs ht hvm hw hB hz1 hk1 hS => ?_)
      have hw : r10 = z14 := hw.symm
      subst hw
      obtain ⟨hP, hD⟩ := aft_ (Wr := wD_ d0 s0 z0 b0 q0 t0 dhasSaved dkeptError dmoved ++ wS_ s0 v0 f0 r0 ++ wF_ f0 f_keys f_days f_amounts f_versions cI fkeys fdays famounts fversions fcount ++ wR_ r0 r_keys r_days r_values cI rkeys rdays rvalues rcount) (Wc' := wV_ v0 v_keys v_firsts v_ends v_values v_inferred v_gone cI cZ vkeys vfirsts vends vvalues vinferred vgone vmade) (W2 := wD_ d0 s0 z0 b0 q0 t0 dhasSaved dkeptError dmoved ++ wS_ s0 v0 f0 r0 ++ wV_ v0 v_keys v_firsts v_ends v_values v_inferred v_gone cI cZ vkeys vfirsts vends vvalues vinferred vgone vmade ++ wF_ f0 f_keys f_days f_amounts f_versions cI fkeys fdays famounts fversions fcount ++ wR_ r0 r_keys r_days r_values cI rkeys rdays rvalues rcount) hP hD [2, 3, 4, 5, 6, 7, 8] [0, 1, 9, 10, 11, 12, 13, 14, 15, 16, 17] [0, 1, 11, 12, 13, 14, 15, 16, 17, 2, 3, 4, 5, 6, 7, 8, 9, 10] rfl rfl (by decide) (by decide) (by decide) hk1 hFc hB ht rfl
      obtain ⟨R17, g18, hf⟩ := bd_B hf
      obtain ⟨x15, rfl⟩ : ∃ z, z = R17 := ⟨_, rfl⟩
      have hPc := hP.sub (ws' := []) [] rfl
      have hDc := hD.sub (ws' := []) [] (by decide) rfl
      have hFc := va_free (wc := []) hD hS hA [] rfl
      cases x15 with
      | error E23 =>
        have hR := Option.some.inj hf
        subst hR
        refine vx_calli (vx_runS (As := [.int r10]) (rest := []) ⟨hx, hb, hml, hown, hts⟩ (c_X5_found l dC dI cI cZ cC cJ cD hst H13.size r10 (Except.error E23) g18) (cwS 1 hts gX5_versionAt_X5_found rfl rfl rfl hs_X5_found ⟨Nat.le_of_ble_eq_true rfl, Nat.le_of_ble_eq_true rfl⟩) (preSy_ hPc hK hDc rfl hS hU hN hFc hC) rfl rfl hl.1 rfl (lv_room (Nat.le_of_ble_eq_true rfl)) dX5_versionAt_16 ⟨Nat.le_of_ble_eq_true rfl, Nat.le_of_ble_eq_true rfl⟩) hS (fun q _ h => hFc q h) hFc (fun q _ h => hFc q h) (fun E ce q9 u t H21 locs ht hvm hp hB hz1 hk1 hS hce hcv hcl => ?_) (fun z22 u t H21 locs ht hvm hw hB hz1 hk1 hS => ?_)
        · obtain ⟨hE, hB⟩ := hB
          cases hE
          obtain ⟨hP, hD⟩ := aft_ (Wr := wD_ d0 s0 z0 b0 q0 t0 dhasSaved dkeptError dmoved ++ wS_ s0 v0 f0 r0 ++ wV_ v0 v_keys v_firsts v_ends v_values v_inferred v_gone cI cZ vkeys vfirsts vends vvalues vinferred vgone vmade ++ wF_ f0 f_keys f_days f_amounts f_versions cI fkeys fdays famounts fversions fcount ++ wR_ r0 r_keys r_days r_values cI rkeys rdays rvalues rcount) (Wc' := []) (W2 := wD_ d0 s0 z0 b0 q0 t0 dhasSaved dkeptError dmoved ++ wS_ s0 v0 f0 r0 ++ wV_ v0 v_keys v_firsts v_ends v_values v_inferred v_gone cI cZ vkeys vfirsts vends vvalues vinferred vgone vmade ++ wF_ f0 f_keys f_days f_amounts f_versions cI fkeys fdays famounts fversions fcount ++ wR_ r0 r_keys r_days r_values cI rkeys rdays rvalues rcount) hP hD [] [0, 1, 2, 3, 4, 5, 6, 7, 8, 9, 10, 11, 12, 13, 14, 15, 16, 17] [0, 1, 2, 3, 4, 5, 6, 7, 8, 9, 10, 11, 12, 13, 14, 15, 16, 17] rfl rfl (by decide) (by decide) (by decide) hk1 hFc hB ht rfl
          exact vx_out (fun x h => (htab x h).elim) hlocks hce hcv hcl (thr2_ hS hP hK hD rfl) hS.2.2 (Nat.le_of_ble_eq_true rfl) (Nat.le_of_ble_eq_true rfl)
        · exact absurd hw (fun h => nomatch h)
      | ok r16 =>
        refine vx_calli (vx_runS (As := [.int r10]) (rest := []) ⟨hx, hb, hml, hown, hts⟩ (c_X5_found l dC dI cI cZ cC cJ cD hst H13.size r10 (Except.ok r16) g18) (cwS 1 hts gX5_versionAt_X5_found rfl rfl rfl hs_X5_found ⟨Nat.le_of_ble_eq_true rfl, Nat.le_of_ble_eq_true rfl⟩) (preSy_ hPc hK hDc rfl hS hU hN hFc hC) rfl rfl hl.1 rfl (lv_room (Nat.le_of_ble_eq_true rfl)) dX5_versionAt_16 ⟨Nat.le_of_ble_eq_true rfl, Nat.le_of_ble_eq_true rfl⟩) hS (fun q _ h => hFc q h) hFc (fun q _ h => hFc q h) (fun E ce q9 u t H21 locs ht hvm hp hB hz1 hk1 hS hce hcv hcl => ?_) (fun z22 u t H21 locs ht hvm hw hB hz1 hk1 hS => ?_)
        · exact absurd hB.1 (fun h => nomatch h)
        · have hw : r16 = z22 := Except.ok.inj hw
          subst hw
          obtain ⟨hP, hD⟩ := aft_ (Wr := wD_ d0 s0 z0 b0 q0 t0 dhasSaved dkeptError dmoved ++ wS_ s0 v0 f0 r0 ++ wV_ v0 v_keys v_firsts v_ends v_values v_inferred v_gone cI cZ vkeys vfirsts vends vvalues vinferred vgone vmade ++ wF_ f0 f_keys f_days f_amounts f_versions cI fkeys fdays famounts fversions fcount ++ wR_ r0 r_keys r_days r_values cI rkeys rdays rvalues rcount) (Wc' := []) (W2 := wD_ d0 s0 z0 b0 q0 t0 dhasSaved dkeptError dmoved ++ wS_ s0 v0 f0 r0 ++ wV_ v0 v_keys v_firsts v_ends v_values v_inferred v_gone cI cZ vkeys vfirsts vends vvalues vinferred vgone vmade ++ wF_ f0 f_keys f_days f_amounts f_versions cI fkeys fdays famounts fversions fcount ++ wR_ r0 r_keys r_days r_values cI rkeys rdays rvalues rcount) hP hD [] [0, 1, 2, 3, 4, 5, 6, 7, 8, 9, 10, 11, 12, 13, 14, 15, 16, 17] [0, 1, 2, 3, 4, 5, 6, 7, 8, 9, 10, 11, 12, 13, 14, 15, 16, 17] rfl rfl (by decide) (by decide) (by decide) hk1 hFc hB ht rfl
          have hR := Option.some.inj hf
          subst hR
          refine vx_ret (W.widen (k := 2) (n := 12) (Nat.le_of_ble_eq_true rfl) (Nat.le_of_ble_eq_true rfl) ?_)
          exact W.iret (v := r16) hx hb hr (fun t ht hW => ⟨⟨r16, (), rfl, rfl, by rw [ht]; exact hP, va_K.moved hW.alike hK, hD⟩, hS.F ht⟩) hS.2.2 dX5_versionAt_19
theorem hs_X5_versionAt : yX5_versionAt.cls = RX5 ∧ yX5_versionAt.cls ≠ "java/lang/invoke/MethodHandle" ∧ yX5_versionAt.cls ≠ "java/lang/invoke/VarHandle" ∧ (parseMethodDescriptor yX5_versionAt.desc).map (fun d => d.parameters.length) = some 2 := by decide +kernel
set_option maxRecDepth 20000 in
theorem in_X5_validOn_X2 : ∀ w ∈ wsX20, w ∈ wsX5_validOn := by decide +kernel
set_option maxRecDepth 20000 in
theorem in_X5_validOn_X5 : ∀ w ∈ wsX50, w ∈ wsX5_validOn := by decide +kernel
def f_X5_validOn (a1 : Int32) (a2 : Int32) (D_ : tD_) (S_ : tS_) (V_ : tV_) (F_ : tF_) (R_ : tR_) : Option (Except String Int32) :=
match D_ with
| (dhasSaved, dkeptError, dmoved) =>
match V_ with
| (vkeys, vfirsts, vends, vvalues, vinferred, vgone, vmade) =>
match F_ with
| (fkeys, fdays, famounts, fversions, fcount) =>
match R_ with
| (rkeys, rdays, rvalues, rcount) =>
bd_ (f_X5_checkKey a1) (fun x1 =>
match x1 with
| Except.error E9 => some (Except.error E9)
| Except.ok v2 =>
bd_ (f_X5_checkDay a2) (fun x10 =>
match x10 with
| Except.error E18 => some (Except.error E18)
| Except.ok v11 =>
bd_ (f_X4_onDay a1 a2 (vkeys, vfirsts, vends, vvalues, vinferred, vgone, vmade)) (fun r19 =>
bd_ (f_X5_found r19) (fun x24 =>
match x24 with
| Except.error E32 => some (Except.error E32)
| Except.ok r25 =>
some (Except.ok r25)))))
abbrev rm_X5_validOn : Room := { frames := 7, cells := 3, slots := 18, locals := 109 }
set_option maxHeartbeats 4000000 in
set_option maxRecDepth 100000 in
theorem c_X5_validOn (l : Launch) (dC : Nat → ClassId) (dI : Nat → Nat → Nat) (cI cZ cC cJ cD : ClassId) (hst : l.stackTraces = false) (d0 s0 z0 b0 q0 t0 v0 f0 r0 v_keys v_firsts v_ends v_values v_inferred v_gone f_keys f_days f_amounts f_versions r_keys r_days r_values : Nat) (sz : Nat) (dhasSaved : Int32) (dkeptError : Int32) (dmoved : Int32) (vkeys : Nat → Int32) (vfirsts : Nat → Int32) (vends : Nat → Int32) (vvalues : Nat → Int32) (vinferred : Nat → Int32) (vgone : Nat → Int32) (vmade : Int32) (fkeys : Nat → Int32) (fdays : Nat → Int32) (famounts : Nat → Int32) (fversions : Nat → Int32) (fcount : Int32) (rkeys : Nat → Int32) (rdays : Nat → Int32) (rvalues : Nat → Int32) (rcount : Int32) (a1 : Int32) (a2 : Int32) (R : Except String Int32) (hf : f_X5_validOn a1 a2 (dhasSaved, dkeptError, dmoved) () (vkeys, vfirsts, vends, vvalues, vinferred, vgone, vmade) (fkeys, fdays, famounts, fversions, fcount) (rkeys, rdays, rvalues, rcount) = some R) : vx_Met l yX5_validOn wsX5_validOn rm_X5_validOn (Py_ (dC, dI) (ty_ cI cZ cC cJ cD) (wD_ d0 s0 z0 b0 q0 t0 dhasSaved dkeptError dmoved ++ wS_ s0 v0 f0 r0 ++ wV_ v0 v_keys v_firsts v_ends v_values v_inferred v_gone cI cZ vkeys vfirsts vends vvalues vinferred vgone vmade ++ wF_ f0 f_keys f_days f_amounts f_versions cI fkeys fdays famounts fversions fcount ++ wR_ r0 r_keys r_days r_values cI rkeys rdays rvalues rcount) sz [.ref d0, .int a1, .int a2]) (Xi_ (dC, dI) (ty_ cI cZ cC cJ cD) R (wD_ d0 s0 z0 b0 q0 t0 dhasSaved dkeptError dmoved ++ wS_ s0 v0 f0 r0 ++ wV_ v0 v_keys v_firsts v_ends v_values v_inferred v_gone cI cZ vkeys vfirsts vends vvalues vinferred vgone vmade ++ wF_ f0 f_keys f_days f_amounts f_versions cI fkeys fdays famounts fversions fcount ++ wR_ r0 r_keys r_days r_values cI rkeys rdays rvalues rcount) (va_A (wD_ d0 s0 z0 b0 q0 t0 dhasSaved dkeptError dmoved ++ wS_ s0 v0 f0 r0 ++ wV_ v0 v_keys v_firsts v_ends v_values v_inferred v_gone cI cZ vkeys vfirsts vends vvalues vinferred vgone vmade ++ wF_ f0 f_keys f_days f_amounts f_versions cI fkeys fdays famounts fversions fcount ++ wR_ r0 r_keys r_days r_values cI rkeys rdays rvalues rcount) sz)) (XX_ (dC, dI) (ty_ cI cZ cC cJ cD) R (wD_ d0 s0 z0 b0 q0 t0 dhasSaved dkeptError dmoved ++ wS_ s0 v0 f0 r0 ++ wV_ v0 v_keys v_firsts v_ends v_values v_inferred v_gone cI cZ vkeys vfirsts vends vvalues vinferred vgone vmade ++ wF_ f0 f_keys f_days f_amounts f_versions cI fkeys fdays famounts fversions fcount ++ wR_ r0 r_keys r_days r_values cI rkeys rdays rvalues rcount) (va_A (wD_ d0 s0 z0 b0 q0 t0 dhasSaved dkeptError dmoved ++ wS_ s0 v0 f0 r0 ++ wV_ v0 v_keys v_firsts v_ends v_values v_inferred v_gone cI cZ vkeys vfirsts vends vvalues vinferred vgone vmade ++ wF_ f0 f_keys f_days f_amounts f_versions cI fkeys fdays famounts fversions fcount ++ wR_ r0 r_keys r_days r_values cI rkeys rdays rvalues rcount) sz)) 3 18 (va_A (wD_ d0 s0 z0 b0 q0 t0 dhasSaved dkeptError dmoved ++ wS_ s0 v0 f0 r0 ++ wV_ v0 v_keys v_firsts v_ends v_values v_inferred v_gone cI cZ vkeys vfirsts vends vvalues vinferred vgone vmade ++ wF_ f0 f_keys f_days f_amounts f_versions cI fkeys fdays famounts fversions fcount ++ wR_ r0 r_keys r_days r_values cI rkeys rdays rvalues rcount) sz) := by
  refine mety_ (cc := cX5_validOn) (maxL := 3) (ret := (some .int)) (Qcf := fun A => Xi_ (dC, dI) (ty_ cI cZ cC cJ cD) R (wD_ d0 s0 z0 b0 q0 t0 dhasSaved dkeptError dmoved ++ wS_ s0 v0 f0 r0 ++ wV_ v0 v_keys v_firsts v_ends v_values v_inferred v_gone cI cZ vkeys vfirsts vends vvalues vinferred vgone vmade ++ wF_ f0 f_keys f_days f_amounts f_versions cI fkeys fdays famounts fversions fcount ++ wR_ r0 r_keys r_days r_values cI rkeys rdays rvalues rcount) A) (XCf := fun A => XX_ (dC, dI) (ty_ cI cZ cC cJ cD) R (wD_ d0 s0 z0 b0 q0 t0 dhasSaved dkeptError dmoved ++ wS_ s0 v0 f0 r0 ++ wV_ v0 v_keys v_firsts v_ends v_values v_inferred v_gone cI cZ vkeys vfirsts vends vvalues vinferred vgone vmade ++ wF_ f0 f_keys f_days f_amounts f_versions cI fkeys fdays famounts fversions fcount ++ wR_ r0 r_keys r_days r_values cI rkeys rdays rvalues rcount) A) (by decide) rfl (Nat.le_of_ble_eq_true rfl) ?_
  intro p e s m args below meth c A ls hx hb hr hts hown hlocks hml htab hA hU hN hC hP hK hD hl
  have hown : s.vm.findClass RX5 = some m.cls := hown
  have hl : lv_has ls 3 [(0, .ref d0), (1, .int a1), (2, .int a2)] := hl
  have hS : va_S A s.heap s.heap [] := va_S.rf
  have fl10_ : (Cond.fieldLink RX5 10 "DimensionLoader" "live" "LDimensionLoader$Store;").before args s = true := hts _ (List.mem_of_getElem? (i := 1) rfl)
  have fl51_ : (Cond.fieldLink RX5 51 "DimensionLoader$Store" "versions" "LDimensionLoader$Versions;").before args s = true := hts _ (List.mem_of_getElem? (i := 2) rfl)
  have inX2_ : ∀ w ∈ wsX20, w ∈ wsX5_validOn := in_X5_validOn_X2
  have inX5_ : ∀ w ∈ wsX50, w ∈ wsX5_validOn := in_X5_validOn_X5
  unfold f_X5_validOn at hf
  dsimp only at hf
  refine lv_iload_n hx hb dX5_validOn_0 rfl (lv_at hl 1 rfl) ?_
  obtain ⟨R3, g4, hf⟩ := bd_B hf
  obtain ⟨x1, rfl⟩ : ∃ z, z = R3 := ⟨_, rfl⟩
  have hPc := hP.sub (ws' := []) [] rfl
  have hDc := hD.sub (ws' := []) [] (by decide) rfl
  have hFc := va_free (wc := []) hD hS hA [] rfl
  cases x1 with
  | error E9 =>
    have hR := Option.some.inj hf
    subst hR
    refine vx_callv (vx_runS (As := [.int a1]) (rest := []) ⟨hx, hb, hml, hown, hts⟩ (c_X5_checkKey l dC dI cI cZ cC cJ cD hst s.heap.size a1 (Except.error E9) g4) (cwS 1 hts gX5_validOn_X5_checkKey rfl rfl rfl hs_X5_checkKey ⟨Nat.le_of_ble_eq_true rfl, Nat.le_of_ble_eq_true rfl⟩) (preSy_ hPc hK hDc rfl hS hU hN hFc hC) rfl rfl hl.1 rfl (lv_room (Nat.le_of_ble_eq_true rfl)) dX5_validOn_1 ⟨Nat.le_of_ble_eq_true rfl, Nat.le_of_ble_eq_true rfl⟩) hS (fun q _ h => hFc q h) hFc (fun q _ h => hFc q h) (fun E ce q9 u t H7 locs ht hvm hp hB hz1 hk1 hS hce hcv hcl => ?_) (fun u t H7 locs ht hvm hw hB hz1 hk1 hS => ?_)
    · obtain ⟨hE, hB⟩ := hB
      cases hE
      obtain ⟨hP, hD⟩ := aft_ (Wr := wD_ d0 s0 z0 b0 q0 t0 dhasSaved dkeptError dmoved ++ wS_ s0 v0 f0 r0 ++ wV_ v0 v_keys v_firsts v_ends v_values v_inferred v_gone cI cZ vkeys vfirsts vends vvalues vinferred vgone vmade ++ wF_ f0 f_keys f_days f_amounts f_versions cI fkeys fdays famounts fversions fcount ++ wR_ r0 r_keys r_days r_values cI rkeys rdays rvalues rcount) (Wc' := []) (W2 := wD_ d0 s0 z0 b0 q0 t0 dhasSaved dkeptError dmoved ++ wS_ s0 v0 f0 r0 ++ wV_ v0 v_keys v_firsts v_ends v_values v_inferred v_gone cI cZ vkeys vfirsts vends vvalues vinferred vgone vmade ++ wF_ f0 f_keys f_days f_amounts f_versions cI fkeys fdays famounts fversions fcount ++ wR_ r0 r_keys r_days r_values cI rkeys rdays rvalues rcount) hP hD [] [0, 1, 2, 3, 4, 5, 6, 7, 8, 9, 10, 11, 12, 13, 14, 15, 16, 17] [0, 1, 2, 3, 4, 5, 6, 7, 8, 9, 10, 11, 12, 13, 14, 15, 16, 17] rfl rfl (by decide) (by decide) (by decide) hk1 hFc hB ht rfl
      exact vx_out (fun x h => (htab x h).elim) hlocks hce hcv hcl (thr2_ hS hP hK hD rfl) hS.2.2 (Nat.le_of_ble_eq_true rfl) (Nat.le_of_ble_eq_true rfl)
    · exact absurd hw (fun h => nomatch h)
  | ok v2 =>
    refine vx_callv (vx_runS (As := [.int a1]) (rest := []) ⟨hx, hb, hml, hown, hts⟩ (c_X5_checkKey l dC dI cI cZ cC cJ cD hst s.heap.size a1 (Except.ok ()) g4) (cwS 1 hts gX5_validOn_X5_checkKey rfl rfl rfl hs_X5_checkKey ⟨Nat.le_of_ble_eq_true rfl, Nat.le_of_ble_eq_true rfl⟩) (preSy_ hPc hK hDc rfl hS hU hN hFc hC) rfl rfl hl.1 rfl (lv_room (Nat.le_of_ble_eq_true rfl)) dX5_validOn_1 ⟨Nat.le_of_ble_eq_true rfl, Nat.le_of_ble_eq_true rfl⟩) hS (fun q _ h => hFc q h) hFc (fun q _ h => hFc q h) (fun E ce q9 u t H7 locs ht hvm hp hB hz1 hk1 hS hce hcv hcl => ?_) (fun u t H7 locs ht hvm hw hB hz1 hk1 hS => ?_)
    · exact absurd hB.1 (fun h => nomatch h)
    · obtain ⟨hP, hD⟩ := aft_ (Wr := wD_ d0 s0 z0 b0 q0 t0 dhasSaved dkeptError dmoved ++ wS_ s0 v0 f0 r0 ++ wV_ v0 v_keys v_firsts v_ends v_values v_inferred v_gone cI cZ vkeys vfirsts vends vvalues vinferred vgone vmade ++ wF_ f0 f_keys f_days f_amounts f_versions cI fkeys fdays famounts fversions fcount ++ wR_ r0 r_keys r_days r_values cI rkeys rdays rvalues rcount) (Wc' := []) (W2 := wD_ d0 s0 z0 b0 q0 t0 dhasSaved dkeptError dmoved ++ wS_ s0 v0 f0 r0 ++ wV_ v0 v_keys v_firsts v_ends v_values v_inferred v_gone cI cZ vkeys vfirsts vends vvalues vinferred vgone vmade ++ wF_ f0 f_keys f_days f_amounts f_versions cI fkeys fdays famounts fversions fcount ++ wR_ r0 r_keys r_days r_values cI rkeys rdays rvalues rcount) hP hD [] [0, 1, 2, 3, 4, 5, 6, 7, 8, 9, 10, 11, 12, 13, 14, 15, 16, 17] [0, 1, 2, 3, 4, 5, 6, 7, 8, 9, 10, 11, 12, 13, 14, 15, 16, 17] rfl rfl (by decide) (by decide) (by decide) hk1 hFc hB ht rfl
      refine lv_iload_n hx hb dX5_validOn_4 rfl (lv_at hl 2 rfl) ?_
      obtain ⟨R12, g13, hf⟩ := bd_B hf
      obtain ⟨x10, rfl⟩ : ∃ z, z = R12 := ⟨_, rfl⟩
      have hPc := hP.sub (ws' := []) [] rfl
      have hDc := hD.sub (ws' := []) [] (by decide) rfl
      have hFc := va_free (wc := []) hD hS hA [] rfl
      cases x10 with
      | error E18 =>
        have hR := Option.some.inj hf
        subst hR
        refine vx_callv (vx_runS (As := [.int a2]) (rest := []) ⟨hx, hb, hml, hown, hts⟩ (c_X5_checkDay l dC dI cI cZ cC cJ cD hst H7.size a2 (Except.error E18) g13) (cwS 1 hts gX5_validOn_X5_checkDay rfl rfl rfl hs_X5_checkDay ⟨Nat.le_of_ble_eq_true rfl, Nat.le_of_ble_eq_true rfl⟩) (preSy_ hPc hK hDc rfl hS hU hN hFc hC) rfl rfl hl.1 rfl (lv_room (Nat.le_of_ble_eq_true rfl)) dX5_validOn_5 ⟨Nat.le_of_ble_eq_true rfl, Nat.le_of_ble_eq_true rfl⟩) hS (fun q _ h => hFc q h) hFc (fun q _ h => hFc q h) (fun E ce q9 u t H16 locs ht hvm hp hB hz1 hk1 hS hce hcv hcl => ?_) (fun u t H16 locs ht hvm hw hB hz1 hk1 hS => ?_)
        · obtain ⟨hE, hB⟩ := hB
          cases hE
          obtain ⟨hP, hD⟩ := aft_ (Wr := wD_ d0 s0 z0 b0 q0 t0 dhasSaved dkeptError dmoved ++ wS_ s0 v0 f0 r0 ++ wV_ v0 v_keys v_firsts v_ends v_values v_inferred v_gone cI cZ vkeys vfirsts vends vvalues vinferred vgone vmade ++ wF_ f0 f_keys f_days f_amounts f_versions cI fkeys fdays famounts fversions fcount ++ wR_ r0 r_keys r_days r_values cI rkeys rdays rvalues rcount) (Wc' := []) (W2 := wD_ d0 s0 z0 b0 q0 t0 dhasSaved dkeptError dmoved ++ wS_ s0 v0 f0 r0 ++ wV_ v0 v_keys v_firsts v_ends v_values v_inferred v_gone cI cZ vkeys vfirsts vends vvalues vinferred vgone vmade ++ wF_ f0 f_keys f_days f_amounts f_versions cI fkeys fdays famounts fversions fcount ++ wR_ r0 r_keys r_days r_values cI rkeys rdays rvalues rcount) hP hD [] [0, 1, 2, 3, 4, 5, 6, 7, 8, 9, 10, 11, 12, 13, 14, 15, 16, 17] [0, 1, 2, 3, 4, 5, 6, 7, 8, 9, 10, 11, 12, 13, 14, 15, 16, 17] rfl rfl (by decide) (by decide) (by decide) hk1 hFc hB ht rfl
          exact vx_out (fun x h => (htab x h).elim) hlocks hce hcv hcl (thr2_ hS hP hK hD rfl) hS.2.2 (Nat.le_of_ble_eq_true rfl) (Nat.le_of_ble_eq_true rfl)
        · exact absurd hw (fun h => nomatch h)
      | ok v11 =>
        refine vx_callv (vx_runS (As := [.int a2]) (rest := []) ⟨hx, hb, hml, hown, hts⟩ (c_X5_checkDay l dC dI cI cZ cC cJ cD hst H7.size a2 (Except.ok ()) g13) (cwS 1 hts gX5_validOn_X5_checkDay rfl rfl rfl hs_X5_checkDay ⟨Nat.le_of_ble_eq_true rfl, Nat.le_of_ble_eq_true rfl⟩) (preSy_ hPc hK hDc rfl hS hU hN hFc hC) rfl rfl hl.1 rfl (lv_room (Nat.le_of_ble_eq_true rfl)) dX5_validOn_5 ⟨Nat.le_of_ble_eq_true rfl, Nat.le_of_ble_eq_true rfl⟩) hS (fun q _ h => hFc q h) hFc (fun q _ h => hFc q h) (fun E ce q9 u t H16 locs ht hvm hp hB hz1 hk1 hS hce hcv hcl => ?_) (fun u t H16 locs ht hvm hw hB hz1 hk1 hS => ?_)
        · exact absurd hB.1 (fun h => nomatch h)
        · obtain ⟨hP, hD⟩ := aft_ (Wr := wD_ d0 s0 z0 b0 q0 t0 dhasSaved dkeptError dmoved ++ wS_ s0 v0 f0 r0 ++ wV_ v0 v_keys v_firsts v_ends v_values v_inferred v_gone cI cZ vkeys vfirsts vends vvalues vinferred vgone vmade ++ wF_ f0 f_keys f_days f_amounts f_versions cI fkeys fdays famounts fversions fcount ++ wR_ r0 r_keys r_days r_values cI rkeys rdays rvalues rcount) (Wc' := []) (W2 := wD_ d0 s0 z0 b0 q0 t0 dhasSaved dkeptError dmoved ++ wS_ s0 v0 f0 r0 ++ wV_ v0 v_keys v_firsts v_ends v_values v_inferred v_gone cI cZ vkeys vfirsts vends vvalues vinferred vgone vmade ++ wF_ f0 f_keys f_days f_amounts f_versions cI fkeys fdays famounts fversions fcount ++ wR_ r0 r_keys r_days r_values cI rkeys rdays rvalues rcount) hP hD [] [0, 1, 2, 3, 4, 5, 6, 7, 8, 9, 10, 11, 12, 13, 14, 15, 16, 17] [0, 1, 2, 3, 4, 5, 6, 7, 8, 9, 10, 11, 12, 13, 14, 15, 16, 17] rfl rfl (by decide) (by decide) (by decide) hk1 hFc hB ht rfl
          refine lv_aload_n hx hb dX5_validOn_8 rfl (lv_at hl 0 rfl) ?_
          refine va_get (D := (dC, dI)) (ci := 7) (v := .ref s0) (C := RX5) (T := TX5) (N := 8) hx hb hts inX5_ hown hK hP 0 rfl rfl 0 (by decide) fl10_ (fun _ h9 => h9) rfl dX5_validOn_9 ?_
          refine va_get (D := (dC, dI)) (ci := 4) (v := .ref v0) (C := RX2) (T := TX2) (N := 3) hx hb hts inX2_ hown hK hP 1 rfl rfl 0 (by decide) fl51_ (fun _ h9 => h9) rfl dX5_validOn_12 ?_
          refine lv_iload_n hx hb dX5_validOn_15 rfl (lv_at hl 1 rfl) ?_
          refine lv_iload_n hx hb dX5_validOn_16 rfl (lv_at hl 2 rfl) ?_
          obtain ⟨R20, g21, hf⟩ := bd_B hf
          obtain ⟨r19, rfl⟩ : ∃ z, z = R20 := ⟨_, rfl⟩
          have hPc := hP.sub (ws' := wV_ v0 v_keys v_firsts v_ends v_values v_inferred v_gone cI cZ vkeys vfirsts vends vvalues vinferred vgone vmade) [2, 3, 4, 5, 6, 7, 8] rfl
          have hDc := hD.sub (ws' := wV_ v0 v_keys v_firsts v_ends v_values v_inferred v_gone cI cZ vkeys vfirsts vends vvalues vinferred vgone vmade) [2, 3, 4, 5, 6, 7, 8] (by decide) rfl
          have hFc := va_free (wc := wV_ v0 v_keys v_firsts v_ends v_values v_inferred v_gone cI cZ vkeys vfirsts vends vvalues vinferred vgone vmade) hD hS hA [2, 3, 4, 5, 6, 7, 8] rfl
          refine va_calli (va_runV (As := [.int a1, .int a2]) (rest := []) ⟨hx, hb, hml, hown, hts⟩ (c_X4_onDay l dC dI cI cZ cC cJ cD v0 v_keys v_firsts v_ends v_values v_inferred v_gone H16.size vkeys vfirsts vends vvalues vinferred vgone vmade a1 a2 r19 g21) (cwV 2 hts gX5_validOn_X4_onDay rfl rfl rfl hs_X4_onDay ⟨Nat.le_of_ble_eq_true rfl, Nat.le_of_ble_eq_true rfl⟩) (preV_ (ci := 6) (q0 := 0) hPc hK hDc rfl rfl rfl rfl) rfl rfl hl.1 rfl (lv_room (Nat.le_of_ble_eq_true rfl)) dX5_validOn_17 ⟨Nat.le_of_ble_eq_true rfl, Nat.le_of_ble_eq_true rfl⟩) hS (fun q _ h => hFc q h) hFc (fun z23 u t H22 locs ht hvm hw hB hz1 hk1 hS => ?_)
          have hw : r19 = z23 := hw.symm
          subst hw
          obtain ⟨hP, hD⟩ := aft_ (Wr := wD_ d0 s0 z0 b0 q0 t0 dhasSaved dkeptError dmoved ++ wS_ s0 v0 f0 r0 ++ wF_ f0 f_keys f_days f_amounts f_versions cI fkeys fdays famounts fversions fcount ++ wR_ r0 r_keys r_days r_values cI rkeys rdays rvalues rcount) (Wc' := wV_ v0 v_keys v_firsts v_ends v_values v_inferred v_gone cI cZ vkeys vfirsts vends vvalues vinferred vgone vmade) (W2 := wD_ d0 s0 z0 b0 q0 t0 dhasSaved dkeptError dmoved ++ wS_ s0 v0 f0 r0 ++ wV_ v0 v_keys v_firsts v_ends v_values v_inferred v_gone cI cZ vkeys vfirsts vends vvalues vinferred vgone vmade ++ wF_ f0 f_keys f_days f_amounts f_versions cI fkeys fdays famounts fversions fcount ++ wR_ r0 r_keys r_days r_values cI rkeys rdays rvalues rcount) hP hD [2, 3, 4, 5, 6, 7, 8] [0, 1, 9, 10, 11, 12, 13, 14, 15, 16, 17] [0, 1, 11, 12, 13, 14, 15, 16, 17, 2, 3, 4, 5, 6, 7, 8, 9, 10] rfl rfl (by decide) (by decide) (by decide) hk1 hFc hB ht rfl
          obtain ⟨R26, g27, hf⟩ := bd_B hf
          obtain ⟨x24, rfl⟩ : ∃ z, z = R26 := ⟨_, rfl⟩
          have hPc := hP.sub (ws' := []) [] rfl
          have hDc := hD.sub (ws' := []) [] (by decide) rfl
          have hFc := va_free (wc := []) hD hS hA [] rfl
          cases x24 with
          | error E32 =>
            have hR := Option.some.inj hf
            subst hR
            refine vx_calli (vx_runS (As := [.int r19]) (rest := []) ⟨hx, hb, hml, hown, hts⟩ (c_X5_found l dC dI cI cZ cC cJ cD hst H22.size r19 (Except.error E32) g27) (cwS 1 hts gX5_validOn_X5_found rfl rfl rfl hs_X5_found ⟨Nat.le_of_ble_eq_true rfl, Nat.le_of_ble_eq_true rfl⟩) (preSy_ hPc hK hDc rfl hS hU hN hFc hC) rfl rfl hl.1 rfl (lv_room (Nat.le_of_ble_eq_true rfl)) dX5_validOn_20 ⟨Nat.le_of_ble_eq_true rfl, Nat.le_of_ble_eq_true rfl⟩) hS (fun q _ h => hFc q h) hFc (fun q _ h => hFc q h) (fun E ce q9 u t H30 locs ht hvm hp hB hz1 hk1 hS hce hcv hcl => ?_) (fun z31 u t H30 locs ht hvm hw hB hz1 hk1 hS => ?_)
            · obtain ⟨hE, hB⟩ := hB
              cases hE
              obtain ⟨hP, hD⟩ := aft_ (Wr := wD_ d0 s0 z0 b0 q0 t0 dhasSaved dkeptError dmoved ++ wS_ s0 v0 f0 r0 ++ wV_ v0 v_keys v_firsts v_ends v_values v_inferred v_gone cI cZ vkeys vfirsts vends vvalues vinferred vgone vmade ++ wF_ f0 f_keys f_days f_amounts f_versions cI fkeys fdays famounts fversions fcount ++ wR_ r0 r_keys r_days r_values cI rkeys rdays rvalues rcount) (Wc' := []) (W2 := wD_ d0 s0 z0 b0 q0 t0 dhasSaved dkeptError dmoved ++ wS_ s0 v0 f0 r0 ++ wV_ v0 v_keys v_firsts v_ends v_values v_inferred v_gone cI cZ vkeys vfirsts vends vvalues vinferred vgone vmade ++ wF_ f0 f_keys f_days f_amounts f_versions cI fkeys fdays famounts fversions fcount ++ wR_ r0 r_keys r_days r_values cI rkeys rdays rvalues rcount) hP hD [] [0, 1, 2, 3, 4, 5, 6, 7, 8, 9, 10, 11, 12, 13, 14, 15, 16, 17] [0, 1, 2, 3, 4, 5, 6, 7, 8, 9, 10, 11, 12, 13, 14, 15, 16, 17] rfl rfl (by decide) (by decide) (by decide) hk1 hFc hB ht rfl
              exact vx_out (fun x h => (htab x h).elim) hlocks hce hcv hcl (thr2_ hS hP hK hD rfl) hS.2.2 (Nat.le_of_ble_eq_true rfl) (Nat.le_of_ble_eq_true rfl)
            · exact absurd hw (fun h => nomatch h)
          | ok r25 =>
            refine vx_calli (vx_runS (As := [.int r19]) (rest := []) ⟨hx, hb, hml, hown, hts⟩ (c_X5_found l dC dI cI cZ cC cJ cD hst H22.size r19 (Except.ok r25) g27) (cwS 1 hts gX5_validOn_X5_found rfl rfl rfl hs_X5_found ⟨Nat.le_of_ble_eq_true rfl, Nat.le_of_ble_eq_true rfl⟩) (preSy_ hPc hK hDc rfl hS hU hN hFc hC) rfl rfl hl.1 rfl (lv_room (Nat.le_of_ble_eq_true rfl)) dX5_validOn_20 ⟨Nat.le_of_ble_eq_true rfl, Nat.le_of_ble_eq_true rfl⟩) hS (fun q _ h => hFc q h) hFc (fun q _ h => hFc q h) (fun E ce q9 u t H30 locs ht hvm hp hB hz1 hk1 hS hce hcv hcl => ?_) (fun z31 u t H30 locs ht hvm hw hB hz1 hk1 hS => ?_)
            · exact absurd hB.1 (fun h => nomatch h)
            · have hw : r25 = z31 := Except.ok.inj hw
              subst hw
              obtain ⟨hP, hD⟩ := aft_ (Wr := wD_ d0 s0 z0 b0 q0 t0 dhasSaved dkeptError dmoved ++ wS_ s0 v0 f0 r0 ++ wV_ v0 v_keys v_firsts v_ends v_values v_inferred v_gone cI cZ vkeys vfirsts vends vvalues vinferred vgone vmade ++ wF_ f0 f_keys f_days f_amounts f_versions cI fkeys fdays famounts fversions fcount ++ wR_ r0 r_keys r_days r_values cI rkeys rdays rvalues rcount) (Wc' := []) (W2 := wD_ d0 s0 z0 b0 q0 t0 dhasSaved dkeptError dmoved ++ wS_ s0 v0 f0 r0 ++ wV_ v0 v_keys v_firsts v_ends v_values v_inferred v_gone cI cZ vkeys vfirsts vends vvalues vinferred vgone vmade ++ wF_ f0 f_keys f_days f_amounts f_versions cI fkeys fdays famounts fversions fcount ++ wR_ r0 r_keys r_days r_values cI rkeys rdays rvalues rcount) hP hD [] [0, 1, 2, 3, 4, 5, 6, 7, 8, 9, 10, 11, 12, 13, 14, 15, 16, 17] [0, 1, 2, 3, 4, 5, 6, 7, 8, 9, 10, 11, 12, 13, 14, 15, 16, 17] rfl rfl (by decide) (by decide) (by decide) hk1 hFc hB ht rfl
              have hR := Option.some.inj hf
              subst hR
              refine vx_ret (W.widen (k := 3) (n := 18) (Nat.le_of_ble_eq_true rfl) (Nat.le_of_ble_eq_true rfl) ?_)
              exact W.iret (v := r25) hx hb hr (fun t ht hW => ⟨⟨r25, (), rfl, rfl, by rw [ht]; exact hP, va_K.moved hW.alike hK, hD⟩, hS.F ht⟩) hS.2.2 dX5_validOn_23
theorem hs_X5_validOn : yX5_validOn.cls = RX5 ∧ yX5_validOn.cls ≠ "java/lang/invoke/MethodHandle" ∧ yX5_validOn.cls ≠ "java/lang/invoke/VarHandle" ∧ (parseMethodDescriptor yX5_validOn.desc).map (fun d => d.parameters.length) = some 2 := by decide +kernel
set_option maxRecDepth 20000 in
theorem in_X5_version_X2 : ∀ w ∈ wsX20, w ∈ wsX5_version := by decide +kernel
set_option maxRecDepth 20000 in
theorem in_X5_version_X4 : ∀ w ∈ wsX40, w ∈ wsX5_version := by decide +kernel
set_option maxRecDepth 20000 in
theorem in_X5_version_X5 : ∀ w ∈ wsX50, w ∈ wsX5_version := by decide +kernel
set_option maxRecDepth 20000 in
theorem at_X5_version_153 : ∀ w ∈ (vx_at0 RX5 153 "java/lang/IllegalArgumentException" ["java/lang/RuntimeException", "java/lang/Exception"]).filter goodWord, w ∈ wsX5_version := by decide +kernel
set_option maxRecDepth 20000 in
theorem at_X5_version_153g : ∀ w ∈ Cond.classLink RX5 151 "java/lang/IllegalArgumentException" :: Cond.initialized "java/lang/IllegalArgumentException" :: vx_at0 RX5 153 "java/lang/IllegalArgumentException" ["java/lang/RuntimeException", "java/lang/Exception"], vx_ot w = true := by decide +kernel
def f_X5_version (a1 : Int32) (a2 : Int32) (D_ : tD_) (S_ : tS_) (V_ : tV_) (F_ : tF_) (R_ : tR_) : Option (Except String Int32) :=
match D_ with
| (dhasSaved, dkeptError, dmoved) =>
match V_ with
| (vkeys, vfirsts, vends, vvalues, vinferred, vgone, vmade) =>
match F_ with
| (fkeys, fdays, famounts, fversions, fcount) =>
match R_ with
| (rkeys, rdays, rvalues, rcount) =>
bd_ (f_X5_checkVersion a1 (dhasSaved, dkeptError, dmoved) () (vkeys, vfirsts, vends, vvalues, vinferred, vgone, vmade) (fkeys, fdays, famounts, fversions, fcount) (rkeys, rdays, rvalues, rcount)) (fun x1 =>
match x1 with
| Except.error E9 => some (Except.error E9)
| Except.ok v2 =>
if a2 = 0 then
gd_ a1 60 (
some (Except.ok (vkeys a1.toNatClampNeg)))
else
if a2 = 1 then
gd_ a1 60 (
some (Except.ok (vfirsts a1.toNatClampNeg)))
else
if a2 = 2 then
gd_ a1 60 (
some (Except.ok (vends a1.toNatClampNeg)))
else
if a2 = 3 then
gd_ a1 60 (
some (Except.ok (vvalues a1.toNatClampNeg)))
else
if a2 = 4 then
bd_ (f_X0_countOf a1 (fkeys, fdays, famounts, fversions, fcount)) (fun r19 =>
some (Except.ok r19))
else
if a2 = 5 then
bd_ (f_X4_days a1 (vkeys, vfirsts, vends, vvalues, vinferred, vgone, vmade)) (fun r25 =>
some (Except.ok r25))
else
some (Except.error "java/lang/IllegalArgumentException"))
abbrev rm_X5_version : Room := { frames := 7, cells := 2, slots := 12, locals := 110 }
set_option maxHeartbeats 4000000 in
set_option maxRecDepth 100000 in
theorem c_X5_version (l : Launch) (dC : Nat → ClassId) (dI : Nat → Nat → Nat) (cI cZ cC cJ cD : ClassId) (hst : l.stackTraces = false) (d0 s0 z0 b0 q0 t0 v0 f0 r0 v_keys v_firsts v_ends v_values v_inferred v_gone f_keys f_days f_amounts f_versions r_keys r_days r_values : Nat) (sz : Nat) (dhasSaved : Int32) (dkeptError : Int32) (dmoved : Int32) (vkeys : Nat → Int32) (vfirsts : Nat → Int32) (vends : Nat → Int32) (vvalues : Nat → Int32) (vinferred : Nat → Int32) (vgone : Nat → Int32) (vmade : Int32) (fkeys : Nat → Int32) (fdays : Nat → Int32) (famounts : Nat → Int32) (fversions : Nat → Int32) (fcount : Int32) (rkeys : Nat → Int32) (rdays : Nat → Int32) (rvalues : Nat → Int32) (rcount : Int32) (a1 : Int32) (a2 : Int32) (R : Except String Int32) (hf : f_X5_version a1 a2 (dhasSaved, dkeptError, dmoved) () (vkeys, vfirsts, vends, vvalues, vinferred, vgone, vmade) (fkeys, fdays, famounts, fversions, fcount) (rkeys, rdays, rvalues, rcount) = some R) : vx_Met l yX5_version wsX5_version rm_X5_version (Py_ (dC, dI) (ty_ cI cZ cC cJ cD) (wD_ d0 s0 z0 b0 q0 t0 dhasSaved dkeptError dmoved ++ wS_ s0 v0 f0 r0 ++ wV_ v0 v_keys v_firsts v_ends v_values v_inferred v_gone cI cZ vkeys vfirsts vends vvalues vinferred vgone vmade ++ wF_ f0 f_keys f_days f_amounts f_versions cI fkeys fdays famounts fversions fcount ++ wR_ r0 r_keys r_days r_values cI rkeys rdays rvalues rcount) sz [.ref d0, .int a1, .int a2]) (Xi_ (dC, dI) (ty_ cI cZ cC cJ cD) R (wD_ d0 s0 z0 b0 q0 t0 dhasSaved dkeptError dmoved ++ wS_ s0 v0 f0 r0 ++ wV_ v0 v_keys v_firsts v_ends v_values v_inferred v_gone cI cZ vkeys vfirsts vends vvalues vinferred vgone vmade ++ wF_ f0 f_keys f_days f_amounts f_versions cI fkeys fdays famounts fversions fcount ++ wR_ r0 r_keys r_days r_values cI rkeys rdays rvalues rcount) (va_A (wD_ d0 s0 z0 b0 q0 t0 dhasSaved dkeptError dmoved ++ wS_ s0 v0 f0 r0 ++ wV_ v0 v_keys v_firsts v_ends v_values v_inferred v_gone cI cZ vkeys vfirsts vends vvalues vinferred vgone vmade ++ wF_ f0 f_keys f_days f_amounts f_versions cI fkeys fdays famounts fversions fcount ++ wR_ r0 r_keys r_days r_values cI rkeys rdays rvalues rcount) sz)) (XX_ (dC, dI) (ty_ cI cZ cC cJ cD) R (wD_ d0 s0 z0 b0 q0 t0 dhasSaved dkeptError dmoved ++ wS_ s0 v0 f0 r0 ++ wV_ v0 v_keys v_firsts v_ends v_values v_inferred v_gone cI cZ vkeys vfirsts vends vvalues vinferred vgone vmade ++ wF_ f0 f_keys f_days f_amounts f_versions cI fkeys fdays famounts fversions fcount ++ wR_ r0 r_keys r_days r_values cI rkeys rdays rvalues rcount) (va_A (wD_ d0 s0 z0 b0 q0 t0 dhasSaved dkeptError dmoved ++ wS_ s0 v0 f0 r0 ++ wV_ v0 v_keys v_firsts v_ends v_values v_inferred v_gone cI cZ vkeys vfirsts vends vvalues vinferred vgone vmade ++ wF_ f0 f_keys f_days f_amounts f_versions cI fkeys fdays famounts fversions fcount ++ wR_ r0 r_keys r_days r_values cI rkeys rdays rvalues rcount) sz)) 2 12 (va_A (wD_ d0 s0 z0 b0 q0 t0 dhasSaved dkeptError dmoved ++ wS_ s0 v0 f0 r0 ++ wV_ v0 v_keys v_firsts v_ends v_values v_inferred v_gone cI cZ vkeys vfirsts vends vvalues vinferred vgone vmade ++ wF_ f0 f_keys f_days f_amounts f_versions cI fkeys fdays famounts fversions fcount ++ wR_ r0 r_keys r_days r_values cI rkeys rdays rvalues rcount) sz) := by
  refine mety_ (cc := cX5_version) (maxL := 3) (ret := (some .int)) (Qcf := fun A => Xi_ (dC, dI) (ty_ cI cZ cC cJ cD) R (wD_ d0 s0 z0 b0 q0 t0 dhasSaved dkeptError dmoved ++ wS_ s0 v0 f0 r0 ++ wV_ v0 v_keys v_firsts v_ends v_values v_inferred v_gone cI cZ vkeys vfirsts vends vvalues vinferred vgone vmade ++ wF_ f0 f_keys f_days f_amounts f_versions cI fkeys fdays famounts fversions fcount ++ wR_ r0 r_keys r_days r_values cI rkeys rdays rvalues rcount) A) (XCf := fun A => XX_ (dC, dI) (ty_ cI cZ cC cJ cD) R (wD_ d0 s0 z0 b0 q0 t0 dhasSaved dkeptError dmoved ++ wS_ s0 v0 f0 r0 ++ wV_ v0 v_keys v_firsts v_ends v_values v_inferred v_gone cI cZ vkeys vfirsts vends vvalues vinferred vgone vmade ++ wF_ f0 f_keys f_days f_amounts f_versions cI fkeys fdays famounts fversions fcount ++ wR_ r0 r_keys r_days r_values cI rkeys rdays rvalues rcount) A) (by decide) rfl (Nat.le_of_ble_eq_true rfl) ?_
  intro p e s m args below meth c A ls hx hb hr hts hown hlocks hml htab hA hU hN hC hP hK hD hl
  have hown : s.vm.findClass RX5 = some m.cls := hown
  have hl : lv_has ls 3 [(0, .ref d0), (1, .int a1), (2, .int a2)] := hl
  have hS : va_S A s.heap s.heap [] := va_S.rf
  have fl10_ : (Cond.fieldLink RX5 10 "DimensionLoader" "live" "LDimensionLoader$Store;").before args s = true := hts _ (List.mem_of_getElem? (i := 3) rfl)
  have fl51_ : (Cond.fieldLink RX5 51 "DimensionLoader$Store" "versions" "LDimensionLoader$Versions;").before args s = true := hts _ (List.mem_of_getElem? (i := 4) rfl)
  have fl64_ : (Cond.fieldLink RX5 64 "DimensionLoader$Store" "facts" "LDimensionLoader$Facts;").before args s = true := hts _ (List.mem_of_getElem? (i := 9) rfl)
  have fl88_ : (Cond.fieldLink RX5 88 "DimensionLoader$Versions" "firsts" "[I").before args s = true := hts _ (List.mem_of_getElem? (i := 6) rfl)
  have fl96_ : (Cond.fieldLink RX5 96 "DimensionLoader$Versions" "ends" "[I").before args s = true := hts _ (List.mem_of_getElem? (i := 7) rfl)
  have fl102_ : (Cond.fieldLink RX5 102 "DimensionLoader$Versions" "values" "[I").before args s = true := hts _ (List.mem_of_getElem? (i := 8) rfl)
  have fl145_ : (Cond.fieldLink RX5 145 "DimensionLoader$Versions" "keys" "[I").before args s = true := hts _ (List.mem_of_getElem? (i := 5) rfl)
  have inX2_ : ∀ w ∈ wsX20, w ∈ wsX5_version := in_X5_version_X2
  have inX4_ : ∀ w ∈ wsX40, w ∈ wsX5_version := in_X5_version_X4
  have inX5_ : ∀ w ∈ wsX50, w ∈ wsX5_version := in_X5_version_X5
  unfold f_X5_version at hf
  dsimp only at hf
  refine lv_aload_n hx hb dX5_version_0 rfl (lv_at hl 0 rfl) ?_
  refine lv_iload_n hx hb dX5_version_1 rfl (lv_at hl 1 rfl) ?_
  obtain ⟨R3, g4, hf⟩ := bd_B hf
  obtain ⟨x1, rfl⟩ : ∃ z, z = R3 := ⟨_, rfl⟩
  have hPc := hP
  have hDc := hD
  have hFc := va_free (wc := wD_ d0 s0 z0 b0 q0 t0 dhasSaved dkeptError dmoved ++ wS_ s0 v0 f0 r0 ++ wV_ v0 v_keys v_firsts v_ends v_values v_inferred v_gone cI cZ vkeys vfirsts vends vvalues vinferred vgone vmade ++ wF_ f0 f_keys f_days f_amounts f_versions cI fkeys fdays famounts fversions fcount ++ wR_ r0 r_keys r_days r_values cI rkeys rdays rvalues rcount) hD hS hA [0, 1, 2, 3, 4, 5, 6, 7, 8, 9, 10, 11, 12, 13, 14, 15, 16, 17] rfl
  cases x1 with
  | error E9 =>
    have hR := Option.some.inj hf
    subst hR
    refine vx_callv (vx_runV (As := [.int a1]) (rest := []) ⟨hx, hb, hml, hown, hts⟩ (c_X5_checkVersion l dC dI cI cZ cC cJ cD hst d0 s0 z0 b0 q0 t0 v0 f0 r0 v_keys v_firsts v_ends v_values v_inferred v_gone f_keys f_days f_amounts f_versions r_keys r_days r_values s.heap.size dhasSaved dkeptError dmoved vkeys vfirsts vends vvalues vinferred vgone vmade fkeys fdays famounts fversions fcount rkeys rdays rvalues rcount a1 (Except.error E9) g4) (cwV 1 hts gX5_version_X5_checkVersion rfl rfl rfl hs_X5_checkVersion ⟨Nat.le_of_ble_eq_true rfl, Nat.le_of_ble_eq_true rfl⟩) (preVy_ (ci := 7) (q0 := 0) hPc hK hDc rfl rfl rfl rfl hS hU hN hFc hC) rfl rfl hl.1 rfl (lv_room (Nat.le_of_ble_eq_true rfl)) dX5_version_2 ⟨Nat.le_of_ble_eq_true rfl, Nat.le_of_ble_eq_true rfl⟩) hS (fun q _ h => hFc q h) hFc (fun q _ h => hFc q h) (fun E ce q9 u t H7 locs ht hvm hp hB hz1 hk1 hS hce hcv hcl => ?_) (fun u t H7 locs ht hvm hw hB hz1 hk1 hS => ?_)
    · obtain ⟨hE, hB⟩ := hB
      cases hE
      obtain ⟨hP, hD⟩ := aft_ (Wr := []) (Wc' := wD_ d0 s0 z0 b0 q0 t0 dhasSaved dkeptError dmoved ++ wS_ s0 v0 f0 r0 ++ wV_ v0 v_keys v_firsts v_ends v_values v_inferred v_gone cI cZ vkeys vfirsts vends vvalues vinferred vgone vmade ++ wF_ f0 f_keys f_days f_amounts f_versions cI fkeys fdays famounts fversions fcount ++ wR_ r0 r_keys r_days r_values cI rkeys rdays rvalues rcount) (W2 := wD_ d0 s0 z0 b0 q0 t0 dhasSaved dkeptError dmoved ++ wS_ s0 v0 f0 r0 ++ wV_ v0 v_keys v_firsts v_ends v_values v_inferred v_gone cI cZ vkeys vfirsts vends vvalues vinferred vgone vmade ++ wF_ f0 f_keys f_days f_amounts f_versions cI fkeys fdays famounts fversions fcount ++ wR_ r0 r_keys r_days r_values cI rkeys rdays rvalues rcount) hP hD [0, 1, 2, 3, 4, 5, 6, 7, 8, 9, 10, 11, 12, 13, 14, 15, 16, 17] [] [0, 1, 2, 3, 4, 5, 6, 7, 8, 9, 10, 11, 12, 13, 14, 15, 16, 17] rfl rfl (by decide) (by decide) (by decide) hk1 hFc hB ht rfl
      exact vx_out (fun x h => (htab x h).elim) hlocks hce hcv hcl (thr2_ hS hP hK hD rfl) hS.2.2 (Nat.le_of_ble_eq_true rfl) (Nat.le_of_ble_eq_true rfl)
    · exact absurd hw (fun h => nomatch h)
  | ok v2 =>
    refine vx_callv (vx_runV (As := [.int a1]) (rest := []) ⟨hx, hb, hml, hown, hts⟩ (c_X5_checkVersion l dC dI cI cZ cC cJ cD hst d0 s0 z0 b0 q0 t0 v0 f0 r0 v_keys v_firsts v_ends v_values v_inferred v_gone f_keys f_days f_amounts f_versions r_keys r_days r_values s.heap.size dhasSaved dkeptError dmoved vkeys vfirsts vends vvalues vinferred vgone vmade fkeys fdays famounts fversions fcount rkeys rdays rvalues rcount a1 (Except.ok ()) g4) (cwV 1 hts gX5_version_X5_checkVersion rfl rfl rfl hs_X5_checkVersion ⟨Nat.le_of_ble_eq_true rfl, Nat.le_of_ble_eq_true rfl⟩) (preVy_ (ci := 7) (q0 := 0) hPc hK hDc rfl rfl rfl rfl hS hU hN hFc hC) rfl rfl hl.1 rfl (lv_room (Nat.le_of_ble_eq_true rfl)) dX5_version_2 ⟨Nat.le_of_ble_eq_true rfl, Nat.le_of_ble_eq_true rfl⟩) hS (fun q _ h => hFc q h) hFc (fun q _ h => hFc q h) (fun E ce q9 u t H7 locs ht hvm hp hB hz1 hk1 hS hce hcv hcl => ?_) (fun u t H7 locs ht hvm hw hB hz1 hk1 hS => ?_)
    · exact absurd hB.1 (fun h => nomatch h)
    · obtain ⟨hP, hD⟩ := aft_ (Wr := []) (Wc' := wD_ d0 s0 z0 b0 q0 t0 dhasSaved dkeptError dmoved ++ wS_ s0 v0 f0 r0 ++ wV_ v0 v_keys v_firsts v_ends v_values v_inferred v_gone cI cZ vkeys vfirsts vends vvalues vinferred vgone vmade ++ wF_ f0 f_keys f_days f_amounts f_versions cI fkeys fdays famounts fversions fcount ++ wR_ r0 r_keys r_days r_values cI rkeys rdays rvalues rcount) (W2 := wD_ d0 s0 z0 b0 q0 t0 dhasSaved dkeptError dmoved ++ wS_ s0 v0 f0 r0 ++ wV_ v0 v_keys v_firsts v_ends v_values v_inferred v_gone cI cZ vkeys vfirsts vends vvalues vinferred vgone vmade ++ wF_ f0 f_keys f_days f_amounts f_versions cI fkeys fdays famounts fversions fcount ++ wR_ r0 r_keys r_days r_values cI rkeys rdays rvalues rcount) hP hD [0, 1, 2, 3, 4, 5, 6, 7, 8, 9, 10, 11, 12, 13, 14, 15, 16, 17] [] [0, 1, 2, 3, 4, 5, 6, 7, 8, 9, 10, 11, 12, 13, 14, 15, 16, 17] rfl rfl (by decide) (by decide) (by decide) hk1 hFc hB ht rfl
      refine lv_iload_n hx hb dX5_version_5 rfl (lv_at hl 2 rfl) ?_
      by_cases c10 : a2 = 0
      · have hf := ite_T c10 hf
        refine lv_tableIn (tgt := 44) (off := 38) hx hb dX5_version_6 (by rw [c10]; decide) (by rw [c10]; decide) (by rw [c10]; rfl) (by decide) ?_
        refine lv_aload_n hx hb dX5_version_44 rfl (lv_at hl 0 rfl) ?_
        refine va_get (D := (dC, dI)) (ci := 7) (v := .ref s0) (C := RX5) (T := TX5) (N := 8) hx hb hts inX5_ hown hK hP 0 rfl rfl 0 (by decide) fl10_ (fun _ h9 => h9) rfl dX5_version_45 ?_
        refine va_get (D := (dC, dI)) (ci := 4) (v := .ref v0) (C := RX2) (T := TX2) (N := 3) hx hb hts inX2_ hown hK hP 1 rfl rfl 0 (by decide) fl51_ (fun _ h9 => h9) rfl dX5_version_48 ?_
        refine va_get (D := (dC, dI)) (ci := 6) (v := .ref v_keys) (C := RX4) (T := TX4) (N := 7) hx hb hts inX4_ hown hK hP 2 rfl rfl 0 (by decide) fl145_ (fun _ h9 => h9) rfl dX5_version_51 ?_
        refine lv_iload_n hx hb dX5_version_54 rfl (lv_at hl 1 rfl) ?_
        obtain ⟨h11, hf⟩ := gd_T hf
        refine va_iald hx hb hK hP 3 0 rfl rfl h11 dX5_version_55 ?_
        have hR := Option.some.inj hf
        subst hR
        refine vx_ret (W.widen (k := 2) (n := 12) (Nat.le_of_ble_eq_true rfl) (Nat.le_of_ble_eq_true rfl) ?_)
        exact W.iret (v := vkeys a1.toNatClampNeg) hx hb hr (fun t ht hW => ⟨⟨vkeys a1.toNatClampNeg, (), rfl, rfl, by rw [ht]; exact hP, va_K.moved hW.alike hK, hD⟩, hS.F ht⟩) hS.2.2 dX5_version_56
      · have hf := ite_F c10 hf
        by_cases c12 : a2 = 1
        · have hf := ite_T c12 hf
          refine lv_tableIn (tgt := 57) (off := 51) hx hb dX5_version_6 (by rw [c12]; decide) (by rw [c12]; decide) (by rw [c12]; rfl) (by decide) ?_
          refine lv_aload_n hx hb dX5_version_57 rfl (lv_at hl 0 rfl) ?_
          refine va_get (D := (dC, dI)) (ci := 7) (v := .ref s0) (C := RX5) (T := TX5) (N := 8) hx hb hts inX5_ hown hK hP 0 rfl rfl 0 (by decide) fl10_ (fun _ h9 => h9) rfl dX5_version_58 ?_
          refine va_get (D := (dC, dI)) (ci := 4) (v := .ref v0) (C := RX2) (T := TX2) (N := 3) hx hb hts inX2_ hown hK hP 1 rfl rfl 0 (by decide) fl51_ (fun _ h9 => h9) rfl dX5_version_61 ?_
          refine va_get (D := (dC, dI)) (ci := 6) (v := .ref v_firsts) (C := RX4) (T := TX4) (N := 7) hx hb hts inX4_ hown hK hP 2 rfl rfl 1 (by decide) fl88_ (fun _ h9 => h9) rfl dX5_version_64 ?_
          refine lv_iload_n hx hb dX5_version_67 rfl (lv_at hl 1 rfl) ?_
          obtain ⟨h13, hf⟩ := gd_T hf
          refine va_iald hx hb hK hP 4 0 rfl rfl h13 dX5_version_68 ?_
          have hR := Option.some.inj hf
          subst hR
          refine vx_ret (W.widen (k := 2) (n := 12) (Nat.le_of_ble_eq_true rfl) (Nat.le_of_ble_eq_true rfl) ?_)
          exact W.iret (v := vfirsts a1.toNatClampNeg) hx hb hr (fun t ht hW => ⟨⟨vfirsts a1.toNatClampNeg, (), rfl, rfl, by rw [ht]; exact hP, va_K.moved hW.alike hK, hD⟩, hS.F ht⟩) hS.2.2 dX5_version_69
        · have hf := ite_F c12 hf
          by_cases c14 : a2 = 2
          · have hf := ite_T c14 hf
            refine lv_tableIn (tgt := 70) (off := 64) hx hb dX5_version_6 (by rw [c14]; decide) (by rw [c14]; decide) (by rw [c14]; rfl) (by decide) ?_
            refine lv_aload_n hx hb dX5_version_70 rfl (lv_at hl 0 rfl) ?_
            refine va_get (D := (dC, dI)) (ci := 7) (v := .ref s0) (C := RX5) (T := TX5) (N := 8) hx hb hts inX5_ hown hK hP 0 rfl rfl 0 (by decide) fl10_ (fun _ h9 => h9) rfl dX5_version_71 ?_
            refine va_get (D := (dC, dI)) (ci := 4) (v := .ref v0) (C := RX2) (T := TX2) (N := 3) hx hb hts inX2_ hown hK hP 1 rfl rfl 0 (by decide) fl51_ (fun _ h9 => h9) rfl dX5_version_74 ?_
            refine va_get (D := (dC, dI)) (ci := 6) (v := .ref v_ends) (C := RX4) (T := TX4) (N := 7) hx hb hts inX4_ hown hK hP 2 rfl rfl 2 (by decide) fl96_ (fun _ h9 => h9) rfl dX5_version_77 ?_
            refine lv_iload_n hx hb dX5_version_80 rfl (lv_at hl 1 rfl) ?_
            obtain ⟨h15, hf⟩ := gd_T hf
            refine va_iald hx hb hK hP 5 0 rfl rfl h15 dX5_version_81 ?_
            have hR := Option.some.inj hf
            subst hR
            refine vx_ret (W.widen (k := 2) (n := 12) (Nat.le_of_ble_eq_true rfl) (Nat.le_of_ble_eq_true rfl) ?_)
            exact W.iret (v := vends a1.toNatClampNeg) hx hb hr (fun t ht hW => ⟨⟨vends a1.toNatClampNeg, (), rfl, rfl, by rw [ht]; exact hP, va_K.moved hW.alike hK, hD⟩, hS.F ht⟩) hS.2.2 dX5_version_82
          · have hf := ite_F c14 hf
            by_cases c16 : a2 = 3
            · have hf := ite_T c16 hf
              refine lv_tableIn (tgt := 83) (off := 77) hx hb dX5_version_6 (by rw [c16]; decide) (by rw [c16]; decide) (by rw [c16]; rfl) (by decide) ?_
              refine lv_aload_n hx hb dX5_version_83 rfl (lv_at hl 0 rfl) ?_
              refine va_get (D := (dC, dI)) (ci := 7) (v := .ref s0) (C := RX5) (T := TX5) (N := 8) hx hb hts inX5_ hown hK hP 0 rfl rfl 0 (by decide) fl10_ (fun _ h9 => h9) rfl dX5_version_84 ?_
              refine va_get (D := (dC, dI)) (ci := 4) (v := .ref v0) (C := RX2) (T := TX2) (N := 3) hx hb hts inX2_ hown hK hP 1 rfl rfl 0 (by decide) fl51_ (fun _ h9 => h9) rfl dX5_version_87 ?_
              refine va_get (D := (dC, dI)) (ci := 6) (v := .ref v_values) (C := RX4) (T := TX4) (N := 7) hx hb hts inX4_ hown hK hP 2 rfl rfl 3 (by decide) fl102_ (fun _ h9 => h9) rfl dX5_version_90 ?_
              refine lv_iload_n hx hb dX5_version_93 rfl (lv_at hl 1 rfl) ?_
              obtain ⟨h17, hf⟩ := gd_T hf
              refine va_iald hx hb hK hP 6 0 rfl rfl h17 dX5_version_94 ?_
              have hR := Option.some.inj hf
              subst hR
              refine vx_ret (W.widen (k := 2) (n := 12) (Nat.le_of_ble_eq_true rfl) (Nat.le_of_ble_eq_true rfl) ?_)
              exact W.iret (v := vvalues a1.toNatClampNeg) hx hb hr (fun t ht hW => ⟨⟨vvalues a1.toNatClampNeg, (), rfl, rfl, by rw [ht]; exact hP, va_K.moved hW.alike hK, hD⟩, hS.F ht⟩) hS.2.2 dX5_version_95
            · have hf := ite_F c16 hf
              by_cases c18 : a2 = 4
              · have hf := ite_T c18 hf
                refine lv_tableIn (tgt := 96) (off := 90) hx hb dX5_version_6 (by rw [c18]; decide) (by rw [c18]; decide) (by rw [c18]; rfl) (by decide) ?_
                refine lv_aload_n hx hb dX5_version_96 rfl (lv_at hl 0 rfl) ?_
                refine va_get (D := (dC, dI)) (ci := 7) (v := .ref s0) (C := RX5) (T := TX5) (N := 8) hx hb hts inX5_ hown hK hP 0 rfl rfl 0 (by decide) fl10_ (fun _ h9 => h9) rfl dX5_version_97 ?_
                refine va_get (D := (dC, dI)) (ci := 4) (v := .ref f0) (C := RX2) (T := TX2) (N := 3) hx hb hts inX2_ hown hK hP 1 rfl rfl 1 (by decide) fl64_ (fun _ h9 => h9) rfl dX5_version_100 ?_
                refine lv_iload_n hx hb dX5_version_103 rfl (lv_at hl 1 rfl) ?_
                obtain ⟨R20, g21, hf⟩ := bd_B hf
                obtain ⟨r19, rfl⟩ : ∃ z, z = R20 := ⟨_, rfl⟩
                have hPc := hP.sub (ws' := wF_ f0 f_keys f_days f_amounts f_versions cI fkeys fdays famounts fversions fcount) [9, 10, 11, 12, 13] rfl
                have hDc := hD.sub (ws' := wF_ f0 f_keys f_days f_amounts f_versions cI fkeys fdays famounts fversions fcount) [9, 10, 11, 12, 13] (by decide) rfl
                have hFc := va_free (wc := wF_ f0 f_keys f_days f_amounts f_versions cI fkeys fdays famounts fversions fcount) hD hS hA [9, 10, 11, 12, 13] rfl
                refine va_calli (va_runV (As := [.int a1]) (rest := []) ⟨hx, hb, hml, hown, hts⟩ (c_X0_countOf l dC dI cI cZ cC cJ cD f0 f_keys f_days f_amounts f_versions H7.size fkeys fdays famounts fversions fcount a1 r19 g21) (cwV 1 hts gX5_version_X0_countOf rfl rfl rfl hs_X0_countOf ⟨Nat.le_of_ble_eq_true rfl, Nat.le_of_ble_eq_true rfl⟩) (preV_ (ci := 2) (q0 := 0) hPc hK hDc rfl rfl rfl rfl) rfl rfl hl.1 rfl (lv_room (Nat.le_of_ble_eq_true rfl)) dX5_version_104 ⟨Nat.le_of_ble_eq_true rfl, Nat.le_of_ble_eq_true rfl⟩) hS (fun q _ h => hFc q h) hFc (fun z23 u t H22 locs ht hvm hw hB hz1 hk1 hS => ?_)
                have hw : r19 = z23 := hw.symm
                subst hw
                obtain ⟨hP, hD⟩ := aft_ (Wr := wD_ d0 s0 z0 b0 q0 t0 dhasSaved dkeptError dmoved ++ wS_ s0 v0 f0 r0 ++ wV_ v0 v_keys v_firsts v_ends v_values v_inferred v_gone cI cZ vkeys vfirsts vends vvalues vinferred vgone vmade ++ wR_ r0 r_keys r_days r_values cI rkeys rdays rvalues rcount) (Wc' := wF_ f0 f_keys f_days f_amounts f_versions cI fkeys fdays famounts fversions fcount) (W2 := wD_ d0 s0 z0 b0 q0 t0 dhasSaved dkeptError dmoved ++ wS_ s0 v0 f0 r0 ++ wV_ v0 v_keys v_firsts v_ends v_values v_inferred v_gone cI cZ vkeys vfirsts vends vvalues vinferred vgone vmade ++ wF_ f0 f_keys f_days f_amounts f_versions cI fkeys fdays famounts fversions fcount ++ wR_ r0 r_keys r_days r_values cI rkeys rdays rvalues rcount) hP hD [9, 10, 11, 12, 13] [0, 1, 2, 3, 4, 5, 6, 7, 8, 14, 15, 16, 17] [0, 1, 2, 3, 4, 5, 6, 7, 8, 13, 14, 15, 16, 17, 9, 10, 11, 12] rfl rfl (by decide) (by decide) (by decide) hk1 hFc hB ht rfl
                have hR := Option.some.inj hf
                subst hR
                refine vx_ret (W.widen (k := 2) (n := 12) (Nat.le_of_ble_eq_true rfl) (Nat.le_of_ble_eq_true rfl) ?_)
                exact W.iret (v := r19) hx hb hr (fun t ht hW => ⟨⟨r19, (), rfl, rfl, by rw [ht]; exact hP, va_K.moved hW.alike hK, hD⟩, hS.F ht⟩) hS.2.2 dX5_version_107
              · have hf := ite_F c18 hf
                by_cases c24 : a2 = 5
                · have hf := ite_T c24 hf
                  refine lv_tableIn (tgt := 108) (off := 102) hx hb dX5_version_6 (by rw [c24]; decide) (by rw [c24]; decide) (by rw [c24]; rfl) (by decide) ?_
                  refine lv_aload_n hx hb dX5_version_108 rfl (lv_at hl 0 rfl) ?_
                  refine va_get (D := (dC, dI)) (ci := 7) (v := .ref s0) (C := RX5) (T := TX5) (N := 8) hx hb hts inX5_ hown hK hP 0 rfl rfl 0 (by decide) fl10_ (fun _ h9 => h9) rfl dX5_version_109 ?_
                  refine va_get (D := (dC, dI)) (ci := 4) (v := .ref v0) (C := RX2) (T := TX2) (N := 3) hx hb hts inX2_ hown hK hP 1 rfl rfl 0 (by decide) fl51_ (fun _ h9 => h9) rfl dX5_version_112 ?_
                  refine lv_iload_n hx hb dX5_version_115 rfl (lv_at hl 1 rfl) ?_
                  obtain ⟨R26, g27, hf⟩ := bd_B hf
                  obtain ⟨r25, rfl⟩ : ∃ z, z = R26 := ⟨_, rfl⟩
                  have hPc := hP.sub (ws' := wV_ v0 v_keys v_firsts v_ends v_values v_inferred v_gone cI cZ vkeys vfirsts vends vvalues vinferred vgone vmade) [2, 3, 4, 5, 6, 7, 8] rfl
                  have hDc := hD.sub (ws' := wV_ v0 v_keys v_firsts v_ends v_values v_inferred v_gone cI cZ vkeys vfirsts vends vvalues vinferred vgone vmade) [2, 3, 4, 5, 6, 7, 8] (by decide) rfl
                  have hFc := va_free (wc := wV_ v0 v_keys v_firsts v_ends v_values v_inferred v_gone cI cZ vkeys vfirsts vends vvalues vinferred vgone vmade) hD hS hA [2, 3, 4, 5, 6, 7, 8] rfl
                  refine va_calli (va_runV (As := [.int a1]) (rest := []) ⟨hx, hb, hml, hown, hts⟩ (c_X4_days l dC dI cI cZ cC cJ cD v0 v_keys v_firsts v_ends v_values v_inferred v_gone H7.size vkeys vfirsts vends vvalues vinferred vgone vmade a1 r25 g27) (cwV 1 hts gX5_version_X4_days rfl rfl rfl hs_X4_days ⟨Nat.le_of_ble_eq_true rfl, Nat.le_of_ble_eq_true rfl⟩) (preV_ (ci := 6) (q0 := 0) hPc hK hDc rfl rfl rfl rfl) rfl rfl hl.1 rfl (lv_room (Nat.le_of_ble_eq_true rfl)) dX5_version_116 ⟨Nat.le_of_ble_eq_true rfl, Nat.le_of_ble_eq_true rfl⟩) hS (fun q _ h => hFc q h) hFc (fun z29 u t H28 locs ht hvm hw hB hz1 hk1 hS => ?_)
                  have hw : r25 = z29 := hw.symm
                  subst hw
                  obtain ⟨hP, hD⟩ := aft_ (Wr := wD_ d0 s0 z0 b0 q0 t0 dhasSaved dkeptError dmoved ++ wS_ s0 v0 f0 r0 ++ wF_ f0 f_keys f_days f_amounts f_versions cI fkeys fdays famounts fversions fcount ++ wR_ r0 r_keys r_days r_values cI rkeys rdays rvalues rcount) (Wc' := wV_ v0 v_keys v_firsts v_ends v_values v_inferred v_gone cI cZ vkeys vfirsts vends vvalues vinferred vgone vmade) (W2 := wD_ d0 s0 z0 b0 q0 t0 dhasSaved dkeptError dmoved ++ wS_ s0 v0 f0 r0 ++ wV_ v0 v_keys v_firsts v_ends v_values v_inferred v_gone cI cZ vkeys vfirsts vends vvalues vinferred vgone vmade ++ wF_ f0 f_keys f_days f_amounts f_versions cI fkeys fdays famounts fversions fcount ++ wR_ r0 r_keys r_days r_values cI rkeys rdays rvalues rcount) hP hD [2, 3, 4, 5, 6, 7, 8] [0, 1, 9, 10, 11, 12, 13, 14, 15, 16, 17] [0, 1, 11, 12, 13, 14, 15, 16, 17, 2, 3, 4, 5, 6, 7, 8, 9, 10] rfl rfl (by decide) (by decide) (by decide) hk1 hFc hB ht rfl
                  have hR := Option.some.inj hf
                  subst hR
                  refine vx_ret (W.widen (k := 2) (n := 12) (Nat.le_of_ble_eq_true rfl) (Nat.le_of_ble_eq_true rfl) ?_)
                  exact W.iret (v := r25) hx hb hr (fun t ht hW => ⟨⟨r25, (), rfl, rfl, by rw [ht]; exact hP, va_K.moved hW.alike hK, hD⟩, hS.F ht⟩) hS.2.2 dX5_version_119
                · have hf := ite_F c24 hf
                  have t0_ := ne_L c10 (show (0 : Int32).toInt = 0 by decide)
                  have t1_ := ne_L c12 (show (1 : Int32).toInt = 1 by decide)
                  have t2_ := ne_L c14 (show (2 : Int32).toInt = 2 by decide)
                  have t3_ := ne_L c16 (show (3 : Int32).toInt = 3 by decide)
                  have t4_ := ne_L c18 (show (4 : Int32).toInt = 4 by decide)
                  have t5_ := ne_L c24 (show (5 : Int32).toInt = 5 by decide)
                  refine lv_tableOut (tgt := 120) hx hb dX5_version_6 (by omega) (by decide) ?_
                  have hR := Option.some.inj hf
                  subst hR
                  exact vx_throw0 (names := ["java/lang/RuntimeException", "java/lang/Exception"]) hx hb hst hown (by decide +kernel) (by decide +kernel) (hts _ (List.mem_of_getElem? (i := 1) rfl)) (hts _ (List.mem_of_getElem? (i := 2) rfl)) (vx_hat (fun w h => hts w (at_X5_version_153 w h)) (atn_0 "java/lang/IllegalArgumentException" (by decide +kernel) 153 (by decide)) (hC.words (by decide +kernel))) at_X5_version_153g hU hN hS (hl.1.trans hml.symm) dX5_version_120 dX5_version_123 dX5_version_124 dX5_version_127 (fun x h => (htab x h).elim) (Nat.le_of_ble_eq_true rfl) (Nat.le_of_ble_eq_true rfl) (Nat.le_of_ble_eq_true rfl) (Nat.le_of_ble_eq_true rfl) hlocks (thr_ hS hP hK hD rfl) hS.2.2 (Nat.le_of_ble_eq_true rfl) (Nat.le_of_ble_eq_true rfl)
theorem hs_X5_version : yX5_version.cls = RX5 ∧ yX5_version.cls ≠ "java/lang/invoke/MethodHandle" ∧ yX5_version.cls ≠ "java/lang/invoke/VarHandle" ∧ (parseMethodDescriptor yX5_version.desc).map (fun d => d.parameters.length) = some 2 := by decide +kernel
set_option maxRecDepth 20000 in
theorem in_X5_isInferred_X2 : ∀ w ∈ wsX20, w ∈ wsX5_isInferred := by decide +kernel
set_option maxRecDepth 20000 in
theorem in_X5_isInferred_X4 : ∀ w ∈ wsX40, w ∈ wsX5_isInferred := by decide +kernel
set_option maxRecDepth 20000 in
theorem in_X5_isInferred_X5 : ∀ w ∈ wsX50, w ∈ wsX5_isInferred := by decide +kernel
def f_X5_isInferred (a1 : Int32) (D_ : tD_) (S_ : tS_) (V_ : tV_) (F_ : tF_) (R_ : tR_) : Option (Except String Int32) :=
match D_ with
| (dhasSaved, dkeptError, dmoved) =>
match V_ with
| (vkeys, vfirsts, vends, vvalues, vinferred, vgone, vmade) =>
match F_ with
| (fkeys, fdays, famounts, fversions, fcount) =>
match R_ with
| (rkeys, rdays, rvalues, rcount) =>
bd_ (f_X5_checkVersion a1 (dhasSaved, dkeptError, dmoved) () (vkeys, vfirsts, vends, vvalues, vinferred, vgone, vmade) (fkeys, fdays, famounts, fversions, fcount) (rkeys, rdays, rvalues, rcount)) (fun x1 =>
match x1 with
| Except.error E9 => some (Except.error E9)
| Except.ok v2 =>
gd_ a1 60 (
gb_ (vinferred a1.toNatClampNeg) (some (Except.ok (vinferred a1.toNatClampNeg)))))
abbrev rm_X5_isInferred : Room := { frames := 7, cells := 1, slots := 6, locals := 110 }
set_option maxHeartbeats 4000000 in
set_option maxRecDepth 100000 in
theorem c_X5_isInferred (l : Launch) (dC : Nat → ClassId) (dI : Nat → Nat → Nat) (cI cZ cC cJ cD : ClassId) (hst : l.stackTraces = false) (d0 s0 z0 b0 q0 t0 v0 f0 r0 v_keys v_firsts v_ends v_values v_inferred v_gone f_keys f_days f_amounts f_versions r_keys r_days r_values : Nat) (sz : Nat) (dhasSaved : Int32) (dkeptError : Int32) (dmoved : Int32) (vkeys : Nat → Int32) (vfirsts : Nat → Int32) (vends : Nat → Int32) (vvalues : Nat → Int32) (vinferred : Nat → Int32) (vgone : Nat → Int32) (vmade : Int32) (fkeys : Nat → Int32) (fdays : Nat → Int32) (famounts : Nat → Int32) (fversions : Nat → Int32) (fcount : Int32) (rkeys : Nat → Int32) (rdays : Nat → Int32) (rvalues : Nat → Int32) (rcount : Int32) (a1 : Int32) (R : Except String Int32) (hf : f_X5_isInferred a1 (dhasSaved, dkeptError, dmoved) () (vkeys, vfirsts, vends, vvalues, vinferred, vgone, vmade) (fkeys, fdays, famounts, fversions, fcount) (rkeys, rdays, rvalues, rcount) = some R) : vx_Met l yX5_isInferred wsX5_isInferred rm_X5_isInferred (Py_ (dC, dI) (ty_ cI cZ cC cJ cD) (wD_ d0 s0 z0 b0 q0 t0 dhasSaved dkeptError dmoved ++ wS_ s0 v0 f0 r0 ++ wV_ v0 v_keys v_firsts v_ends v_values v_inferred v_gone cI cZ vkeys vfirsts vends vvalues vinferred vgone vmade ++ wF_ f0 f_keys f_days f_amounts f_versions cI fkeys fdays famounts fversions fcount ++ wR_ r0 r_keys r_days r_values cI rkeys rdays rvalues rcount) sz [.ref d0, .int a1]) (Xi_ (dC, dI) (ty_ cI cZ cC cJ cD) R (wD_ d0 s0 z0 b0 q0 t0 dhasSaved dkeptError dmoved ++ wS_ s0 v0 f0 r0 ++ wV_ v0 v_keys v_firsts v_ends v_values v_inferred v_gone cI cZ vkeys vfirsts vends vvalues vinferred vgone vmade ++ wF_ f0 f_keys f_days f_amounts f_versions cI fkeys fdays famounts fversions fcount ++ wR_ r0 r_keys r_days r_values cI rkeys rdays rvalues rcount) (va_A (wD_ d0 s0 z0 b0 q0 t0 dhasSaved dkeptError dmoved ++ wS_ s0 v0 f0 r0 ++ wV_ v0 v_keys v_firsts v_ends v_values v_inferred v_gone cI cZ vkeys vfirsts vends vvalues vinferred vgone vmade ++ wF_ f0 f_keys f_days f_amounts f_versions cI fkeys fdays famounts fversions fcount ++ wR_ r0 r_keys r_days r_values cI rkeys rdays rvalues rcount) sz)) (XX_ (dC, dI) (ty_ cI cZ cC cJ cD) R (wD_ d0 s0 z0 b0 q0 t0 dhasSaved dkeptError dmoved ++ wS_ s0 v0 f0 r0 ++ wV_ v0 v_keys v_firsts v_ends v_values v_inferred v_gone cI cZ vkeys vfirsts vends vvalues vinferred vgone vmade ++ wF_ f0 f_keys f_days f_amounts f_versions cI fkeys fdays famounts fversions fcount ++ wR_ r0 r_keys r_days r_values cI rkeys rdays rvalues rcount) (va_A (wD_ d0 s0 z0 b0 q0 t0 dhasSaved dkeptError dmoved ++ wS_ s0 v0 f0 r0 ++ wV_ v0 v_keys v_firsts v_ends v_values v_inferred v_gone cI cZ vkeys vfirsts vends vvalues vinferred vgone vmade ++ wF_ f0 f_keys f_days f_amounts f_versions cI fkeys fdays famounts fversions fcount ++ wR_ r0 r_keys r_days r_values cI rkeys rdays rvalues rcount) sz)) 1 6 (va_A (wD_ d0 s0 z0 b0 q0 t0 dhasSaved dkeptError dmoved ++ wS_ s0 v0 f0 r0 ++ wV_ v0 v_keys v_firsts v_ends v_values v_inferred v_gone cI cZ vkeys vfirsts vends vvalues vinferred vgone vmade ++ wF_ f0 f_keys f_days f_amounts f_versions cI fkeys fdays famounts fversions fcount ++ wR_ r0 r_keys r_days r_values cI rkeys rdays rvalues rcount) sz) := by
  refine mety_ (cc := cX5_isInferred) (maxL := 2) (ret := (some .boolean)) (Qcf := fun A => Xi_ (dC, dI) (ty_ cI cZ cC cJ cD) R (wD_ d0 s0 z0 b0 q0 t0 dhasSaved dkeptError dmoved ++ wS_ s0 v0 f0 r0 ++ wV_ v0 v_keys v_firsts v_ends v_values v_inferred v_gone cI cZ vkeys vfirsts vends vvalues vinferred vgone vmade ++ wF_ f0 f_keys f_days f_amounts f_versions cI fkeys fdays famounts fversions fcount ++ wR_ r0 r_keys r_days r_values cI rkeys rdays rvalues rcount) A) (XCf := fun A => XX_ (dC, dI) (ty_ cI cZ cC cJ cD) R (wD_ d0 s0 z0 b0 q0 t0 dhasSaved dkeptError dmoved ++ wS_ s0 v0 f0 r0 ++ wV_ v0 v_keys v_firsts v_ends v_values v_inferred v_gone cI cZ vkeys vfirsts vends vvalues vinferred vgone vmade ++ wF_ f0 f_keys f_days f_amounts f_versions cI fkeys fdays famounts fversions fcount ++ wR_ r0 r_keys r_days r_values cI rkeys rdays rvalues rcount) A) (by decide) rfl (Nat.le_of_ble_eq_true rfl) ?_
  intro p e s m args below meth c A ls hx hb hr hts hown hlocks hml htab hA hU hN hC hP hK hD hl
  have hown : s.vm.findClass RX5 = some m.cls := hown
  have hl : lv_has ls 2 [(0, .ref d0), (1, .int a1)] := hl
  have hS : va_S A s.heap s.heap [] := va_S.rf
  have fl10_ : (Cond.fieldLink RX5 10 "DimensionLoader" "live" "LDimensionLoader$Store;").before args s = true := hts _ (List.mem_of_getElem? (i := 1) rfl)
  have fl51_ : (Cond.fieldLink RX5 51 "DimensionLoader$Store" "versions" "LDimensionLoader$Versions;").before args s = true := hts _ (List.mem_of_getElem? (i := 2) rfl)
  have fl154_ : (Cond.fieldLink RX5 154 "DimensionLoader$Versions" "inferred" "[Z").before args s = true := hts _ (List.mem_of_getElem? (i := 3) rfl)
  have inX2_ : ∀ w ∈ wsX20, w ∈ wsX5_isInferred := in_X5_isInferred_X2
  have inX4_ : ∀ w ∈ wsX40, w ∈ wsX5_isInferred := in_X5_isInferred_X4
  have inX5_ : ∀ w ∈ wsX50, w ∈ wsX5_isInferred := in_X5_isInferred_X5
  unfold f_X5_isInferred at hf
  dsimp only at hf
  refine lv_aload_n hx hb dX5_isInferred_0 rfl (lv_at hl 0 rfl) ?_
  refine lv_iload_n hx hb dX5_isInferred_1 rfl (lv_at hl 1 rfl) ?_
  obtain ⟨R3, g4, hf⟩ := bd_B hf
  obtain ⟨x1, rfl⟩ : ∃ z, z = R3 := ⟨_, rfl⟩
  have hPc := hP
  have hDc := hD
  have hFc := va_free (wc := wD_ d0 s0 z0 b0 q0 t0 dhasSaved dkeptError dmoved ++ wS_ s0 v0 f0 r0 ++ wV_ v0 v_keys v_firsts v_ends v_values v_inferred v_gone cI cZ vkeys vfirsts vends vvalues vinferred vgone vmade ++ wF_ f0 f_keys f_days f_amounts f_versions cI fkeys fdays famounts fversions fcount ++ wR_ r0 r_keys r_days r_values cI rkeys rdays rvalues rcount) hD hS hA [0, 1, 2, 3, 4, 5, 6, 7, 8, 9, 10, 11, 12, 13, 14, 15, 16, 17] rfl
  cases x1 with
  | error E9 =>
    have hR := Option.some.inj hf
    subst hR
    refine vx_callv (vx_runV (As := [.int a1]) (rest := []) ⟨hx, hb, hml, hown, hts⟩ (c_X5_checkVersion l dC dI cI cZ cC cJ cD hst d0 s0 z0 b0 q0 t0 v0 f0 r0 v_keys v_firsts v_ends v_values v_inferred v_gone f_keys f_days f_amounts f_versions r_keys r_days r_values s.heap.size dhasSaved dkeptError dmoved vkeys vfirsts vends vvalues vinferred vgone vmade fkeys fdays famounts fversions fcount rkeys rdays rvalues rcount a1 (Except.error E9) g4) (cwV 1 hts gX5_isInferred_X5_checkVersion rfl rfl rfl hs_X5_checkVersion ⟨Nat.le_of_ble_eq_true rfl, Nat.le_of_ble_eq_true rfl⟩) (preVy_ (ci := 7) (q0 := 0) hPc hK hDc rfl rfl rfl rfl hS hU hN hFc hC) rfl rfl hl.1 rfl (lv_room (Nat.le_of_ble_eq_true rfl)) dX5_isInferred_2 ⟨Nat.le_of_ble_eq_true rfl, Nat.le_of_ble_eq_true rfl⟩) hS (fun q _ h => hFc q h) hFc (fun q _ h => hFc q h) (fun E ce q9 u t H7 locs ht hvm hp hB hz1 hk1 hS hce hcv hcl => ?_) (fun u t H7 locs ht hvm hw hB hz1 hk1 hS => ?_)
    · obtain ⟨hE, hB⟩ := hB
      cases hE
      obtain ⟨hP, hD⟩ := aft_ (Wr := []) (Wc' := wD_ d0 s0 z0 b0 q0 t0 dhasSaved dkeptError dmoved ++ wS_ s0 v0 f0 r0 ++ wV_ v0 v_keys v_firsts v_ends v_values v_inferred v_gone cI cZ vkeys vfirsts vends vvalues vinferred vgone vmade ++ wF_ f0 f_keys f_days f_amounts f_versions cI fkeys fdays famounts fversions fcount ++ wR_ r0 r_keys r_days r_values cI rkeys rdays rvalues rcount) (W2 := wD_ d0 s0 z0 b0 q0 t0 dhasSaved dkeptError dmoved ++ wS_ s0 v0 f0 r0 ++ wV_ v0 v_keys v_firsts v_ends v_values v_inferred v_gone cI cZ vkeys vfirsts vends vvalues vinferred vgone vmade ++ wF_ f0 f_keys f_days f_amounts f_versions cI fkeys fdays famounts fversions fcount ++ wR_ r0 r_keys r_days r_values cI rkeys rdays rvalues rcount) hP hD [0, 1, 2, 3, 4, 5, 6, 7, 8, 9, 10, 11, 12, 13, 14, 15, 16, 17] [] [0, 1, 2, 3, 4, 5, 6, 7, 8, 9, 10, 11, 12, 13, 14, 15, 16, 17] rfl rfl (by decide) (by decide) (by decide) hk1 hFc hB ht rfl
      exact vx_out (fun x h => (htab x h).elim) hlocks hce hcv hcl (thr2_ hS hP hK hD rfl) hS.2.2 (Nat.le_of_ble_eq_true rfl) (Nat.le_of_ble_eq_true rfl)
    · exact absurd hw (fun h => nomatch h)
  | ok v2 =>
    refine vx_callv (vx_runV (As := [.int a1]) (rest := []) ⟨hx, hb, hml, hown, hts⟩ (c_X5_checkVersion l dC dI cI cZ cC cJ cD hst d0 s0 z0 b0 q0 t0 v0 f0 r0 v_keys v_firsts v_ends v_values v_inferred v_gone f_keys f_days f_amounts f_versions r_keys r_days r_values s.heap.size dhasSaved dkeptError dmoved vkeys vfirsts vends vvalues vinferred vgone vmade fkeys fdays famounts fversions fcount rkeys rdays rvalues rcount a1 (Except.ok ()) g4) (cwV 1 hts gX5_isInferred_X5_checkVersion rfl rfl rfl hs_X5_checkVersion ⟨Nat.le_of_ble_eq_true rfl, Nat.le_of_ble_eq_true rfl⟩) (preVy_ (ci := 7) (q0 := 0) hPc hK hDc rfl rfl rfl rfl hS hU hN hFc hC) rfl rfl hl.1 rfl (lv_room (Nat.le_of_ble_eq_true rfl)) dX5_isInferred_2 ⟨Nat.le_of_ble_eq_true rfl, Nat.le_of_ble_eq_true rfl⟩) hS (fun q _ h => hFc q h) hFc (fun q _ h => hFc q h) (fun E ce q9 u t H7 locs ht hvm hp hB hz1 hk1 hS hce hcv hcl => ?_) (fun u t H7 locs ht hvm hw hB hz1 hk1 hS => ?_)
    · exact absurd hB.1 (fun h => nomatch h)
    · obtain ⟨hP, hD⟩ := aft_ (Wr := []) (Wc' := wD_ d0 s0 z0 b0 q0 t0 dhasSaved dkeptError dmoved ++ wS_ s0 v0 f0 r0 ++ wV_ v0 v_keys v_firsts v_ends v_values v_inferred v_gone cI cZ vkeys vfirsts vends vvalues vinferred vgone vmade ++ wF_ f0 f_keys f_days f_amounts f_versions cI fkeys fdays famounts fversions fcount ++ wR_ r0 r_keys r_days r_values cI rkeys rdays rvalues rcount) (W2 := wD_ d0 s0 z0 b0 q0 t0 dhasSaved dkeptError dmoved ++ wS_ s0 v0 f0 r0 ++ wV_ v0 v_keys v_firsts v_ends v_values v_inferred v_gone cI cZ vkeys vfirsts vends vvalues vinferred vgone vmade ++ wF_ f0 f_keys f_days f_amounts f_versions cI fkeys fdays famounts fversions fcount ++ wR_ r0 r_keys r_days r_values cI rkeys rdays rvalues rcount) hP hD [0, 1, 2, 3, 4, 5, 6, 7, 8, 9, 10, 11, 12, 13, 14, 15, 16, 17] [] [0, 1, 2, 3, 4, 5, 6, 7, 8, 9, 10, 11, 12, 13, 14, 15, 16, 17] rfl rfl (by decide) (by decide) (by decide) hk1 hFc hB ht rfl
      refine lv_aload_n hx hb dX5_isInferred_5 rfl (lv_at hl 0 rfl) ?_
      refine va_get (D := (dC, dI)) (ci := 7) (v := .ref s0) (C := RX5) (T := TX5) (N := 8) hx hb hts inX5_ hown hK hP 0 rfl rfl 0 (by decide) fl10_ (fun _ h9 => h9) rfl dX5_isInferred_6 ?_
      refine va_get (D := (dC, dI)) (ci := 4) (v := .ref v0) (C := RX2) (T := TX2) (N := 3) hx hb hts inX2_ hown hK hP 1 rfl rfl 0 (by decide) fl51_ (fun _ h9 => h9) rfl dX5_isInferred_9 ?_
      refine va_get (D := (dC, dI)) (ci := 6) (v := .ref v_inferred) (C := RX4) (T := TX4) (N := 7) hx hb hts inX4_ hown hK hP 2 rfl rfl 4 (by decide) fl154_ (fun _ h9 => h9) rfl dX5_isInferred_12 ?_
      refine lv_iload_n hx hb dX5_isInferred_15 rfl (lv_at hl 1 rfl) ?_
      obtain ⟨h10, hf⟩ := gd_T hf
      refine va_zald hx hb hK hP 7 1 rfl rfl h10 dX5_isInferred_16 ?_
      obtain ⟨h11, hf⟩ := gb_T hf
      have hR := Option.some.inj hf
      subst hR
      refine vx_ret (W.widen (k := 1) (n := 6) (Nat.le_of_ble_eq_true rfl) (Nat.le_of_ble_eq_true rfl) ?_)
      exact W.zret (v := vinferred a1.toNatClampNeg) hx hb hr (nar_b h11) (fun t ht hW => ⟨⟨vinferred a1.toNatClampNeg, (), rfl, rfl, by rw [ht]; exact hP, va_K.moved hW.alike hK, hD⟩, hS.F ht⟩) hS.2.2 dX5_isInferred_17
theorem hs_X5_isInferred : yX5_isInferred.cls = RX5 ∧ yX5_isInferred.cls ≠ "java/lang/invoke/MethodHandle" ∧ yX5_isInferred.cls ≠ "java/lang/invoke/VarHandle" ∧ (parseMethodDescriptor yX5_isInferred.desc).map (fun d => d.parameters.length) = some 1 := by decide +kernel
set_option maxRecDepth 20000 in
theorem in_X5_removedCount_X2 : ∀ w ∈ wsX20, w ∈ wsX5_removedCount := by decide +kernel
set_option maxRecDepth 20000 in
theorem in_X5_removedCount_X4 : ∀ w ∈ wsX40, w ∈ wsX5_removedCount := by decide +kernel
set_option maxRecDepth 20000 in
theorem in_X5_removedCount_X5 : ∀ w ∈ wsX50, w ∈ wsX5_removedCount := by decide +kernel
def f_X5_removedCount  (D_ : tD_) (S_ : tS_) (V_ : tV_) (F_ : tF_) (R_ : tR_) : Option (Int32) :=
match D_ with
| (dhasSaved, dkeptError, dmoved) =>
match V_ with
| (vkeys, vfirsts, vends, vvalues, vinferred, vgone, vmade) =>
match F_ with
| (fkeys, fdays, famounts, fversions, fcount) =>
match R_ with
| (rkeys, rdays, rvalues, rcount) =>
bd_ (f_X4_count (vkeys, vfirsts, vends, vvalues, vinferred, vgone, vmade)) (fun r1 =>
some (vmade - r1))
abbrev rm_X5_removedCount : Room := { frames := 2, cells := 0, slots := 0, locals := 43 }
set_option maxHeartbeats 4000000 in
set_option maxRecDepth 100000 in
theorem c_X5_removedCount (l : Launch) (dC : Nat → ClassId) (dI : Nat → Nat → Nat) (cI cZ cC cJ cD : ClassId) (d0 s0 z0 b0 q0 t0 v0 f0 r0 v_keys v_firsts v_ends v_values v_inferred v_gone f_keys f_days f_amounts f_versions r_keys r_days r_values : Nat) (sz : Nat) (dhasSaved : Int32) (dkeptError : Int32) (dmoved : Int32) (vkeys : Nat → Int32) (vfirsts : Nat → Int32) (vends : Nat → Int32) (vvalues : Nat → Int32) (vinferred : Nat → Int32) (vgone : Nat → Int32) (vmade : Int32) (fkeys : Nat → Int32) (fdays : Nat → Int32) (famounts : Nat → Int32) (fversions : Nat → Int32) (fcount : Int32) (rkeys : Nat → Int32) (rdays : Nat → Int32) (rvalues : Nat → Int32) (rcount : Int32)  (R : Int32) (hf : f_X5_removedCount  (dhasSaved, dkeptError, dmoved) () (vkeys, vfirsts, vends, vvalues, vinferred, vgone, vmade) (fkeys, fdays, famounts, fversions, fcount) (rkeys, rdays, rvalues, rcount) = some R) : Met l yX5_removedCount wsX5_removedCount rm_X5_removedCount (Pc_ (dC, dI) (ty_ cI cZ cC cJ cD) (wD_ d0 s0 z0 b0 q0 t0 dhasSaved dkeptError dmoved ++ wS_ s0 v0 f0 r0 ++ wV_ v0 v_keys v_firsts v_ends v_values v_inferred v_gone cI cZ vkeys vfirsts vends vvalues vinferred vgone vmade ++ wF_ f0 f_keys f_days f_amounts f_versions cI fkeys fdays famounts fversions fcount ++ wR_ r0 r_keys r_days r_values cI rkeys rdays rvalues rcount) sz [.ref d0]) (Qi_ (dC, dI) (ty_ cI cZ cC cJ cD) R (wD_ d0 s0 z0 b0 q0 t0 dhasSaved dkeptError dmoved ++ wS_ s0 v0 f0 r0 ++ wV_ v0 v_keys v_firsts v_ends v_values v_inferred v_gone cI cZ vkeys vfirsts vends vvalues vinferred vgone vmade ++ wF_ f0 f_keys f_days f_amounts f_versions cI fkeys fdays famounts fversions fcount ++ wR_ r0 r_keys r_days r_values cI rkeys rdays rvalues rcount) (va_A (wD_ d0 s0 z0 b0 q0 t0 dhasSaved dkeptError dmoved ++ wS_ s0 v0 f0 r0 ++ wV_ v0 v_keys v_firsts v_ends v_values v_inferred v_gone cI cZ vkeys vfirsts vends vvalues vinferred vgone vmade ++ wF_ f0 f_keys f_days f_amounts f_versions cI fkeys fdays famounts fversions fcount ++ wR_ r0 r_keys r_days r_values cI rkeys rdays rvalues rcount) sz)) 0 0 (va_A (wD_ d0 s0 z0 b0 q0 t0 dhasSaved dkeptError dmoved ++ wS_ s0 v0 f0 r0 ++ wV_ v0 v_keys v_firsts v_ends v_values v_inferred v_gone cI cZ vkeys vfirsts vends vvalues vinferred vgone vmade ++ wF_ f0 f_keys f_days f_amounts f_versions cI fkeys fdays famounts fversions fcount ++ wR_ r0 r_keys r_days r_values cI rkeys rdays rvalues rcount) sz) := by
  refine met_ (cc := cX5_removedCount) (maxL := 1) (ret := (some .int)) (Qcf := fun A => Qi_ (dC, dI) (ty_ cI cZ cC cJ cD) R (wD_ d0 s0 z0 b0 q0 t0 dhasSaved dkeptError dmoved ++ wS_ s0 v0 f0 r0 ++ wV_ v0 v_keys v_firsts v_ends v_values v_inferred v_gone cI cZ vkeys vfirsts vends vvalues vinferred vgone vmade ++ wF_ f0 f_keys f_days f_amounts f_versions cI fkeys fdays famounts fversions fcount ++ wR_ r0 r_keys r_days r_values cI rkeys rdays rvalues rcount) A) (by decide) rfl (Nat.le_of_ble_eq_true rfl) ?_
  intro p e s m args below meth c A ls hx hb hr hts hown hlocks hml hA hP hK hD hl
  have hown : s.vm.findClass RX5 = some m.cls := hown
  have hl : lv_has ls 1 [(0, .ref d0)] := hl
  have hS : va_S A s.heap s.heap [] := va_S.rf
  have fl10_ : (Cond.fieldLink RX5 10 "DimensionLoader" "live" "LDimensionLoader$Store;").before args s = true := hts _ (List.mem_of_getElem? (i := 1) rfl)
  have fl51_ : (Cond.fieldLink RX5 51 "DimensionLoader$Store" "versions" "LDimensionLoader$Versions;").before args s = true := hts _ (List.mem_of_getElem? (i := 2) rfl)
  have fl164_ : (Cond.fieldLink RX5 164 "DimensionLoader$Versions" "made" "I").before args s = true := hts _ (List.mem_of_getElem? (i := 3) rfl)
  have inX2_ : ∀ w ∈ wsX20, w ∈ wsX5_removedCount := in_X5_removedCount_X2
  have inX4_ : ∀ w ∈ wsX40, w ∈ wsX5_removedCount := in_X5_removedCount_X4
  have inX5_ : ∀ w ∈ wsX50, w ∈ wsX5_removedCount := in_X5_removedCount_X5
  unfold f_X5_removedCount at hf
  dsimp only at hf
  refine lv_aload_n hx hb dX5_removedCount_0 rfl (lv_at hl 0 rfl) ?_
  refine va_get (D := (dC, dI)) (ci := 7) (v := .ref s0) (C := RX5) (T := TX5) (N := 8) hx hb hts inX5_ hown hK hP 0 rfl rfl 0 (by decide) fl10_ (fun _ h9 => h9) rfl dX5_removedCount_1 ?_
  refine va_get (D := (dC, dI)) (ci := 4) (v := .ref v0) (C := RX2) (T := TX2) (N := 3) hx hb hts inX2_ hown hK hP 1 rfl rfl 0 (by decide) fl51_ (fun _ h9 => h9) rfl dX5_removedCount_4 ?_
  refine va_get (D := (dC, dI)) (ci := 6) (v := .int vmade) (C := RX4) (T := TX4) (N := 7) hx hb hts inX4_ hown hK hP 2 rfl rfl 6 (by decide) fl164_ (fun _ h9 => h9) rfl dX5_removedCount_7 ?_
  refine lv_aload_n hx hb dX5_removedCount_10 rfl (lv_at hl 0 rfl) ?_
  refine va_get (D := (dC, dI)) (ci := 7) (v := .ref s0) (C := RX5) (T := TX5) (N := 8) hx hb hts inX5_ hown hK hP 0 rfl rfl 0 (by decide) fl10_ (fun _ h9 => h9) rfl dX5_removedCount_11 ?_
  refine va_get (D := (dC, dI)) (ci := 4) (v := .ref v0) (C := RX2) (T := TX2) (N := 3) hx hb hts inX2_ hown hK hP 1 rfl rfl 0 (by decide) fl51_ (fun _ h9 => h9) rfl dX5_removedCount_14 ?_
  obtain ⟨R2, g3, hf⟩ := bd_B hf
  obtain ⟨r1, rfl⟩ : ∃ z, z = R2 := ⟨_, rfl⟩
  have hPc := hP.sub (ws' := wV_ v0 v_keys v_firsts v_ends v_values v_inferred v_gone cI cZ vkeys vfirsts vends vvalues vinferred vgone vmade) [2, 3, 4, 5, 6, 7, 8] rfl
  have hDc := hD.sub (ws' := wV_ v0 v_keys v_firsts v_ends v_values v_inferred v_gone cI cZ vkeys vfirsts vends vvalues vinferred vgone vmade) [2, 3, 4, 5, 6, 7, 8] (by decide) rfl
  have hFc := va_free (wc := wV_ v0 v_keys v_firsts v_ends v_values v_inferred v_gone cI cZ vkeys vfirsts vends vvalues vinferred vgone vmade) hD hS hA [2, 3, 4, 5, 6, 7, 8] rfl
  refine va_calli (va_runV (As := []) (rest := [.int vmade]) ⟨hx, hb, hml, hown, hts⟩ (c_X4_count l dC dI cI cZ cC cJ cD v0 v_keys v_firsts v_ends v_values v_inferred v_gone s.heap.size vkeys vfirsts vends vvalues vinferred vgone vmade r1 g3) (cwV 0 hts gX5_removedCount_X4_count rfl rfl rfl hs_X4_count ⟨Nat.le_of_ble_eq_true rfl, Nat.le_of_ble_eq_true rfl⟩) (preV_ (ci := 6) (q0 := 0) hPc hK hDc rfl rfl rfl rfl) rfl rfl hl.1 rfl (lv_room (Nat.le_of_ble_eq_true rfl)) dX5_removedCount_17 ⟨Nat.le_of_ble_eq_true rfl, Nat.le_of_ble_eq_true rfl⟩) hS (fun q _ h => hFc q h) hFc (fun z5 u t H4 locs ht hvm hw hB hz1 hk1 hS => ?_)
  have hw : r1 = z5 := hw.symm
  subst hw
  obtain ⟨hP, hD⟩ := aft_ (Wr := wD_ d0 s0 z0 b0 q0 t0 dhasSaved dkeptError dmoved ++ wS_ s0 v0 f0 r0 ++ wF_ f0 f_keys f_days f_amounts f_versions cI fkeys fdays famounts fversions fcount ++ wR_ r0 r_keys r_days r_values cI rkeys rdays rvalues rcount) (Wc' := wV_ v0 v_keys v_firsts v_ends v_values v_inferred v_gone cI cZ vkeys vfirsts vends vvalues vinferred vgone vmade) (W2 := wD_ d0 s0 z0 b0 q0 t0 dhasSaved dkeptError dmoved ++ wS_ s0 v0 f0 r0 ++ wV_ v0 v_keys v_firsts v_ends v_values v_inferred v_gone cI cZ vkeys vfirsts vends vvalues vinferred vgone vmade ++ wF_ f0 f_keys f_days f_amounts f_versions cI fkeys fdays famounts fversions fcount ++ wR_ r0 r_keys r_days r_values cI rkeys rdays rvalues rcount) hP hD [2, 3, 4, 5, 6, 7, 8] [0, 1, 9, 10, 11, 12, 13, 14, 15, 16, 17] [0, 1, 11, 12, 13, 14, 15, 16, 17, 2, 3, 4, 5, 6, 7, 8, 9, 10] rfl rfl (by decide) (by decide) (by decide) hk1 hFc hB ht rfl
  refine lv_isub hx hb dX5_removedCount_20 ?_
  have hR := Option.some.inj hf
  subst hR
  exact W.iret (v := vmade - r1) hx hb hr (fun t ht hW => ⟨⟨vmade - r1, (), rfl, rfl, by rw [ht]; exact hP, va_K.moved hW.alike hK, hD⟩, hS.F ht⟩) hS.2.2 dX5_removedCount_21
theorem hs_X5_removedCount : yX5_removedCount.cls = RX5 ∧ yX5_removedCount.cls ≠ "java/lang/invoke/MethodHandle" ∧ yX5_removedCount.cls ≠ "java/lang/invoke/VarHandle" ∧ (parseMethodDescriptor yX5_removedCount.desc).map (fun d => d.parameters.length) = some 0 := by decide +kernel
set_option maxRecDepth 20000 in
theorem in_X5_factCount_X0 : ∀ w ∈ wsX00, w ∈ wsX5_factCount := by decide +kernel
set_option maxRecDepth 20000 in
theorem in_X5_factCount_X2 : ∀ w ∈ wsX20, w ∈ wsX5_factCount := by decide +kernel
set_option maxRecDepth 20000 in
theorem in_X5_factCount_X5 : ∀ w ∈ wsX50, w ∈ wsX5_factCount := by decide +kernel
def f_X5_factCount  (D_ : tD_) (S_ : tS_) (V_ : tV_) (F_ : tF_) (R_ : tR_) : Option (Int32) :=
match D_ with
| (dhasSaved, dkeptError, dmoved) =>
match V_ with
| (vkeys, vfirsts, vends, vvalues, vinferred, vgone, vmade) =>
match F_ with
| (fkeys, fdays, famounts, fversions, fcount) =>
match R_ with
| (rkeys, rdays, rvalues, rcount) =>
some fcount
abbrev rm_X5_factCount : Room := { frames := 0, cells := 0, slots := 0, locals := 0 }
set_option maxHeartbeats 4000000 in
set_option maxRecDepth 100000 in
theorem c_X5_factCount (l : Launch) (dC : Nat → ClassId) (dI : Nat → Nat → Nat) (cI cZ cC cJ cD : ClassId) (d0 s0 z0 b0 q0 t0 v0 f0 r0 v_keys v_firsts v_ends v_values v_inferred v_gone f_keys f_days f_amounts f_versions r_keys r_days r_values : Nat) (sz : Nat) (dhasSaved : Int32) (dkeptError : Int32) (dmoved : Int32) (vkeys : Nat → Int32) (vfirsts : Nat → Int32) (vends : Nat → Int32) (vvalues : Nat → Int32) (vinferred : Nat → Int32) (vgone : Nat → Int32) (vmade : Int32) (fkeys : Nat → Int32) (fdays : Nat → Int32) (famounts : Nat → Int32) (fversions : Nat → Int32) (fcount : Int32) (rkeys : Nat → Int32) (rdays : Nat → Int32) (rvalues : Nat → Int32) (rcount : Int32)  (R : Int32) (hf : f_X5_factCount  (dhasSaved, dkeptError, dmoved) () (vkeys, vfirsts, vends, vvalues, vinferred, vgone, vmade) (fkeys, fdays, famounts, fversions, fcount) (rkeys, rdays, rvalues, rcount) = some R) : Met l yX5_factCount wsX5_factCount rm_X5_factCount (Pc_ (dC, dI) (ty_ cI cZ cC cJ cD) (wD_ d0 s0 z0 b0 q0 t0 dhasSaved dkeptError dmoved ++ wS_ s0 v0 f0 r0 ++ wV_ v0 v_keys v_firsts v_ends v_values v_inferred v_gone cI cZ vkeys vfirsts vends vvalues vinferred vgone vmade ++ wF_ f0 f_keys f_days f_amounts f_versions cI fkeys fdays famounts fversions fcount ++ wR_ r0 r_keys r_days r_values cI rkeys rdays rvalues rcount) sz [.ref d0]) (Qi_ (dC, dI) (ty_ cI cZ cC cJ cD) R (wD_ d0 s0 z0 b0 q0 t0 dhasSaved dkeptError dmoved ++ wS_ s0 v0 f0 r0 ++ wV_ v0 v_keys v_firsts v_ends v_values v_inferred v_gone cI cZ vkeys vfirsts vends vvalues vinferred vgone vmade ++ wF_ f0 f_keys f_days f_amounts f_versions cI fkeys fdays famounts fversions fcount ++ wR_ r0 r_keys r_days r_values cI rkeys rdays rvalues rcount) (va_A (wD_ d0 s0 z0 b0 q0 t0 dhasSaved dkeptError dmoved ++ wS_ s0 v0 f0 r0 ++ wV_ v0 v_keys v_firsts v_ends v_values v_inferred v_gone cI cZ vkeys vfirsts vends vvalues vinferred vgone vmade ++ wF_ f0 f_keys f_days f_amounts f_versions cI fkeys fdays famounts fversions fcount ++ wR_ r0 r_keys r_days r_values cI rkeys rdays rvalues rcount) sz)) 0 0 (va_A (wD_ d0 s0 z0 b0 q0 t0 dhasSaved dkeptError dmoved ++ wS_ s0 v0 f0 r0 ++ wV_ v0 v_keys v_firsts v_ends v_values v_inferred v_gone cI cZ vkeys vfirsts vends vvalues vinferred vgone vmade ++ wF_ f0 f_keys f_days f_amounts f_versions cI fkeys fdays famounts fversions fcount ++ wR_ r0 r_keys r_days r_values cI rkeys rdays rvalues rcount) sz) := by
  refine met_ (cc := cX5_factCount) (maxL := 1) (ret := (some .int)) (Qcf := fun A => Qi_ (dC, dI) (ty_ cI cZ cC cJ cD) R (wD_ d0 s0 z0 b0 q0 t0 dhasSaved dkeptError dmoved ++ wS_ s0 v0 f0 r0 ++ wV_ v0 v_keys v_firsts v_ends v_values v_inferred v_gone cI cZ vkeys vfirsts vends vvalues vinferred vgone vmade ++ wF_ f0 f_keys f_days f_amounts f_versions cI fkeys fdays famounts fversions fcount ++ wR_ r0 r_keys r_days r_values cI rkeys rdays rvalues rcount) A) (by decide) rfl (Nat.le_of_ble_eq_true rfl) ?_
  intro p e s m args below meth c A ls hx hb hr hts hown hlocks hml hA hP hK hD hl
  have hown : s.vm.findClass RX5 = some m.cls := hown
  have hl : lv_has ls 1 [(0, .ref d0)] := hl
  have hS : va_S A s.heap s.heap [] := va_S.rf
  have fl10_ : (Cond.fieldLink RX5 10 "DimensionLoader" "live" "LDimensionLoader$Store;").before args s = true := hts _ (List.mem_of_getElem? (i := 1) rfl)
  have fl64_ : (Cond.fieldLink RX5 64 "DimensionLoader$Store" "facts" "LDimensionLoader$Facts;").before args s = true := hts _ (List.mem_of_getElem? (i := 2) rfl)
  have fl167_ : (Cond.fieldLink RX5 167 "DimensionLoader$Facts" "count" "I").before args s = true := hts _ (List.mem_of_getElem? (i := 3) rfl)
  have inX0_ : ∀ w ∈ wsX00, w ∈ wsX5_factCount := in_X5_factCount_X0
  have inX2_ : ∀ w ∈ wsX20, w ∈ wsX5_factCount := in_X5_factCount_X2
  have inX5_ : ∀ w ∈ wsX50, w ∈ wsX5_factCount := in_X5_factCount_X5
  unfold f_X5_factCount at hf
  dsimp only at hf
  refine lv_aload_n hx hb dX5_factCount_0 rfl (lv_at hl 0 rfl) ?_
  refine va_get (D := (dC, dI)) (ci := 7) (v := .ref s0) (C := RX5) (T := TX5) (N := 8) hx hb hts inX5_ hown hK hP 0 rfl rfl 0 (by decide) fl10_ (fun _ h9 => h9) rfl dX5_factCount_1 ?_
  refine va_get (D := (dC, dI)) (ci := 4) (v := .ref f0) (C := RX2) (T := TX2) (N := 3) hx hb hts inX2_ hown hK hP 1 rfl rfl 1 (by decide) fl64_ (fun _ h9 => h9) rfl dX5_factCount_4 ?_
  refine va_get (D := (dC, dI)) (ci := 2) (v := .int fcount) (C := RX0) (T := TX0) (N := 5) hx hb hts inX0_ hown hK hP 9 rfl rfl 4 (by decide) fl167_ (fun _ h9 => h9) rfl dX5_factCount_7 ?_
  have hR := Option.some.inj hf
  subst hR
  exact W.iret (v := fcount) hx hb hr (fun t ht hW => ⟨⟨fcount, (), rfl, rfl, by rw [ht]; exact hP, va_K.moved hW.alike hK, hD⟩, hS.F ht⟩) hS.2.2 dX5_factCount_10
theorem hs_X5_factCount : yX5_factCount.cls = RX5 ∧ yX5_factCount.cls ≠ "java/lang/invoke/MethodHandle" ∧ yX5_factCount.cls ≠ "java/lang/invoke/VarHandle" ∧ (parseMethodDescriptor yX5_factCount.desc).map (fun d => d.parameters.length) = some 0 := by decide +kernel
set_option maxRecDepth 20000 in
theorem in_X5_fact_X0 : ∀ w ∈ wsX00, w ∈ wsX5_fact := by decide +kernel
set_option maxRecDepth 20000 in
theorem in_X5_fact_X2 : ∀ w ∈ wsX20, w ∈ wsX5_fact := by decide +kernel
set_option maxRecDepth 20000 in
theorem in_X5_fact_X5 : ∀ w ∈ wsX50, w ∈ wsX5_fact := by decide +kernel
set_option maxRecDepth 20000 in
theorem at_X5_fact_171 : ∀ w ∈ (vx_at0 RX5 171 "java/lang/IndexOutOfBoundsException" ["java/lang/RuntimeException", "java/lang/Exception"]).filter goodWord, w ∈ wsX5_fact := by decide +kernel
set_option maxRecDepth 20000 in
theorem at_X5_fact_171g : ∀ w ∈ Cond.classLink RX5 169 "java/lang/IndexOutOfBoundsException" :: Cond.initialized "java/lang/IndexOutOfBoundsException" :: vx_at0 RX5 171 "java/lang/IndexOutOfBoundsException" ["java/lang/RuntimeException", "java/lang/Exception"], vx_ot w = true := by decide +kernel
set_option maxRecDepth 20000 in
theorem at_X5_fact_153 : ∀ w ∈ (vx_at0 RX5 153 "java/lang/IllegalArgumentException" ["java/lang/RuntimeException", "java/lang/Exception"]).filter goodWord, w ∈ wsX5_fact := by decide +kernel
set_option maxRecDepth 20000 in
theorem at_X5_fact_153g : ∀ w ∈ Cond.classLink RX5 151 "java/lang/IllegalArgumentException" :: Cond.initialized "java/lang/IllegalArgumentException" :: vx_at0 RX5 153 "java/lang/IllegalArgumentException" ["java/lang/RuntimeException", "java/lang/Exception"], vx_ot w = true := by decide +kernel
def f_X5_fact (a1 : Int32) (a2 : Int32) (D_ : tD_) (S_ : tS_) (V_ : tV_) (F_ : tF_) (R_ : tR_) : Option (Except String Int32) :=
match D_ with
| (dhasSaved, dkeptError, dmoved) =>
match V_ with
| (vkeys, vfirsts, vends, vvalues, vinferred, vgone, vmade) =>
match F_ with
| (fkeys, fdays, famounts, fversions, fcount) =>
match R_ with
| (rkeys, rdays, rvalues, rcount) =>
if a1 < 0 then
some (Except.error "java/lang/IndexOutOfBoundsException")
else
if a1 < fcount then
if a2 = 0 then
gd_ a1 60 (
some (Except.ok (fkeys a1.toNatClampNeg)))
else
if a2 = 1 then
gd_ a1 60 (
some (Except.ok (fdays a1.toNatClampNeg)))
else
if a2 = 2 then
gd_ a1 60 (
some (Except.ok (famounts a1.toNatClampNeg)))
else
if a2 = 3 then
gd_ a1 60 (
some (Except.ok (fversions a1.toNatClampNeg)))
else
if a2 = 4 then
gd_ a1 60 (
bd_ (f_X4_valueOf (fversions a1.toNatClampNeg) (vkeys, vfirsts, vends, vvalues, vinferred, vgone, vmade)) (fun r13 =>
some (Except.ok r13)))
else
some (Except.error "java/lang/IllegalArgumentException")
else
some (Except.error "java/lang/IndexOutOfBoundsException")
abbrev rm_X5_fact : Room := { frames := 6, cells := 1, slots := 6, locals := 89 }
set_option maxHeartbeats 4000000 in
set_option maxRecDepth 100000 in
theorem c_X5_fact (l : Launch) (dC : Nat → ClassId) (dI : Nat → Nat → Nat) (cI cZ cC cJ cD : ClassId) (hst : l.stackTraces = false) (d0 s0 z0 b0 q0 t0 v0 f0 r0 v_keys v_firsts v_ends v_values v_inferred v_gone f_keys f_days f_amounts f_versions r_keys r_days r_values : Nat) (sz : Nat) (dhasSaved : Int32) (dkeptError : Int32) (dmoved : Int32) (vkeys : Nat → Int32) (vfirsts : Nat → Int32) (vends : Nat → Int32) (vvalues : Nat → Int32) (vinferred : Nat → Int32) (vgone : Nat → Int32) (vmade : Int32) (fkeys : Nat → Int32) (fdays : Nat → Int32) (famounts : Nat → Int32) (fversions : Nat → Int32) (fcount : Int32) (rkeys : Nat → Int32) (rdays : Nat → Int32) (rvalues : Nat → Int32) (rcount : Int32) (a1 : Int32) (a2 : Int32) (R : Except String Int32) (hf : f_X5_fact a1 a2 (dhasSaved, dkeptError, dmoved) () (vkeys, vfirsts, vends, vvalues, vinferred, vgone, vmade) (fkeys, fdays, famounts, fversions, fcount) (rkeys, rdays, rvalues, rcount) = some R) : vx_Met l yX5_fact wsX5_fact rm_X5_fact (Py_ (dC, dI) (ty_ cI cZ cC cJ cD) (wD_ d0 s0 z0 b0 q0 t0 dhasSaved dkeptError dmoved ++ wS_ s0 v0 f0 r0 ++ wV_ v0 v_keys v_firsts v_ends v_values v_inferred v_gone cI cZ vkeys vfirsts vends vvalues vinferred vgone vmade ++ wF_ f0 f_keys f_days f_amounts f_versions cI fkeys fdays famounts fversions fcount ++ wR_ r0 r_keys r_days r_values cI rkeys rdays rvalues rcount) sz [.ref d0, .int a1, .int a2]) (Xi_ (dC, dI) (ty_ cI cZ cC cJ cD) R (wD_ d0 s0 z0 b0 q0 t0 dhasSaved dkeptError dmoved ++ wS_ s0 v0 f0 r0 ++ wV_ v0 v_keys v_firsts v_ends v_values v_inferred v_gone cI cZ vkeys vfirsts vends vvalues vinferred vgone vmade ++ wF_ f0 f_keys f_days f_amounts f_versions cI fkeys fdays famounts fversions fcount ++ wR_ r0 r_keys r_days r_values cI rkeys rdays rvalues rcount) (va_A (wD_ d0 s0 z0 b0 q0 t0 dhasSaved dkeptError dmoved ++ wS_ s0 v0 f0 r0 ++ wV_ v0 v_keys v_firsts v_ends v_values v_inferred v_gone cI cZ vkeys vfirsts vends vvalues vinferred vgone vmade ++ wF_ f0 f_keys f_days f_amounts f_versions cI fkeys fdays famounts fversions fcount ++ wR_ r0 r_keys r_days r_values cI rkeys rdays rvalues rcount) sz)) (XX_ (dC, dI) (ty_ cI cZ cC cJ cD) R (wD_ d0 s0 z0 b0 q0 t0 dhasSaved dkeptError dmoved ++ wS_ s0 v0 f0 r0 ++ wV_ v0 v_keys v_firsts v_ends v_values v_inferred v_gone cI cZ vkeys vfirsts vends vvalues vinferred vgone vmade ++ wF_ f0 f_keys f_days f_amounts f_versions cI fkeys fdays famounts fversions fcount ++ wR_ r0 r_keys r_days r_values cI rkeys rdays rvalues rcount) (va_A (wD_ d0 s0 z0 b0 q0 t0 dhasSaved dkeptError dmoved ++ wS_ s0 v0 f0 r0 ++ wV_ v0 v_keys v_firsts v_ends v_values v_inferred v_gone cI cZ vkeys vfirsts vends vvalues vinferred vgone vmade ++ wF_ f0 f_keys f_days f_amounts f_versions cI fkeys fdays famounts fversions fcount ++ wR_ r0 r_keys r_days r_values cI rkeys rdays rvalues rcount) sz)) 1 6 (va_A (wD_ d0 s0 z0 b0 q0 t0 dhasSaved dkeptError dmoved ++ wS_ s0 v0 f0 r0 ++ wV_ v0 v_keys v_firsts v_ends v_values v_inferred v_gone cI cZ vkeys vfirsts vends vvalues vinferred vgone vmade ++ wF_ f0 f_keys f_days f_amounts f_versions cI fkeys fdays famounts fversions fcount ++ wR_ r0 r_keys r_days r_values cI rkeys rdays rvalues rcount) sz) := by
  refine mety_ (cc := cX5_fact) (maxL := 3) (ret := (some .int)) (Qcf := fun A => Xi_ (dC, dI) (ty_ cI cZ cC cJ cD) R (wD_ d0 s0 z0 b0 q0 t0 dhasSaved dkeptError dmoved ++ wS_ s0 v0 f0 r0 ++ wV_ v0 v_keys v_firsts v_ends v_values v_inferred v_gone cI cZ vkeys vfirsts vends vvalues vinferred vgone vmade ++ wF_ f0 f_keys f_days f_amounts f_versions cI fkeys fdays famounts fversions fcount ++ wR_ r0 r_keys r_days r_values cI rkeys rdays rvalues rcount) A) (XCf := fun A => XX_ (dC, dI) (ty_ cI cZ cC cJ cD) R (wD_ d0 s0 z0 b0 q0 t0 dhasSaved dkeptError dmoved ++ wS_ s0 v0 f0 r0 ++ wV_ v0 v_keys v_firsts v_ends v_values v_inferred v_gone cI cZ vkeys vfirsts vends vvalues vinferred vgone vmade ++ wF_ f0 f_keys f_days f_amounts f_versions cI fkeys fdays famounts fversions fcount ++ wR_ r0 r_keys r_days r_values cI rkeys rdays rvalues rcount) A) (by decide) rfl (Nat.le_of_ble_eq_true rfl) ?_
  intro p e s m args below meth c A ls hx hb hr hts hown hlocks hml htab hA hU hN hC hP hK hD hl
  have hown : s.vm.findClass RX5 = some m.cls := hown
  have hl : lv_has ls 3 [(0, .ref d0), (1, .int a1), (2, .int a2)] := hl
  have hS : va_S A s.heap s.heap [] := va_S.rf
  have fl10_ : (Cond.fieldLink RX5 10 "DimensionLoader" "live" "LDimensionLoader$Store;").before args s = true := hts _ (List.mem_of_getElem? (i := 5) rfl)
  have fl51_ : (Cond.fieldLink RX5 51 "DimensionLoader$Store" "versions" "LDimensionLoader$Versions;").before args s = true := hts _ (List.mem_of_getElem? (i := 12) rfl)
  have fl64_ : (Cond.fieldLink RX5 64 "DimensionLoader$Store" "facts" "LDimensionLoader$Facts;").before args s = true := hts _ (List.mem_of_getElem? (i := 6) rfl)
  have fl167_ : (Cond.fieldLink RX5 167 "DimensionLoader$Facts" "count" "I").before args s = true := hts _ (List.mem_of_getElem? (i := 7) rfl)
  have fl172_ : (Cond.fieldLink RX5 172 "DimensionLoader$Facts" "keys" "[I").before args s = true := hts _ (List.mem_of_getElem? (i := 8) rfl)
  have fl173_ : (Cond.fieldLink RX5 173 "DimensionLoader$Facts" "days" "[I").before args s = true := hts _ (List.mem_of_getElem? (i := 9) rfl)
  have fl175_ : (Cond.fieldLink RX5 175 "DimensionLoader$Facts" "amounts" "[I").before args s = true := hts _ (List.mem_of_getElem? (i := 10) rfl)
  have fl178_ : (Cond.fieldLink RX5 178 "DimensionLoader$Facts" "versions" "[I").before args s = true := hts _ (List.mem_of_getElem? (i := 11) rfl)
  have inX0_ : ∀ w ∈ wsX00, w ∈ wsX5_fact := in_X5_fact_X0
  have inX2_ : ∀ w ∈ wsX20, w ∈ wsX5_fact := in_X5_fact_X2
  have inX5_ : ∀ w ∈ wsX50, w ∈ wsX5_fact := in_X5_fact_X5
  unfold f_X5_fact at hf
  dsimp only at hf
  refine lv_iload_n hx hb dX5_fact_0 rfl (lv_at hl 1 rfl) ?_
  refine lv_if_lt (tgt := 18) hx hb dX5_fact_1 (by decide) (fun c1 => ?_) (fun c1 => ?_)
  · have hf := ite_T c1 hf
    have hR := Option.some.inj hf
    subst hR
    exact vx_throw0 (names := ["java/lang/RuntimeException", "java/lang/Exception"]) hx hb hst hown (by decide +kernel) (by decide +kernel) (hts _ (List.mem_of_getElem? (i := 1) rfl)) (hts _ (List.mem_of_getElem? (i := 2) rfl)) (vx_hat (fun w h => hts w (at_X5_fact_171 w h)) (atn_0 "java/lang/IndexOutOfBoundsException" (by decide +kernel) 171 (by decide)) (hC.words (by decide +kernel))) at_X5_fact_171g hU hN hS (hl.1.trans hml.symm) dX5_fact_18 dX5_fact_21 dX5_fact_22 dX5_fact_25 (fun x h => (htab x h).elim) (Nat.le_of_ble_eq_true rfl) (Nat.le_of_ble_eq_true rfl) (Nat.le_of_ble_eq_true rfl) (Nat.le_of_ble_eq_true rfl) hlocks (thr_ hS hP hK hD rfl) hS.2.2 (Nat.le_of_ble_eq_true rfl) (Nat.le_of_ble_eq_true rfl)
  · have hf := ite_F c1 hf
    refine lv_iload_n hx hb dX5_fact_4 rfl (lv_at hl 1 rfl) ?_
    refine lv_aload_n hx hb dX5_fact_5 rfl (lv_at hl 0 rfl) ?_
    refine va_get (D := (dC, dI)) (ci := 7) (v := .ref s0) (C := RX5) (T := TX5) (N := 8) hx hb hts inX5_ hown hK hP 0 rfl rfl 0 (by decide) fl10_ (fun _ h9 => h9) rfl dX5_fact_6 ?_
    refine va_get (D := (dC, dI)) (ci := 4) (v := .ref f0) (C := RX2) (T := TX2) (N := 3) hx hb hts inX2_ hown hK hP 1 rfl rfl 1 (by decide) fl64_ (fun _ h9 => h9) rfl dX5_fact_9 ?_
    refine va_get (D := (dC, dI)) (ci := 2) (v := .int fcount) (C := RX0) (T := TX0) (N := 5) hx hb hts inX0_ hown hK hP 9 rfl rfl 4 (by decide) fl167_ (fun _ h9 => h9) rfl dX5_fact_12 ?_
    refine lv_icmp_lt (tgt := 26) hx hb dX5_fact_15 (by decide) (fun c2 => ?_) (fun c2 => ?_)
    · have hf := ite_T c2 hf
      refine lv_iload_n hx hb dX5_fact_26 rfl (lv_at hl 2 rfl) ?_
      by_cases c3 : a2 = 0
      · have hf := ite_T c3 hf
        refine lv_tableIn (tgt := 60) (off := 33) hx hb dX5_fact_27 (by rw [c3]; decide) (by rw [c3]; decide) (by rw [c3]; rfl) (by decide) ?_
        refine lv_aload_n hx hb dX5_fact_60 rfl (lv_at hl 0 rfl) ?_
        refine va_get (D := (dC, dI)) (ci := 7) (v := .ref s0) (C := RX5) (T := TX5) (N := 8) hx hb hts inX5_ hown hK hP 0 rfl rfl 0 (by decide) fl10_ (fun _ h9 => h9) rfl dX5_fact_61 ?_
        refine va_get (D := (dC, dI)) (ci := 4) (v := .ref f0) (C := RX2) (T := TX2) (N := 3) hx hb hts inX2_ hown hK hP 1 rfl rfl 1 (by decide) fl64_ (fun _ h9 => h9) rfl dX5_fact_64 ?_
        refine va_get (D := (dC, dI)) (ci := 2) (v := .ref f_keys) (C := RX0) (T := TX0) (N := 5) hx hb hts inX0_ hown hK hP 9 rfl rfl 0 (by decide) fl172_ (fun _ h9 => h9) rfl dX5_fact_67 ?_
        refine lv_iload_n hx hb dX5_fact_70 rfl (lv_at hl 1 rfl) ?_
        obtain ⟨h4, hf⟩ := gd_T hf
        refine va_iald hx hb hK hP 10 0 rfl rfl h4 dX5_fact_71 ?_
        have hR := Option.some.inj hf
        subst hR
        refine vx_ret (W.widen (k := 1) (n := 6) (Nat.le_of_ble_eq_true rfl) (Nat.le_of_ble_eq_true rfl) ?_)
        exact W.iret (v := fkeys a1.toNatClampNeg) hx hb hr (fun t ht hW => ⟨⟨fkeys a1.toNatClampNeg, (), rfl, rfl, by rw [ht]; exact hP, va_K.moved hW.alike hK, hD⟩, hS.F ht⟩) hS.2.2 dX5_fact_72
      · have hf := ite_F c3 hf
        by_cases c5 : a2 = 1
        · have hf := ite_T c5 hf
          refine lv_tableIn (tgt := 73) (off := 46) hx hb dX5_fact_27 (by rw [c5]; decide) (by rw [c5]; decide) (by rw [c5]; rfl) (by decide) ?_
          refine lv_aload_n hx hb dX5_fact_73 rfl (lv_at hl 0 rfl) ?_
          refine va_get (D := (dC, dI)) (ci := 7) (v := .ref s0) (C := RX5) (T := TX5) (N := 8) hx hb hts inX5_ hown hK hP 0 rfl rfl 0 (by decide) fl10_ (fun _ h9 => h9) rfl dX5_fact_74 ?_
          refine va_get (D := (dC, dI)) (ci := 4) (v := .ref f0) (C := RX2) (T := TX2) (N := 3) hx hb hts inX2_ hown hK hP 1 rfl rfl 1 (by decide) fl64_ (fun _ h9 => h9) rfl dX5_fact_77 ?_
          refine va_get (D := (dC, dI)) (ci := 2) (v := .ref f_days) (C := RX0) (T := TX0) (N := 5) hx hb hts inX0_ hown hK hP 9 rfl rfl 1 (by decide) fl173_ (fun _ h9 => h9) rfl dX5_fact_80 ?_
          refine lv_iload_n hx hb dX5_fact_83 rfl (lv_at hl 1 rfl) ?_
          obtain ⟨h6, hf⟩ := gd_T hf
          refine va_iald hx hb hK hP 11 0 rfl rfl h6 dX5_fact_84 ?_
          have hR := Option.some.inj hf
          subst hR
          refine vx_ret (W.widen (k := 1) (n := 6) (Nat.le_of_ble_eq_true rfl) (Nat.le_of_ble_eq_true rfl) ?_)
          exact W.iret (v := fdays a1.toNatClampNeg) hx hb hr (fun t ht hW => ⟨⟨fdays a1.toNatClampNeg, (), rfl, rfl, by rw [ht]; exact hP, va_K.moved hW.alike hK, hD⟩, hS.F ht⟩) hS.2.2 dX5_fact_85
        · have hf := ite_F c5 hf
          by_cases c7 : a2 = 2
          · have hf := ite_T c7 hf
            refine lv_tableIn (tgt := 86) (off := 59) hx hb dX5_fact_27 (by rw [c7]; decide) (by rw [c7]; decide) (by rw [c7]; rfl) (by decide) ?_
            refine lv_aload_n hx hb dX5_fact_86 rfl (lv_at hl 0 rfl) ?_
            refine va_get (D := (dC, dI)) (ci := 7) (v := .ref s0) (C := RX5) (T := TX5) (N := 8) hx hb hts inX5_ hown hK hP 0 rfl rfl 0 (by decide) fl10_ (fun _ h9 => h9) rfl dX5_fact_87 ?_
            refine va_get (D := (dC, dI)) (ci := 4) (v := .ref f0) (C := RX2) (T := TX2) (N := 3) hx hb hts inX2_ hown hK hP 1 rfl rfl 1 (by decide) fl64_ (fun _ h9 => h9) rfl dX5_fact_90 ?_
            refine va_get (D := (dC, dI)) (ci := 2) (v := .ref f_amounts) (C := RX0) (T := TX0) (N := 5) hx hb hts inX0_ hown hK hP 9 rfl rfl 2 (by decide) fl175_ (fun _ h9 => h9) rfl dX5_fact_93 ?_
            refine lv_iload_n hx hb dX5_fact_96 rfl (lv_at hl 1 rfl) ?_
            obtain ⟨h8, hf⟩ := gd_T hf
            refine va_iald hx hb hK hP 12 0 rfl rfl h8 dX5_fact_97 ?_
            have hR := Option.some.inj hf
            subst hR
            refine vx_ret (W.widen (k := 1) (n := 6) (Nat.le_of_ble_eq_true rfl) (Nat.le_of_ble_eq_true rfl) ?_)
            exact W.iret (v := famounts a1.toNatClampNeg) hx hb hr (fun t ht hW => ⟨⟨famounts a1.toNatClampNeg, (), rfl, rfl, by rw [ht]; exact hP, va_K.moved hW.alike hK, hD⟩, hS.F ht⟩) hS.2.2 dX5_fact_98
          · have hf := ite_F c7 hf
            by_cases c9 : a2 = 3
            · have hf := ite_T c9 hf
              refine lv_tableIn (tgt := 99) (off := 72) hx hb dX5_fact_27 (by rw [c9]; decide) (by rw [c9]; decide) (by rw [c9]; rfl) (by decide) ?_
              refine lv_aload_n hx hb dX5_fact_99 rfl (lv_at hl 0 rfl) ?_
              refine va_get (D := (dC, dI)) (ci := 7) (v := .ref s0) (C := RX5) (T := TX5) (N := 8) hx hb hts inX5_ hown hK hP 0 rfl rfl 0 (by decide) fl10_ (fun _ h9 => h9) rfl dX5_fact_100 ?_
              refine va_get (D := (dC, dI)) (ci := 4) (v := .ref f0) (C := RX2) (T := TX2) (N := 3) hx hb hts inX2_ hown hK hP 1 rfl rfl 1 (by decide) fl64_ (fun _ h9 => h9) rfl dX5_fact_103 ?_
              refine va_get (D := (dC, dI)) (ci := 2) (v := .ref f_versions) (C := RX0) (T := TX0) (N := 5) hx hb hts inX0_ hown hK hP 9 rfl rfl 3 (by decide) fl178_ (fun _ h9 => h9) rfl dX5_fact_106 ?_
              refine lv_iload_n hx hb dX5_fact_109 rfl (lv_at hl 1 rfl) ?_
              obtain ⟨h10, hf⟩ := gd_T hf
              refine va_iald hx hb hK hP 13 0 rfl rfl h10 dX5_fact_110 ?_
              have hR := Option.some.inj hf
              subst hR
              refine vx_ret (W.widen (k := 1) (n := 6) (Nat.le_of_ble_eq_true rfl) (Nat.le_of_ble_eq_true rfl) ?_)
              exact W.iret (v := fversions a1.toNatClampNeg) hx hb hr (fun t ht hW => ⟨⟨fversions a1.toNatClampNeg, (), rfl, rfl, by rw [ht]; exact hP, va_K.moved hW.alike hK, hD⟩, hS.F ht⟩) hS.2.2 dX5_fact_111
            · have hf := ite_F c9 hf
              by_cases c11 : a2 = 4
              · have hf := ite_T c11 hf
                refine lv_tableIn (tgt := 112) (off := 85) hx hb dX5_fact_27 (by rw [c11]; decide) (by rw [c11]; decide) (by rw [c11]; rfl) (by decide) ?_
                refine lv_aload_n hx hb dX5_fact_112 rfl (lv_at hl 0 rfl) ?_
                refine va_get (D := (dC, dI)) (ci := 7) (v := .ref s0) (C := RX5) (T := TX5) (N := 8) hx hb hts inX5_ hown hK hP 0 rfl rfl 0 (by decide) fl10_ (fun _ h9 => h9) rfl dX5_fact_113 ?_
                refine va_get (D := (dC, dI)) (ci := 4) (v := .ref v0) (C := RX2) (T := TX2) (N := 3) hx hb hts inX2_ hown hK hP 1 rfl rfl 0 (by decide) fl51_ (fun _ h9 => h9) rfl dX5_fact_116 ?_
                refine lv_aload_n hx hb dX5_fact_119 rfl (lv_at hl 0 rfl) ?_
                refine va_get (D := (dC, dI)) (ci := 7) (v := .ref s0) (C := RX5) (T := TX5) (N := 8) hx hb hts inX5_ hown hK hP 0 rfl rfl 0 (by decide) fl10_ (fun _ h9 => h9) rfl dX5_fact_120 ?_
                refine va_get (D := (dC, dI)) (ci := 4) (v := .ref f0) (C := RX2) (T := TX2) (N := 3) hx hb hts inX2_ hown hK hP 1 rfl rfl 1 (by decide) fl64_ (fun _ h9 => h9) rfl dX5_fact_123 ?_
                refine va_get (D := (dC, dI)) (ci := 2) (v := .ref f_versions) (C := RX0) (T := TX0) (N := 5) hx hb hts inX0_ hown hK hP 9 rfl rfl 3 (by decide) fl178_ (fun _ h9 => h9) rfl dX5_fact_126 ?_
                refine lv_iload_n hx hb dX5_fact_129 rfl (lv_at hl 1 rfl) ?_
                obtain ⟨h12, hf⟩ := gd_T hf
                refine va_iald hx hb hK hP 13 0 rfl rfl h12 dX5_fact_130 ?_
                obtain ⟨R14, g15, hf⟩ := bd_B hf
                obtain ⟨r13, rfl⟩ : ∃ z, z = R14 := ⟨_, rfl⟩
                have hPc := hP.sub (ws' := wV_ v0 v_keys v_firsts v_ends v_values v_inferred v_gone cI cZ vkeys vfirsts vends vvalues vinferred vgone vmade) [2, 3, 4, 5, 6, 7, 8] rfl
                have hDc := hD.sub (ws' := wV_ v0 v_keys v_firsts v_ends v_values v_inferred v_gone cI cZ vkeys vfirsts vends vvalues vinferred vgone vmade) [2, 3, 4, 5, 6, 7, 8] (by decide) rfl
                have hFc := va_free (wc := wV_ v0 v_keys v_firsts v_ends v_values v_inferred v_gone cI cZ vkeys vfirsts vends vvalues vinferred vgone vmade) hD hS hA [2, 3, 4, 5, 6, 7, 8] rfl
                refine va_calli (va_runV (As := [.int (fversions a1.toNatClampNeg)]) (rest := []) ⟨hx, hb, hml, hown, hts⟩ (c_X4_valueOf l dC dI cI cZ cC cJ cD v0 v_keys v_firsts v_ends v_values v_inferred v_gone s.heap.size vkeys vfirsts vends vvalues vinferred vgone vmade (fversions a1.toNatClampNeg) r13 g15) (cwV 1 hts gX5_fact_X4_valueOf rfl rfl rfl hs_X4_valueOf ⟨Nat.le_of_ble_eq_true rfl, Nat.le_of_ble_eq_true rfl⟩) (preV_ (ci := 6) (q0 := 0) hPc hK hDc rfl rfl rfl rfl) rfl rfl hl.1 rfl (lv_room (Nat.le_of_ble_eq_true rfl)) dX5_fact_131 ⟨Nat.le_of_ble_eq_true rfl, Nat.le_of_ble_eq_true rfl⟩) hS (fun q _ h => hFc q h) hFc (fun z17 u t H16 locs ht hvm hw hB hz1 hk1 hS => ?_)
                have hw : r13 = z17 := hw.symm
                subst hw
                obtain ⟨hP, hD⟩ := aft_ (Wr := wD_ d0 s0 z0 b0 q0 t0 dhasSaved dkeptError dmoved ++ wS_ s0 v0 f0 r0 ++ wF_ f0 f_keys f_days f_amounts f_versions cI fkeys fdays famounts fversions fcount ++ wR_ r0 r_keys r_days r_values cI rkeys rdays rvalues rcount) (Wc' := wV_ v0 v_keys v_firsts v_ends v_values v_inferred v_gone cI cZ vkeys vfirsts vends vvalues vinferred vgone vmade) (W2 := wD_ d0 s0 z0 b0 q0 t0 dhasSaved dkeptError dmoved ++ wS_ s0 v0 f0 r0 ++ wV_ v0 v_keys v_firsts v_ends v_values v_inferred v_gone cI cZ vkeys vfirsts vends vvalues vinferred vgone vmade ++ wF_ f0 f_keys f_days f_amounts f_versions cI fkeys fdays famounts fversions fcount ++ wR_ r0 r_keys r_days r_values cI rkeys rdays rvalues rcount) hP hD [2, 3, 4, 5, 6, 7, 8] [0, 1, 9, 10, 11, 12, 13, 14, 15, 16, 17] [0, 1, 11, 12, 13, 14, 15, 16, 17, 2, 3, 4, 5, 6, 7, 8, 9, 10] rfl rfl (by decide) (by decide) (by decide) hk1 hFc hB ht rfl
                have hR := Option.some.inj hf
                subst hR
                refine vx_ret (W.widen (k := 1) (n := 6) (Nat.le_of_ble_eq_true rfl) (Nat.le_of_ble_eq_true rfl) ?_)
                exact W.iret (v := r13) hx hb hr (fun t ht hW => ⟨⟨r13, (), rfl, rfl, by rw [ht]; exact hP, va_K.moved hW.alike hK, hD⟩, hS.F ht⟩) hS.2.2 dX5_fact_134
              · have hf := ite_F c11 hf
                have t0_ := ne_L c3 (show (0 : Int32).toInt = 0 by decide)
                have t1_ := ne_L c5 (show (1 : Int32).toInt = 1 by decide)
                have t2_ := ne_L c7 (show (2 : Int32).toInt = 2 by decide)
                have t3_ := ne_L c9 (show (3 : Int32).toInt = 3 by decide)
                have t4_ := ne_L c11 (show (4 : Int32).toInt = 4 by decide)
                refine lv_tableOut (tgt := 135) hx hb dX5_fact_27 (by omega) (by decide) ?_
                have hR := Option.some.inj hf
                subst hR
                exact vx_throw0 (names := ["java/lang/RuntimeException", "java/lang/Exception"]) hx hb hst hown (by decide +kernel) (by decide +kernel) (hts _ (List.mem_of_getElem? (i := 3) rfl)) (hts _ (List.mem_of_getElem? (i := 4) rfl)) (vx_hat (fun w h => hts w (at_X5_fact_153 w h)) (atn_0 "java/lang/IllegalArgumentException" (by decide +kernel) 153 (by decide)) (hC.words (by decide +kernel))) at_X5_fact_153g hU hN hS (hl.1.trans hml.symm) dX5_fact_135 dX5_fact_138 dX5_fact_139 dX5_fact_142 (fun x h => (htab x h).elim) (Nat.le_of_ble_eq_true rfl) (Nat.le_of_ble_eq_true rfl) (Nat.le_of_ble_eq_true rfl) (Nat.le_of_ble_eq_true rfl) hlocks (thr_ hS hP hK hD rfl) hS.2.2 (Nat.le_of_ble_eq_true rfl) (Nat.le_of_ble_eq_true rfl)
    · have hf := ite_F c2 hf
      have hR := Option.some.inj hf
      subst hR
      exact vx_throw0 (names := ["java/lang/RuntimeException", "java/lang/Exception"]) hx hb hst hown (by decide +kernel) (by decide +kernel) (hts _ (List.mem_of_getElem? (i := 1) rfl)) (hts _ (List.mem_of_getElem? (i := 2) rfl)) (vx_hat (fun w h => hts w (at_X5_fact_171 w h)) (atn_0 "java/lang/IndexOutOfBoundsException" (by decide +kernel) 171 (by decide)) (hC.words (by decide +kernel))) at_X5_fact_171g hU hN hS (hl.1.trans hml.symm) dX5_fact_18 dX5_fact_21 dX5_fact_22 dX5_fact_25 (fun x h => (htab x h).elim) (Nat.le_of_ble_eq_true rfl) (Nat.le_of_ble_eq_true rfl) (Nat.le_of_ble_eq_true rfl) (Nat.le_of_ble_eq_true rfl) hlocks (thr_ hS hP hK hD rfl) hS.2.2 (Nat.le_of_ble_eq_true rfl) (Nat.le_of_ble_eq_true rfl)
theorem hs_X5_fact : yX5_fact.cls = RX5 ∧ yX5_fact.cls ≠ "java/lang/invoke/MethodHandle" ∧ yX5_fact.cls ≠ "java/lang/invoke/VarHandle" ∧ (parseMethodDescriptor yX5_fact.desc).map (fun d => d.parameters.length) = some 2 := by decide +kernel
set_option maxRecDepth 20000 in
theorem in_X5_amountOf_X2 : ∀ w ∈ wsX20, w ∈ wsX5_amountOf := by decide +kernel
set_option maxRecDepth 20000 in
theorem in_X5_amountOf_X5 : ∀ w ∈ wsX50, w ∈ wsX5_amountOf := by decide +kernel
def f_X5_amountOf (a1 : Int32) (D_ : tD_) (S_ : tS_) (V_ : tV_) (F_ : tF_) (R_ : tR_) : Option (Except String Int64) :=
match D_ with
| (dhasSaved, dkeptError, dmoved) =>
match V_ with
| (vkeys, vfirsts, vends, vvalues, vinferred, vgone, vmade) =>
match F_ with
| (fkeys, fdays, famounts, fversions, fcount) =>
match R_ with
| (rkeys, rdays, rvalues, rcount) =>
bd_ (f_X5_checkVersion a1 (dhasSaved, dkeptError, dmoved) () (vkeys, vfirsts, vends, vvalues, vinferred, vgone, vmade) (fkeys, fdays, famounts, fversions, fcount) (rkeys, rdays, rvalues, rcount)) (fun x1 =>
match x1 with
| Except.error E9 => some (Except.error E9)
| Except.ok v2 =>
bd_ (f_X0_sumOf a1 (fkeys, fdays, famounts, fversions, fcount)) (fun r10 =>
some (Except.ok r10)))
abbrev rm_X5_amountOf : Room := { frames := 7, cells := 1, slots := 6, locals := 110 }
set_option maxHeartbeats 4000000 in
set_option maxRecDepth 100000 in
theorem c_X5_amountOf (l : Launch) (dC : Nat → ClassId) (dI : Nat → Nat → Nat) (cI cZ cC cJ cD : ClassId) (hst : l.stackTraces = false) (d0 s0 z0 b0 q0 t0 v0 f0 r0 v_keys v_firsts v_ends v_values v_inferred v_gone f_keys f_days f_amounts f_versions r_keys r_days r_values : Nat) (sz : Nat) (dhasSaved : Int32) (dkeptError : Int32) (dmoved : Int32) (vkeys : Nat → Int32) (vfirsts : Nat → Int32) (vends : Nat → Int32) (vvalues : Nat → Int32) (vinferred : Nat → Int32) (vgone : Nat → Int32) (vmade : Int32) (fkeys : Nat → Int32) (fdays : Nat → Int32) (famounts : Nat → Int32) (fversions : Nat → Int32) (fcount : Int32) (rkeys : Nat → Int32) (rdays : Nat → Int32) (rvalues : Nat → Int32) (rcount : Int32) (a1 : Int32) (R : Except String Int64) (hf : f_X5_amountOf a1 (dhasSaved, dkeptError, dmoved) () (vkeys, vfirsts, vends, vvalues, vinferred, vgone, vmade) (fkeys, fdays, famounts, fversions, fcount) (rkeys, rdays, rvalues, rcount) = some R) : vx_Met l yX5_amountOf wsX5_amountOf rm_X5_amountOf (Py_ (dC, dI) (ty_ cI cZ cC cJ cD) (wD_ d0 s0 z0 b0 q0 t0 dhasSaved dkeptError dmoved ++ wS_ s0 v0 f0 r0 ++ wV_ v0 v_keys v_firsts v_ends v_values v_inferred v_gone cI cZ vkeys vfirsts vends vvalues vinferred vgone vmade ++ wF_ f0 f_keys f_days f_amounts f_versions cI fkeys fdays famounts fversions fcount ++ wR_ r0 r_keys r_days r_values cI rkeys rdays rvalues rcount) sz [.ref d0, .int a1]) (Xl_ (dC, dI) (ty_ cI cZ cC cJ cD) R (wD_ d0 s0 z0 b0 q0 t0 dhasSaved dkeptError dmoved ++ wS_ s0 v0 f0 r0 ++ wV_ v0 v_keys v_firsts v_ends v_values v_inferred v_gone cI cZ vkeys vfirsts vends vvalues vinferred vgone vmade ++ wF_ f0 f_keys f_days f_amounts f_versions cI fkeys fdays famounts fversions fcount ++ wR_ r0 r_keys r_days r_values cI rkeys rdays rvalues rcount) (va_A (wD_ d0 s0 z0 b0 q0 t0 dhasSaved dkeptError dmoved ++ wS_ s0 v0 f0 r0 ++ wV_ v0 v_keys v_firsts v_ends v_values v_inferred v_gone cI cZ vkeys vfirsts vends vvalues vinferred vgone vmade ++ wF_ f0 f_keys f_days f_amounts f_versions cI fkeys fdays famounts fversions fcount ++ wR_ r0 r_keys r_days r_values cI rkeys rdays rvalues rcount) sz)) (XX_ (dC, dI) (ty_ cI cZ cC cJ cD) R (wD_ d0 s0 z0 b0 q0 t0 dhasSaved dkeptError dmoved ++ wS_ s0 v0 f0 r0 ++ wV_ v0 v_keys v_firsts v_ends v_values v_inferred v_gone cI cZ vkeys vfirsts vends vvalues vinferred vgone vmade ++ wF_ f0 f_keys f_days f_amounts f_versions cI fkeys fdays famounts fversions fcount ++ wR_ r0 r_keys r_days r_values cI rkeys rdays rvalues rcount) (va_A (wD_ d0 s0 z0 b0 q0 t0 dhasSaved dkeptError dmoved ++ wS_ s0 v0 f0 r0 ++ wV_ v0 v_keys v_firsts v_ends v_values v_inferred v_gone cI cZ vkeys vfirsts vends vvalues vinferred vgone vmade ++ wF_ f0 f_keys f_days f_amounts f_versions cI fkeys fdays famounts fversions fcount ++ wR_ r0 r_keys r_days r_values cI rkeys rdays rvalues rcount) sz)) 1 6 (va_A (wD_ d0 s0 z0 b0 q0 t0 dhasSaved dkeptError dmoved ++ wS_ s0 v0 f0 r0 ++ wV_ v0 v_keys v_firsts v_ends v_values v_inferred v_gone cI cZ vkeys vfirsts vends vvalues vinferred vgone vmade ++ wF_ f0 f_keys f_days f_amounts f_versions cI fkeys fdays famounts fversions fcount ++ wR_ r0 r_keys r_days r_values cI rkeys rdays rvalues rcount) sz) := by
  refine mety_ (cc := cX5_amountOf) (maxL := 2) (ret := (some .long)) (Qcf := fun A => Xl_ (dC, dI) (ty_ cI cZ cC cJ cD) R (wD_ d0 s0 z0 b0 q0 t0 dhasSaved dkeptError dmoved ++ wS_ s0 v0 f0 r0 ++ wV_ v0 v_keys v_firsts v_ends v_values v_inferred v_gone cI cZ vkeys vfirsts vends vvalues vinferred vgone vmade ++ wF_ f0 f_keys f_days f_amounts f_versions cI fkeys fdays famounts fversions fcount ++ wR_ r0 r_keys r_days r_values cI rkeys rdays rvalues rcount) A) (XCf := fun A => XX_ (dC, dI) (ty_ cI cZ cC cJ cD) R (wD_ d0 s0 z0 b0 q0 t0 dhasSaved dkeptError dmoved ++ wS_ s0 v0 f0 r0 ++ wV_ v0 v_keys v_firsts v_ends v_values v_inferred v_gone cI cZ vkeys vfirsts vends vvalues vinferred vgone vmade ++ wF_ f0 f_keys f_days f_amounts f_versions cI fkeys fdays famounts fversions fcount ++ wR_ r0 r_keys r_days r_values cI rkeys rdays rvalues rcount) A) (by decide) rfl (Nat.le_of_ble_eq_true rfl) ?_
  intro p e s m args below meth c A ls hx hb hr hts hown hlocks hml htab hA hU hN hC hP hK hD hl
  have hown : s.vm.findClass RX5 = some m.cls := hown
  have hl : lv_has ls 2 [(0, .ref d0), (1, .int a1)] := hl
  have hS : va_S A s.heap s.heap [] := va_S.rf
  have fl10_ : (Cond.fieldLink RX5 10 "DimensionLoader" "live" "LDimensionLoader$Store;").before args s = true := hts _ (List.mem_of_getElem? (i := 1) rfl)
  have fl64_ : (Cond.fieldLink RX5 64 "DimensionLoader$Store" "facts" "LDimensionLoader$Facts;").before args s = true := hts _ (List.mem_of_getElem? (i := 2) rfl)
  have inX2_ : ∀ w ∈ wsX20, w ∈ wsX5_amountOf := in_X5_amountOf_X2
  have inX5_ : ∀ w ∈ wsX50, w ∈ wsX5_amountOf := in_X5_amountOf_X5
  unfold f_X5_amountOf at hf
  dsimp only at hf
  refine lv_aload_n hx hb dX5_amountOf_0 rfl (lv_at hl 0 rfl) ?_
  refine lv_iload_n hx hb dX5_amountOf_1 rfl (lv_at hl 1 rfl) ?_
  obtain ⟨R3, g4, hf⟩ := bd_B hf
  obtain ⟨x1, rfl⟩ : ∃ z, z = R3 := ⟨_, rfl⟩
  have hPc := hP
  have hDc := hD
  have hFc := va_free (wc := wD_ d0 s0 z0 b0 q0 t0 dhasSaved dkeptError dmoved ++ wS_ s0 v0 f0 r0 ++ wV_ v0 v_keys v_firsts v_ends v_values v_inferred v_gone cI cZ vkeys vfirsts vends vvalues vinferred vgone vmade ++ wF_ f0 f_keys f_days f_amounts f_versions cI fkeys fdays famounts fversions fcount ++ wR_ r0 r_keys r_days r_values cI rkeys rdays rvalues rcount) hD hS hA [0, 1, 2, 3, 4, 5, 6, 7, 8, 9, 10, 11, 12, 13, 14, 15, 16, 17] rfl
  cases x1 with
  | error E9 =>
    have hR := Option.some.inj hf
    subst hR
    refine vx_callv (vx_runV (As := [.int a1]) (rest := []) ⟨hx, hb, hml, hown, hts⟩ (c_X5_checkVersion l dC dI cI cZ cC cJ cD hst d0 s0 z0 b0 q0 t0 v0 f0 r0 v_keys v_firsts v_ends v_values v_inferred v_gone f_keys f_days f_amounts f_versions r_keys r_days r_values s.heap.size dhasSaved dkeptError dmoved vkeys vfirsts vends vvalues vinferred vgone vmade fkeys fdays famounts fversions fcount rkeys rdays rvalues rcount a1 (Except.error E9) g4) (cwV 1 hts gX5_amountOf_X5_checkVersion rfl rfl rfl hs_X5_checkVersion ⟨Nat.le_of_ble_eq_true rfl, Nat.le_of_ble_eq_true rfl⟩) (preVy_ (ci := 7) (q0 := 0) hPc hK hDc rfl rfl rfl rfl hS hU hN hFc hC) rfl rfl hl.1 rfl (lv_room (Nat.le_of_ble_eq_true rfl)) dX5_amountOf_2 ⟨Nat.le_of_ble_eq_true rfl, Nat.le_of_ble_eq_true rfl⟩) hS (fun q _ h => hFc q h) hFc (fun q _ h => hFc q h) (fun E ce q9 u t H7 locs ht hvm hp hB hz1 hk1 hS hce hcv hcl => ?_) (fun u t H7 locs ht hvm hw hB hz1 hk1 hS => ?_)
    · obtain ⟨hE, hB⟩ := hB
      cases hE
      obtain ⟨hP, hD⟩ := aft_ (Wr := []) (Wc' := wD_ d0 s0 z0 b0 q0 t0 dhasSaved dkeptError dmoved ++ wS_ s0 v0 f0 r0 ++ wV_ v0 v_keys v_firsts v_ends v_values v_inferred v_gone cI cZ vkeys vfirsts vends vvalues vinferred vgone vmade ++ wF_ f0 f_keys f_days f_amounts f_versions cI fkeys fdays famounts fversions fcount ++ wR_ r0 r_keys r_days r_values cI rkeys rdays rvalues rcount) (W2 := wD_ d0 s0 z0 b0 q0 t0 dhasSaved dkeptError dmoved ++ wS_ s0 v0 f0 r0 ++ wV_ v0 v_keys v_firsts v_ends v_values v_inferred v_gone cI cZ vkeys vfirsts vends vvalues vinferred vgone vmade ++ wF_ f0 f_keys f_days f_amounts f_versions cI fkeys fdays famounts fversions fcount ++ wR_ r0 r_keys r_days r_values cI rkeys rdays rvalues rcount) hP hD [0, 1, 2, 3, 4, 5, 6, 7, 8, 9, 10, 11, 12, 13, 14, 15, 16, 17] [] [0, 1, 2, 3, 4, 5, 6, 7, 8, 9, 10, 11, 12, 13, 14, 15, 16, 17] rfl rfl (by decide) (by decide) (by decide) hk1 hFc hB ht rfl
      exact vx_out (fun x h => (htab x h).elim) hlocks hce hcv hcl (thr2_ hS hP hK hD rfl) hS.2.2 (Nat.le_of_ble_eq_true rfl) (Nat.le_of_ble_eq_true rfl)
    · exact absurd hw (fun h => nomatch h)
  | ok v2 =>
    refine vx_callv (vx_runV (As := [.int a1]) (rest := []) ⟨hx, hb, hml, hown, hts⟩ (c_X5_checkVersion l dC dI cI cZ cC cJ cD hst d0 s0 z0 b0 q0 t0 v0 f0 r0 v_keys v_firsts v_ends v_values v_inferred v_gone f_keys f_days f_amounts f_versions r_keys r_days r_values s.heap.size dhasSaved dkeptError dmoved vkeys vfirsts vends vvalues vinferred vgone vmade fkeys fdays famounts fversions fcount rkeys rdays rvalues rcount a1 (Except.ok ()) g4) (cwV 1 hts gX5_amountOf_X5_checkVersion rfl rfl rfl hs_X5_checkVersion ⟨Nat.le_of_ble_eq_true rfl, Nat.le_of_ble_eq_true rfl⟩) (preVy_ (ci := 7) (q0 := 0) hPc hK hDc rfl rfl rfl rfl hS hU hN hFc hC) rfl rfl hl.1 rfl (lv_room (Nat.le_of_ble_eq_true rfl)) dX5_amountOf_2 ⟨Nat.le_of_ble_eq_true rfl, Nat.le_of_ble_eq_true rfl⟩) hS (fun q _ h => hFc q h) hFc (fun q _ h => hFc q h) (fun E ce q9 u t H7 locs ht hvm hp hB hz1 hk1 hS hce hcv hcl => ?_) (fun u t H7 locs ht hvm hw hB hz1 hk1 hS => ?_)
    · exact absurd hB.1 (fun h => nomatch h)
    · obtain ⟨hP, hD⟩ := aft_ (Wr := []) (Wc' := wD_ d0 s0 z0 b0 q0 t0 dhasSaved dkeptError dmoved ++ wS_ s0 v0 f0 r0 ++ wV_ v0 v_keys v_firsts v_ends v_values v_inferred v_gone cI cZ vkeys vfirsts vends vvalues vinferred vgone vmade ++ wF_ f0 f_keys f_days f_amounts f_versions cI fkeys fdays famounts fversions fcount ++ wR_ r0 r_keys r_days r_values cI rkeys rdays rvalues rcount) (W2 := wD_ d0 s0 z0 b0 q0 t0 dhasSaved dkeptError dmoved ++ wS_ s0 v0 f0 r0 ++ wV_ v0 v_keys v_firsts v_ends v_values v_inferred v_gone cI cZ vkeys vfirsts vends vvalues vinferred vgone vmade ++ wF_ f0 f_keys f_days f_amounts f_versions cI fkeys fdays famounts fversions fcount ++ wR_ r0 r_keys r_days r_values cI rkeys rdays rvalues rcount) hP hD [0, 1, 2, 3, 4, 5, 6, 7, 8, 9, 10, 11, 12, 13, 14, 15, 16, 17] [] [0, 1, 2, 3, 4, 5, 6, 7, 8, 9, 10, 11, 12, 13, 14, 15, 16, 17] rfl rfl (by decide) (by decide) (by decide) hk1 hFc hB ht rfl
      refine lv_aload_n hx hb dX5_amountOf_5 rfl (lv_at hl 0 rfl) ?_
      refine va_get (D := (dC, dI)) (ci := 7) (v := .ref s0) (C := RX5) (T := TX5) (N := 8) hx hb hts inX5_ hown hK hP 0 rfl rfl 0 (by decide) fl10_ (fun _ h9 => h9) rfl dX5_amountOf_6 ?_
      refine va_get (D := (dC, dI)) (ci := 4) (v := .ref f0) (C := RX2) (T := TX2) (N := 3) hx hb hts inX2_ hown hK hP 1 rfl rfl 1 (by decide) fl64_ (fun _ h9 => h9) rfl dX5_amountOf_9 ?_
      refine lv_iload_n hx hb dX5_amountOf_12 rfl (lv_at hl 1 rfl) ?_
      obtain ⟨R11, g12, hf⟩ := bd_B hf
      obtain ⟨r10, rfl⟩ : ∃ z, z = R11 := ⟨_, rfl⟩
      have hPc := hP.sub (ws' := wF_ f0 f_keys f_days f_amounts f_versions cI fkeys fdays famounts fversions fcount) [9, 10, 11, 12, 13] rfl
      have hDc := hD.sub (ws' := wF_ f0 f_keys f_days f_amounts f_versions cI fkeys fdays famounts fversions fcount) [9, 10, 11, 12, 13] (by decide) rfl
      have hFc := va_free (wc := wF_ f0 f_keys f_days f_amounts f_versions cI fkeys fdays famounts fversions fcount) hD hS hA [9, 10, 11, 12, 13] rfl
      refine va_calll (va_runV (As := [.int a1]) (rest := []) ⟨hx, hb, hml, hown, hts⟩ (c_X0_sumOf l dC dI cI cZ cC cJ cD f0 f_keys f_days f_amounts f_versions H7.size fkeys fdays famounts fversions fcount a1 r10 g12) (cwV 1 hts gX5_amountOf_X0_sumOf rfl rfl rfl hs_X0_sumOf ⟨Nat.le_of_ble_eq_true rfl, Nat.le_of_ble_eq_true rfl⟩) (preV_ (ci := 2) (q0 := 0) hPc hK hDc rfl rfl rfl rfl) rfl rfl hl.1 rfl (lv_room (Nat.le_of_ble_eq_true rfl)) dX5_amountOf_13 ⟨Nat.le_of_ble_eq_true rfl, Nat.le_of_ble_eq_true rfl⟩) hS (fun q _ h => hFc q h) hFc (fun z14 u t H13 locs ht hvm hw hB hz1 hk1 hS => ?_)
      have hw : r10 = z14 := hw.symm
      subst hw
      obtain ⟨hP, hD⟩ := aft_ (Wr := wD_ d0 s0 z0 b0 q0 t0 dhasSaved dkeptError dmoved ++ wS_ s0 v0 f0 r0 ++ wV_ v0 v_keys v_firsts v_ends v_values v_inferred v_gone cI cZ vkeys vfirsts vends vvalues vinferred vgone vmade ++ wR_ r0 r_keys r_days r_values cI rkeys rdays rvalues rcount) (Wc' := wF_ f0 f_keys f_days f_amounts f_versions cI fkeys fdays famounts fversions fcount) (W2 := wD_ d0 s0 z0 b0 q0 t0 dhasSaved dkeptError dmoved ++ wS_ s0 v0 f0 r0 ++ wV_ v0 v_keys v_firsts v_ends v_values v_inferred v_gone cI cZ vkeys vfirsts vends vvalues vinferred vgone vmade ++ wF_ f0 f_keys f_days f_amounts f_versions cI fkeys fdays famounts fversions fcount ++ wR_ r0 r_keys r_days r_values cI rkeys rdays rvalues rcount) hP hD [9, 10, 11, 12, 13] [0, 1, 2, 3, 4, 5, 6, 7, 8, 14, 15, 16, 17] [0, 1, 2, 3, 4, 5, 6, 7, 8, 13, 14, 15, 16, 17, 9, 10, 11, 12] rfl rfl (by decide) (by decide) (by decide) hk1 hFc hB ht rfl
      have hR := Option.some.inj hf
      subst hR
      refine vx_ret (W.widen (k := 1) (n := 6) (Nat.le_of_ble_eq_true rfl) (Nat.le_of_ble_eq_true rfl) ?_)
      exact W.lret (v := r10) hx hb hr (fun t ht hW => ⟨⟨r10, (), rfl, rfl, by rw [ht]; exact hP, va_K.moved hW.alike hK, hD⟩, hS.F ht⟩) hS.2.2 dX5_amountOf_16
theorem hs_X5_amountOf : yX5_amountOf.cls = RX5 ∧ yX5_amountOf.cls ≠ "java/lang/invoke/MethodHandle" ∧ yX5_amountOf.cls ≠ "java/lang/invoke/VarHandle" ∧ (parseMethodDescriptor yX5_amountOf.desc).map (fun d => d.parameters.length) = some 1 := by decide +kernel
set_option maxRecDepth 20000 in
theorem in_X5_pointedAnew_X5 : ∀ w ∈ wsX50, w ∈ wsX5_pointedAnew := by decide +kernel
def f_X5_pointedAnew  (D_ : tD_) : Option (Int32) :=
match D_ with
| (dhasSaved, dkeptError, dmoved) =>
some dmoved
abbrev rm_X5_pointedAnew : Room := { frames := 0, cells := 0, slots := 0, locals := 0 }
set_option maxHeartbeats 4000000 in
set_option maxRecDepth 100000 in
theorem c_X5_pointedAnew (l : Launch) (dC : Nat → ClassId) (dI : Nat → Nat → Nat) (cI cZ cC cJ cD : ClassId) (d0 s0 z0 b0 q0 t0 : Nat) (sz : Nat) (dhasSaved : Int32) (dkeptError : Int32) (dmoved : Int32)  (R : Int32) (hf : f_X5_pointedAnew  (dhasSaved, dkeptError, dmoved) = some R) : Met l yX5_pointedAnew wsX5_pointedAnew rm_X5_pointedAnew (Pc_ (dC, dI) (ty_ cI cZ cC cJ cD) (wD_ d0 s0 z0 b0 q0 t0 dhasSaved dkeptError dmoved) sz [.ref d0]) (Qi_ (dC, dI) (ty_ cI cZ cC cJ cD) R (wD_ d0 s0 z0 b0 q0 t0 dhasSaved dkeptError dmoved) (va_A (wD_ d0 s0 z0 b0 q0 t0 dhasSaved dkeptError dmoved) sz)) 0 0 (va_A (wD_ d0 s0 z0 b0 q0 t0 dhasSaved dkeptError dmoved) sz) := by
  refine met_ (cc := cX5_pointedAnew) (maxL := 1) (ret := (some .int)) (Qcf := fun A => Qi_ (dC, dI) (ty_ cI cZ cC cJ cD) R (wD_ d0 s0 z0 b0 q0 t0 dhasSaved dkeptError dmoved) A) (by decide) rfl (Nat.le_of_ble_eq_true rfl) ?_
  intro p e s m args below meth c A ls hx hb hr hts hown hlocks hml hA hP hK hD hl
  have hown : s.vm.findClass RX5 = some m.cls := hown
  have hl : lv_has ls 1 [(0, .ref d0)] := hl
  have hS : va_S A s.heap s.heap [] := va_S.rf
  have fl132_ : (Cond.fieldLink RX5 132 "DimensionLoader" "moved" "I").before args s = true := hts _ (List.mem_of_getElem? (i := 1) rfl)
  have inX5_ : ∀ w ∈ wsX50, w ∈ wsX5_pointedAnew := in_X5_pointedAnew_X5
  unfold f_X5_pointedAnew at hf
  dsimp only at hf
  refine lv_aload_n hx hb dX5_pointedAnew_0 rfl (lv_at hl 0 rfl) ?_
  refine va_get (D := (dC, dI)) (ci := 7) (v := .int dmoved) (C := RX5) (T := TX5) (N := 8) hx hb hts inX5_ hown hK hP 0 rfl rfl 7 (by decide) fl132_ (fun _ h9 => h9) rfl dX5_pointedAnew_1 ?_
  have hR := Option.some.inj hf
  subst hR
  exact W.iret (v := dmoved) hx hb hr (fun t ht hW => ⟨⟨dmoved, (), rfl, rfl, by rw [ht]; exact hP, va_K.moved hW.alike hK, hD⟩, hS.F ht⟩) hS.2.2 dX5_pointedAnew_4
theorem hs_X5_pointedAnew : yX5_pointedAnew.cls = RX5 ∧ yX5_pointedAnew.cls ≠ "java/lang/invoke/MethodHandle" ∧ yX5_pointedAnew.cls ≠ "java/lang/invoke/VarHandle" ∧ (parseMethodDescriptor yX5_pointedAnew.desc).map (fun d => d.parameters.length) = some 0 := by decide +kernel
set_option maxRecDepth 20000 in
theorem in_X5_gaps_X2 : ∀ w ∈ wsX20, w ∈ wsX5_gaps := by decide +kernel
set_option maxRecDepth 20000 in
theorem in_X5_gaps_X5 : ∀ w ∈ wsX50, w ∈ wsX5_gaps := by decide +kernel
def f_X5_gaps (a1 : Int32) (D_ : tD_) (S_ : tS_) (V_ : tV_) (F_ : tF_) (R_ : tR_) : Option (Except String Int32) :=
match D_ with
| (dhasSaved, dkeptError, dmoved) =>
match V_ with
| (vkeys, vfirsts, vends, vvalues, vinferred, vgone, vmade) =>
match F_ with
| (fkeys, fdays, famounts, fversions, fcount) =>
match R_ with
| (rkeys, rdays, rvalues, rcount) =>
bd_ (f_X5_checkKey a1) (fun x1 =>
match x1 with
| Except.error E9 => some (Except.error E9)
| Except.ok v2 =>
bd_ (f_X4_countGaps a1 (vkeys, vfirsts, vends, vvalues, vinferred, vgone, vmade)) (fun r10 =>
some (Except.ok r10)))
abbrev rm_X5_gaps : Room := { frames := 7, cells := 1, slots := 6, locals := 134 }
set_option maxHeartbeats 4000000 in
set_option maxRecDepth 100000 in
theorem c_X5_gaps (l : Launch) (dC : Nat → ClassId) (dI : Nat → Nat → Nat) (cI cZ cC cJ cD : ClassId) (hst : l.stackTraces = false) (d0 s0 z0 b0 q0 t0 v0 f0 r0 v_keys v_firsts v_ends v_values v_inferred v_gone f_keys f_days f_amounts f_versions r_keys r_days r_values : Nat) (sz : Nat) (dhasSaved : Int32) (dkeptError : Int32) (dmoved : Int32) (vkeys : Nat → Int32) (vfirsts : Nat → Int32) (vends : Nat → Int32) (vvalues : Nat → Int32) (vinferred : Nat → Int32) (vgone : Nat → Int32) (vmade : Int32) (fkeys : Nat → Int32) (fdays : Nat → Int32) (famounts : Nat → Int32) (fversions : Nat → Int32) (fcount : Int32) (rkeys : Nat → Int32) (rdays : Nat → Int32) (rvalues : Nat → Int32) (rcount : Int32) (a1 : Int32) (R : Except String Int32) (hf : f_X5_gaps a1 (dhasSaved, dkeptError, dmoved) () (vkeys, vfirsts, vends, vvalues, vinferred, vgone, vmade) (fkeys, fdays, famounts, fversions, fcount) (rkeys, rdays, rvalues, rcount) = some R) : vx_Met l yX5_gaps wsX5_gaps rm_X5_gaps (Py_ (dC, dI) (ty_ cI cZ cC cJ cD) (wD_ d0 s0 z0 b0 q0 t0 dhasSaved dkeptError dmoved ++ wS_ s0 v0 f0 r0 ++ wV_ v0 v_keys v_firsts v_ends v_values v_inferred v_gone cI cZ vkeys vfirsts vends vvalues vinferred vgone vmade ++ wF_ f0 f_keys f_days f_amounts f_versions cI fkeys fdays famounts fversions fcount ++ wR_ r0 r_keys r_days r_values cI rkeys rdays rvalues rcount) sz [.ref d0, .int a1]) (Xi_ (dC, dI) (ty_ cI cZ cC cJ cD) R (wD_ d0 s0 z0 b0 q0 t0 dhasSaved dkeptError dmoved ++ wS_ s0 v0 f0 r0 ++ wV_ v0 v_keys v_firsts v_ends v_values v_inferred v_gone cI cZ vkeys vfirsts vends vvalues vinferred vgone vmade ++ wF_ f0 f_keys f_days f_amounts f_versions cI fkeys fdays famounts fversions fcount ++ wR_ r0 r_keys r_days r_values cI rkeys rdays rvalues rcount) (va_A (wD_ d0 s0 z0 b0 q0 t0 dhasSaved dkeptError dmoved ++ wS_ s0 v0 f0 r0 ++ wV_ v0 v_keys v_firsts v_ends v_values v_inferred v_gone cI cZ vkeys vfirsts vends vvalues vinferred vgone vmade ++ wF_ f0 f_keys f_days f_amounts f_versions cI fkeys fdays famounts fversions fcount ++ wR_ r0 r_keys r_days r_values cI rkeys rdays rvalues rcount) sz)) (XX_ (dC, dI) (ty_ cI cZ cC cJ cD) R (wD_ d0 s0 z0 b0 q0 t0 dhasSaved dkeptError dmoved ++ wS_ s0 v0 f0 r0 ++ wV_ v0 v_keys v_firsts v_ends v_values v_inferred v_gone cI cZ vkeys vfirsts vends vvalues vinferred vgone vmade ++ wF_ f0 f_keys f_days f_amounts f_versions cI fkeys fdays famounts fversions fcount ++ wR_ r0 r_keys r_days r_values cI rkeys rdays rvalues rcount) (va_A (wD_ d0 s0 z0 b0 q0 t0 dhasSaved dkeptError dmoved ++ wS_ s0 v0 f0 r0 ++ wV_ v0 v_keys v_firsts v_ends v_values v_inferred v_gone cI cZ vkeys vfirsts vends vvalues vinferred vgone vmade ++ wF_ f0 f_keys f_days f_amounts f_versions cI fkeys fdays famounts fversions fcount ++ wR_ r0 r_keys r_days r_values cI rkeys rdays rvalues rcount) sz)) 1 6 (va_A (wD_ d0 s0 z0 b0 q0 t0 dhasSaved dkeptError dmoved ++ wS_ s0 v0 f0 r0 ++ wV_ v0 v_keys v_firsts v_ends v_values v_inferred v_gone cI cZ vkeys vfirsts vends vvalues vinferred vgone vmade ++ wF_ f0 f_keys f_days f_amounts f_versions cI fkeys fdays famounts fversions fcount ++ wR_ r0 r_keys r_days r_values cI rkeys rdays rvalues rcount) sz) := by
  refine mety_ (cc := cX5_gaps) (maxL := 2) (ret := (some .int)) (Qcf := fun A => Xi_ (dC, dI) (ty_ cI cZ cC cJ cD) R (wD_ d0 s0 z0 b0 q0 t0 dhasSaved dkeptError dmoved ++ wS_ s0 v0 f0 r0 ++ wV_ v0 v_keys v_firsts v_ends v_values v_inferred v_gone cI cZ vkeys vfirsts vends vvalues vinferred vgone vmade ++ wF_ f0 f_keys f_days f_amounts f_versions cI fkeys fdays famounts fversions fcount ++ wR_ r0 r_keys r_days r_values cI rkeys rdays rvalues rcount) A) (XCf := fun A => XX_ (dC, dI) (ty_ cI cZ cC cJ cD) R (wD_ d0 s0 z0 b0 q0 t0 dhasSaved dkeptError dmoved ++ wS_ s0 v0 f0 r0 ++ wV_ v0 v_keys v_firsts v_ends v_values v_inferred v_gone cI cZ vkeys vfirsts vends vvalues vinferred vgone vmade ++ wF_ f0 f_keys f_days f_amounts f_versions cI fkeys fdays famounts fversions fcount ++ wR_ r0 r_keys r_days r_values cI rkeys rdays rvalues rcount) A) (by decide) rfl (Nat.le_of_ble_eq_true rfl) ?_
  intro p e s m args below meth c A ls hx hb hr hts hown hlocks hml htab hA hU hN hC hP hK hD hl
  have hown : s.vm.findClass RX5 = some m.cls := hown
  have hl : lv_has ls 2 [(0, .ref d0), (1, .int a1)] := hl
  have hS : va_S A s.heap s.heap [] := va_S.rf
  have fl10_ : (Cond.fieldLink RX5 10 "DimensionLoader" "live" "LDimensionLoader$Store;").before args s = true := hts _ (List.mem_of_getElem? (i := 1) rfl)
  have fl51_ : (Cond.fieldLink RX5 51 "DimensionLoader$Store" "versions" "LDimensionLoader$Versions;").before args s = true := hts _ (List.mem_of_getElem? (i := 2) rfl)
  have inX2_ : ∀ w ∈ wsX20, w ∈ wsX5_gaps := in_X5_gaps_X2
  have inX5_ : ∀ w ∈ wsX50, w ∈ wsX5_gaps := in_X5_gaps_X5
  unfold f_X5_gaps at hf
  dsimp only at hf
  refine lv_iload_n hx hb dX5_gaps_0 rfl (lv_at hl 1 rfl) ?_
  obtain ⟨R3, g4, hf⟩ := bd_B hf
  obtain ⟨x1, rfl⟩ : ∃ z, z = R3 := ⟨_, rfl⟩
  have hPc := hP.sub (ws' := []) [] rfl
  have hDc := hD.sub (ws' := []) [] (by decide) rfl
  have hFc := va_free (wc := []) hD hS hA [] rfl
  cases x1 with
  | error E9 =>
    have hR := Option.some.inj hf
    subst hR
    refine vx_callv (vx_runS (As := [.int a1]) (rest := []) ⟨hx, hb, hml, hown, hts⟩ (c_X5_checkKey l dC dI cI cZ cC cJ cD hst s.heap.size a1 (Except.error E9) g4) (cwS 1 hts gX5_gaps_X5_checkKey rfl rfl rfl hs_X5_checkKey ⟨Nat.le_of_ble_eq_true rfl, Nat.le_of_ble_eq_true rfl⟩) (preSy_ hPc hK hDc rfl hS hU hN hFc hC) rfl rfl hl.1 rfl (lv_room (Nat.le_of_ble_eq_true rfl)) dX5_gaps_1 ⟨Nat.le_of_ble_eq_true rfl, Nat.le_of_ble_eq_true rfl⟩) hS (fun q _ h => hFc q h) hFc (fun q _ h => hFc q h) (fun E ce q9 u t H7 locs ht hvm hp hB hz1 hk1 hS hce hcv hcl => ?_) (fun u t H7 locs ht hvm hw hB hz1 hk1 hS => ?_)
    · obtain ⟨hE, hB⟩ := hB
      cases hE
      obtain ⟨hP, hD⟩ := aft_ (Wr := wD_ d0 s0 z0 b0 q0 t0 dhasSaved dkeptError dmoved ++ wS_ s0 v0 f0 r0 ++ wV_ v0 v_keys v_firsts v_ends v_values v_inferred v_gone cI cZ vkeys vfirsts vends vvalues vinferred vgone vmade ++ wF_ f0 f_keys f_days f_amounts f_versions cI fkeys fdays famounts fversions fcount ++ wR_ r0 r_keys r_days r_values cI rkeys rdays rvalues rcount) (Wc' := []) (W2 := wD_ d0 s0 z0 b0 q0 t0 dhasSaved dkeptError dmoved ++ wS_ s0 v0 f0 r0 ++ wV_ v0 v_keys v_firsts v_ends v_values v_inferred v_gone cI cZ vkeys vfirsts vends vvalues vinferred vgone vmade ++ wF_ f0 f_keys f_days f_amounts f_versions cI fkeys fdays famounts fversions fcount ++ wR_ r0 r_keys r_days r_values cI rkeys rdays rvalues rcount) hP hD [] [0, 1, 2, 3, 4, 5, 6, 7, 8, 9, 10, 11, 12, 13, 14, 15, 16, 17] [0, 1, 2, 3, 4, 5, 6, 7, 8, 9, 10, 11, 12, 13, 14, 15, 16, 17] rfl rfl (by decide) (by decide) (by decide) hk1 hFc hB ht rfl
      exact vx_out (fun x h => (htab x h).elim) hlocks hce hcv hcl (thr2_ hS hP hK hD rfl) hS.2.2 (Nat.le_of_ble_eq_true rfl) (Nat.le_of_ble_eq_true rfl)
    · exact absurd hw (fun h => nomatch h)
  | ok v2 =>
    refine vx_callv (vx_runS (As := [.int a1]) (rest := []) ⟨hx, hb, hml, hown, hts⟩ (c_X5_checkKey l dC dI cI cZ cC cJ cD hst s.heap.size a1 (Except.ok ()) g4) (cwS 1 hts gX5_gaps_X5_checkKey rfl rfl rfl hs_X5_checkKey ⟨Nat.le_of_ble_eq_true rfl, Nat.le_of_ble_eq_true rfl⟩) (preSy_ hPc hK hDc rfl hS hU hN hFc hC) rfl rfl hl.1 rfl (lv_room (Nat.le_of_ble_eq_true rfl)) dX5_gaps_1 ⟨Nat.le_of_ble_eq_true rfl, Nat.le_of_ble_eq_true rfl⟩) hS (fun q _ h => hFc q h) hFc (fun q _ h => hFc q h) (fun E ce q9 u t H7 locs ht hvm hp hB hz1 hk1 hS hce hcv hcl => ?_) (fun u t H7 locs ht hvm hw hB hz1 hk1 hS => ?_)
    · exact absurd hB.1 (fun h => nomatch h)
    · obtain ⟨hP, hD⟩ := aft_ (Wr := wD_ d0 s0 z0 b0 q0 t0 dhasSaved dkeptError dmoved ++ wS_ s0 v0 f0 r0 ++ wV_ v0 v_keys v_firsts v_ends v_values v_inferred v_gone cI cZ vkeys vfirsts vends vvalues vinferred vgone vmade ++ wF_ f0 f_keys f_days f_amounts f_versions cI fkeys fdays famounts fversions fcount ++ wR_ r0 r_keys r_days r_values cI rkeys rdays rvalues rcount) (Wc' := []) (W2 := wD_ d0 s0 z0 b0 q0 t0 dhasSaved dkeptError dmoved ++ wS_ s0 v0 f0 r0 ++ wV_ v0 v_keys v_firsts v_ends v_values v_inferred v_gone cI cZ vkeys vfirsts vends vvalues vinferred vgone vmade ++ wF_ f0 f_keys f_days f_amounts f_versions cI fkeys fdays famounts fversions fcount ++ wR_ r0 r_keys r_days r_values cI rkeys rdays rvalues rcount) hP hD [] [0, 1, 2, 3, 4, 5, 6, 7, 8, 9, 10, 11, 12, 13, 14, 15, 16, 17] [0, 1, 2, 3, 4, 5, 6, 7, 8, 9, 10, 11, 12, 13, 14, 15, 16, 17] rfl rfl (by decide) (by decide) (by decide) hk1 hFc hB ht rfl
      refine lv_aload_n hx hb dX5_gaps_4 rfl (lv_at hl 0 rfl) ?_
      refine va_get (D := (dC, dI)) (ci := 7) (v := .ref s0) (C := RX5) (T := TX5) (N := 8) hx hb hts inX5_ hown hK hP 0 rfl rfl 0 (by decide) fl10_ (fun _ h9 => h9) rfl dX5_gaps_5 ?_
      refine va_get (D := (dC, dI)) (ci := 4) (v := .ref v0) (C := RX2) (T := TX2) (N := 3) hx hb hts inX2_ hown hK hP 1 rfl rfl 0 (by decide) fl51_ (fun _ h9 => h9) rfl dX5_gaps_8 ?_
      refine lv_iload_n hx hb dX5_gaps_11 rfl (lv_at hl 1 rfl) ?_
      obtain ⟨R11, g12, hf⟩ := bd_B hf
      obtain ⟨r10, rfl⟩ : ∃ z, z = R11 := ⟨_, rfl⟩
      have hPc := hP.sub (ws' := wV_ v0 v_keys v_firsts v_ends v_values v_inferred v_gone cI cZ vkeys vfirsts vends vvalues vinferred vgone vmade) [2, 3, 4, 5, 6, 7, 8] rfl
      have hDc := hD.sub (ws' := wV_ v0 v_keys v_firsts v_ends v_values v_inferred v_gone cI cZ vkeys vfirsts vends vvalues vinferred vgone vmade) [2, 3, 4, 5, 6, 7, 8] (by decide) rfl
      have hFc := va_free (wc := wV_ v0 v_keys v_firsts v_ends v_values v_inferred v_gone cI cZ vkeys vfirsts vends vvalues vinferred vgone vmade) hD hS hA [2, 3, 4, 5, 6, 7, 8] rfl
      refine va_calli (va_runV (As := [.int a1]) (rest := []) ⟨hx, hb, hml, hown, hts⟩ (c_X4_countGaps l dC dI cI cZ cC cJ cD v0 v_keys v_firsts v_ends v_values v_inferred v_gone H7.size vkeys vfirsts vends vvalues vinferred vgone vmade a1 r10 g12) (cwV 1 hts gX5_gaps_X4_countGaps rfl rfl rfl hs_X4_countGaps ⟨Nat.le_of_ble_eq_true rfl, Nat.le_of_ble_eq_true rfl⟩) (preV_ (ci := 6) (q0 := 0) hPc hK hDc rfl rfl rfl rfl) rfl rfl hl.1 rfl (lv_room (Nat.le_of_ble_eq_true rfl)) dX5_gaps_12 ⟨Nat.le_of_ble_eq_true rfl, Nat.le_of_ble_eq_true rfl⟩) hS (fun q _ h => hFc q h) hFc (fun z14 u t H13 locs ht hvm hw hB hz1 hk1 hS => ?_)
      have hw : r10 = z14 := hw.symm
      subst hw
      obtain ⟨hP, hD⟩ := aft_ (Wr := wD_ d0 s0 z0 b0 q0 t0 dhasSaved dkeptError dmoved ++ wS_ s0 v0 f0 r0 ++ wF_ f0 f_keys f_days f_amounts f_versions cI fkeys fdays famounts fversions fcount ++ wR_ r0 r_keys r_days r_values cI rkeys rdays rvalues rcount) (Wc' := wV_ v0 v_keys v_firsts v_ends v_values v_inferred v_gone cI cZ vkeys vfirsts vends vvalues vinferred vgone vmade) (W2 := wD_ d0 s0 z0 b0 q0 t0 dhasSaved dkeptError dmoved ++ wS_ s0 v0 f0 r0 ++ wV_ v0 v_keys v_firsts v_ends v_values v_inferred v_gone cI cZ vkeys vfirsts vends vvalues vinferred vgone vmade ++ wF_ f0 f_keys f_days f_amounts f_versions cI fkeys fdays famounts fversions fcount ++ wR_ r0 r_keys r_days r_values cI rkeys rdays rvalues rcount) hP hD [2, 3, 4, 5, 6, 7, 8] [0, 1, 9, 10, 11, 12, 13, 14, 15, 16, 17] [0, 1, 11, 12, 13, 14, 15, 16, 17, 2, 3, 4, 5, 6, 7, 8, 9, 10] rfl rfl (by decide) (by decide) (by decide) hk1 hFc hB ht rfl
      have hR := Option.some.inj hf
      subst hR
      refine vx_ret (W.widen (k := 1) (n := 6) (Nat.le_of_ble_eq_true rfl) (Nat.le_of_ble_eq_true rfl) ?_)
      exact W.iret (v := r10) hx hb hr (fun t ht hW => ⟨⟨r10, (), rfl, rfl, by rw [ht]; exact hP, va_K.moved hW.alike hK, hD⟩, hS.F ht⟩) hS.2.2 dX5_gaps_15
theorem hs_X5_gaps : yX5_gaps.cls = RX5 ∧ yX5_gaps.cls ≠ "java/lang/invoke/MethodHandle" ∧ yX5_gaps.cls ≠ "java/lang/invoke/VarHandle" ∧ (parseMethodDescriptor yX5_gaps.desc).map (fun d => d.parameters.length) = some 1 := by decide +kernel
set_option maxRecDepth 20000 in
theorem in_X5_gapDay_X2 : ∀ w ∈ wsX20, w ∈ wsX5_gapDay := by decide +kernel
set_option maxRecDepth 20000 in
theorem in_X5_gapDay_X4 : ∀ w ∈ wsX40, w ∈ wsX5_gapDay := by decide +kernel
set_option maxRecDepth 20000 in
theorem in_X5_gapDay_X5 : ∀ w ∈ wsX50, w ∈ wsX5_gapDay := by decide +kernel
def f_X5_gapDay (a1 : Int32) (a2 : Int32) (a3 : Int32) (D_ : tD_) (S_ : tS_) (V_ : tV_) (F_ : tF_) (R_ : tR_) : Option (Except String Int32) :=
match D_ with
| (dhasSaved, dkeptError, dmoved) =>
match V_ with
| (vkeys, vfirsts, vends, vvalues, vinferred, vgone, vmade) =>
match F_ with
| (fkeys, fdays, famounts, fversions, fcount) =>
match R_ with
| (rkeys, rdays, rvalues, rcount) =>
bd_ (f_X5_checkKey a1) (fun x1 =>
match x1 with
| Except.error E9 => some (Except.error E9)
| Except.ok v2 =>
bd_ (f_X4_aheadOfGap a1 a2 (vkeys, vfirsts, vends, vvalues, vinferred, vgone, vmade)) (fun r10 =>
bd_ (f_X5_found r10) (fun x15 =>
match x15 with
| Except.error E23 => some (Except.error E23)
| Except.ok r16 =>
if a3 = 0 then
gd_ r16 60 (
some (Except.ok (vends r16.toNatClampNeg)))
else
gd_ r16 60 (
bd_ (f_X4_nextFirst a1 (vfirsts r16.toNatClampNeg) (vkeys, vfirsts, vends, vvalues, vinferred, vgone, vmade)) (fun r27 =>
some (Except.ok (r27 - 1)))))))
abbrev rm_X5_gapDay : Room := { frames := 7, cells := 2, slots := 12, locals := 136 }
set_option maxHeartbeats 4000000 in
set_option maxRecDepth 100000 in
theorem c_X5_gapDay (l : Launch) (dC : Nat → ClassId) (dI : Nat → Nat → Nat) (cI cZ cC cJ cD : ClassId) (hst : l.stackTraces = false) (d0 s0 z0 b0 q0 t0 v0 f0 r0 v_keys v_firsts v_ends v_values v_inferred v_gone f_keys f_days f_amounts f_versions r_keys r_days r_values : Nat) (sz : Nat) (dhasSaved : Int32) (dkeptError : Int32) (dmoved : Int32) (vkeys : Nat → Int32) (vfirsts : Nat → Int32) (vends : Nat → Int32) (vvalues : Nat → Int32) (vinferred : Nat → Int32) (vgone : Nat → Int32) (vmade : Int32) (fkeys : Nat → Int32) (fdays : Nat → Int32) (famounts : Nat → Int32) (fversions : Nat → Int32) (fcount : Int32) (rkeys : Nat → Int32) (rdays : Nat → Int32) (rvalues : Nat → Int32) (rcount : Int32) (a1 : Int32) (a2 : Int32) (a3 : Int32) (R : Except String Int32) (hf : f_X5_gapDay a1 a2 a3 (dhasSaved, dkeptError, dmoved) () (vkeys, vfirsts, vends, vvalues, vinferred, vgone, vmade) (fkeys, fdays, famounts, fversions, fcount) (rkeys, rdays, rvalues, rcount) = some R) : vx_Met l yX5_gapDay wsX5_gapDay rm_X5_gapDay (Py_ (dC, dI) (ty_ cI cZ cC cJ cD) (wD_ d0 s0 z0 b0 q0 t0 dhasSaved dkeptError dmoved ++ wS_ s0 v0 f0 r0 ++ wV_ v0 v_keys v_firsts v_ends v_values v_inferred v_gone cI cZ vkeys vfirsts vends vvalues vinferred vgone vmade ++ wF_ f0 f_keys f_days f_amounts f_versions cI fkeys fdays famounts fversions fcount ++ wR_ r0 r_keys r_days r_values cI rkeys rdays rvalues rcount) sz [.ref d0, .int a1, .int a2, .int a3]) (Xi_ (dC, dI) (ty_ cI cZ cC cJ cD) R (wD_ d0 s0 z0 b0 q0 t0 dhasSaved dkeptError dmoved ++ wS_ s0 v0 f0 r0 ++ wV_ v0 v_keys v_firsts v_ends v_values v_inferred v_gone cI cZ vkeys vfirsts vends vvalues vinferred vgone vmade ++ wF_ f0 f_keys f_days f_amounts f_versions cI fkeys fdays famounts fversions fcount ++ wR_ r0 r_keys r_days r_values cI rkeys rdays rvalues rcount) (va_A (wD_ d0 s0 z0 b0 q0 t0 dhasSaved dkeptError dmoved ++ wS_ s0 v0 f0 r0 ++ wV_ v0 v_keys v_firsts v_ends v_values v_inferred v_gone cI cZ vkeys vfirsts vends vvalues vinferred vgone vmade ++ wF_ f0 f_keys f_days f_amounts f_versions cI fkeys fdays famounts fversions fcount ++ wR_ r0 r_keys r_days r_values cI rkeys rdays rvalues rcount) sz)) (XX_ (dC, dI) (ty_ cI cZ cC cJ cD) R (wD_ d0 s0 z0 b0 q0 t0 dhasSaved dkeptError dmoved ++ wS_ s0 v0 f0 r0 ++ wV_ v0 v_keys v_firsts v_ends v_values v_inferred v_gone cI cZ vkeys vfirsts vends vvalues vinferred vgone vmade ++ wF_ f0 f_keys f_days f_amounts f_versions cI fkeys fdays famounts fversions fcount ++ wR_ r0 r_keys r_days r_values cI rkeys rdays rvalues rcount) (va_A (wD_ d0 s0 z0 b0 q0 t0 dhasSaved dkeptError dmoved ++ wS_ s0 v0 f0 r0 ++ wV_ v0 v_keys v_firsts v_ends v_values v_inferred v_gone cI cZ vkeys vfirsts vends vvalues vinferred vgone vmade ++ wF_ f0 f_keys f_days f_amounts f_versions cI fkeys fdays famounts fversions fcount ++ wR_ r0 r_keys r_days r_values cI rkeys rdays rvalues rcount) sz)) 2 12 (va_A (wD_ d0 s0 z0 b0 q0 t0 dhasSaved dkeptError dmoved ++ wS_ s0 v0 f0 r0 ++ wV_ v0 v_keys v_firsts v_ends v_values v_inferred v_gone cI cZ vkeys vfirsts vends vvalues vinferred vgone vmade ++ wF_ f0 f_keys f_days f_amounts f_versions cI fkeys fdays famounts fversions fcount ++ wR_ r0 r_keys r_days r_values cI rkeys rdays rvalues rcount) sz) := by
  refine mety_ (cc := cX5_gapDay) (maxL := 6) (ret := (some .int)) (Qcf := fun A => Xi_ (dC, dI) (ty_ cI cZ cC cJ cD) R (wD_ d0 s0 z0 b0 q0 t0 dhasSaved dkeptError dmoved ++ wS_ s0 v0 f0 r0 ++ wV_ v0 v_keys v_firsts v_ends v_values v_inferred v_gone cI cZ vkeys vfirsts vends vvalues vinferred vgone vmade ++ wF_ f0 f_keys f_days f_amounts f_versions cI fkeys fdays famounts fversions fcount ++ wR_ r0 r_keys r_days r_values cI rkeys rdays rvalues rcount) A) (XCf := fun A => XX_ (dC, dI) (ty_ cI cZ cC cJ cD) R (wD_ d0 s0 z0 b0 q0 t0 dhasSaved dkeptError dmoved ++ wS_ s0 v0 f0 r0 ++ wV_ v0 v_keys v_firsts v_ends v_values v_inferred v_gone cI cZ vkeys vfirsts vends vvalues vinferred vgone vmade ++ wF_ f0 f_keys f_days f_amounts f_versions cI fkeys fdays famounts fversions fcount ++ wR_ r0 r_keys r_days r_values cI rkeys rdays rvalues rcount) A) (by decide) rfl (Nat.le_of_ble_eq_true rfl) ?_
  intro p e s m args below meth c A ls hx hb hr hts hown hlocks hml htab hA hU hN hC hP hK hD hl
  have hown : s.vm.findClass RX5 = some m.cls := hown
  have hl : lv_has ls 6 [(0, .ref d0), (1, .int a1), (2, .int a2), (3, .int a3)] := hl
  have hS : va_S A s.heap s.heap [] := va_S.rf
  have fl10_ : (Cond.fieldLink RX5 10 "DimensionLoader" "live" "LDimensionLoader$Store;").before args s = true := hts _ (List.mem_of_getElem? (i := 1) rfl)
  have fl51_ : (Cond.fieldLink RX5 51 "DimensionLoader$Store" "versions" "LDimensionLoader$Versions;").before args s = true := hts _ (List.mem_of_getElem? (i := 2) rfl)
  have fl88_ : (Cond.fieldLink RX5 88 "DimensionLoader$Versions" "firsts" "[I").before args s = true := hts _ (List.mem_of_getElem? (i := 3) rfl)
  have fl96_ : (Cond.fieldLink RX5 96 "DimensionLoader$Versions" "ends" "[I").before args s = true := hts _ (List.mem_of_getElem? (i := 4) rfl)
  have inX2_ : ∀ w ∈ wsX20, w ∈ wsX5_gapDay := in_X5_gapDay_X2
  have inX4_ : ∀ w ∈ wsX40, w ∈ wsX5_gapDay := in_X5_gapDay_X4
  have inX5_ : ∀ w ∈ wsX50, w ∈ wsX5_gapDay := in_X5_gapDay_X5
  unfold f_X5_gapDay at hf
  dsimp only at hf
  refine lv_iload_n hx hb dX5_gapDay_0 rfl (lv_at hl 1 rfl) ?_
  obtain ⟨R3, g4, hf⟩ := bd_B hf
  obtain ⟨x1, rfl⟩ : ∃ z, z = R3 := ⟨_, rfl⟩
  have hPc := hP.sub (ws' := []) [] rfl
  have hDc := hD.sub (ws' := []) [] (by decide) rfl
  have hFc := va_free (wc := []) hD hS hA [] rfl
  cases x1 with
  | error E9 =>
    have hR := Option.some.inj hf
    subst hR
    refine vx_callv (vx_runS (As := [.int a1]) (rest := []) ⟨hx, hb, hml, hown, hts⟩ (c_X5_checkKey l dC dI cI cZ cC cJ cD hst s.heap.size a1 (Except.error E9) g4) (cwS 1 hts gX5_gapDay_X5_checkKey rfl rfl rfl hs_X5_checkKey ⟨Nat.le_of_ble_eq_true rfl, Nat.le_of_ble_eq_true rfl⟩) (preSy_ hPc hK hDc rfl hS hU hN hFc hC) rfl rfl hl.1 rfl (lv_room (Nat.le_of_ble_eq_true rfl)) dX5_gapDay_1 ⟨Nat.le_of_ble_eq_true rfl, Nat.le_of_ble_eq_true rfl⟩) hS (fun q _ h => hFc q h) hFc (fun q _ h => hFc q h) (fun E ce q9 u t H7 locs ht hvm hp hB hz1 hk1 hS hce hcv hcl => ?_) (fun u t H7 locs ht hvm hw hB hz1 hk1 hS => ?_)
    · obtain ⟨hE, hB⟩ := hB
      cases hE
      obtain ⟨hP, hD⟩ := aft_ (Wr := wD_ d0 s0 z0 b0 q0 t0 dhasSaved dkeptError dmoved ++ wS_ s0 v0 f0 r0 ++ wV_ v0 v_keys v_firsts v_ends v_values v_inferred v_gone cI cZ vkeys vfirsts vends vvalues vinferred vgone vmade ++ wF_ f0 f_keys f_days f_amounts f_versions cI fkeys fdays famounts fversions fcount ++ wR_ r0 r_keys r_days r_values cI rkeys rdays rvalues rcount) (Wc' := []) (W2 := wD_ d0 s0 z0 b0 q0 t0 dhasSaved dkeptError dmoved ++ wS_ s0 v0 f0 r0 ++ wV_ v0 v_keys v_firsts v_ends v_values v_inferred v_gone cI cZ vkeys vfirsts vends vvalues vinferred vgone vmade ++ wF_ f0 f_keys f_days f_amounts f_versions cI fkeys fdays famounts fversions fcount ++ wR_ r0 r_keys r_days r_values cI rkeys rdays rvalues rcount) hP hD [] [0, 1, 2, 3, 4, 5, 6, 7, 8, 9, 10, 11, 12, 13, 14, 15, 16, 17] [0, 1, 2, 3, 4, 5, 6, 7, 8, 9, 10, 11, 12, 13, 14, 15, 16, 17] rfl rfl (by decide) (by decide) (by decide) hk1 hFc hB ht rfl
      exact vx_out (fun x h => (htab x h).elim) hlocks hce hcv hcl (thr2_ hS hP hK hD rfl) hS.2.2 (Nat.le_of_ble_eq_true rfl) (Nat.le_of_ble_eq_true rfl)
    · exact absurd hw (fun h => nomatch h)
  | ok v2 =>
    refine vx_callv (vx_runS (As := [.int a1]) (rest := []) ⟨hx, hb, hml, hown, hts⟩ (c_X5_checkKey l dC dI cI cZ cC cJ cD hst s.heap.size a1 (Except.ok ()) g4) (cwS 1 hts gX5_gapDay_X5_checkKey rfl rfl rfl hs_X5_checkKey ⟨Nat.le_of_ble_eq_true rfl, Nat.le_of_ble_eq_true rfl⟩) (preSy_ hPc hK hDc rfl hS hU hN hFc hC) rfl rfl hl.1 rfl (lv_room (Nat.le_of_ble_eq_true rfl)) dX5_gapDay_1 ⟨Nat.le_of_ble_eq_true rfl, Nat.le_of_ble_eq_true rfl⟩) hS (fun q _ h => hFc q h) hFc (fun q _ h => hFc q h) (fun E ce q9 u t H7 locs ht hvm hp hB hz1 hk1 hS hce hcv hcl => ?_) (fun u t H7 locs ht hvm hw hB hz1 hk1 hS => ?_)
    · exact absurd hB.1 (fun h => nomatch h)
    · obtain ⟨hP, hD⟩ := aft_ (Wr := wD_ d0 s0 z0 b0 q0 t0 dhasSaved dkeptError dmoved ++ wS_ s0 v0 f0 r0 ++ wV_ v0 v_keys v_firsts v_ends v_values v_inferred v_gone cI cZ vkeys vfirsts vends vvalues vinferred vgone vmade ++ wF_ f0 f_keys f_days f_amounts f_versions cI fkeys fdays famounts fversions fcount ++ wR_ r0 r_keys r_days r_values cI rkeys rdays rvalues rcount) (Wc' := []) (W2 := wD_ d0 s0 z0 b0 q0 t0 dhasSaved dkeptError dmoved ++ wS_ s0 v0 f0 r0 ++ wV_ v0 v_keys v_firsts v_ends v_values v_inferred v_gone cI cZ vkeys vfirsts vends vvalues vinferred vgone vmade ++ wF_ f0 f_keys f_days f_amounts f_versions cI fkeys fdays famounts fversions fcount ++ wR_ r0 r_keys r_days r_values cI rkeys rdays rvalues rcount) hP hD [] [0, 1, 2, 3, 4, 5, 6, 7, 8, 9, 10, 11, 12, 13, 14, 15, 16, 17] [0, 1, 2, 3, 4, 5, 6, 7, 8, 9, 10, 11, 12, 13, 14, 15, 16, 17] rfl rfl (by decide) (by decide) (by decide) hk1 hFc hB ht rfl
      refine lv_aload_n hx hb dX5_gapDay_4 rfl (lv_at hl 0 rfl) ?_
      refine va_get (D := (dC, dI)) (ci := 7) (v := .ref s0) (C := RX5) (T := TX5) (N := 8) hx hb hts inX5_ hown hK hP 0 rfl rfl 0 (by decide) fl10_ (fun _ h9 => h9) rfl dX5_gapDay_5 ?_
      refine va_get (D := (dC, dI)) (ci := 4) (v := .ref v0) (C := RX2) (T := TX2) (N := 3) hx hb hts inX2_ hown hK hP 1 rfl rfl 0 (by decide) fl51_ (fun _ h9 => h9) rfl dX5_gapDay_8 ?_
      refine lv_astore (lv' := [(4, .ref v0), (0, .ref d0), (1, .int a1), (2, .int a2), (3, .int a3)]) hx hb dX5_gapDay_11 hl (by decide) rfl (fun ls hl => ?_)
      refine lv_aload hx hb dX5_gapDay_13 (lv_at hl 0 rfl) ?_
      refine lv_iload_n hx hb dX5_gapDay_15 rfl (lv_at hl 2 rfl) ?_
      refine lv_iload_n hx hb dX5_gapDay_16 rfl (lv_at hl 3 rfl) ?_
      obtain ⟨R11, g12, hf⟩ := bd_B hf
      obtain ⟨r10, rfl⟩ : ∃ z, z = R11 := ⟨_, rfl⟩
      have hPc := hP.sub (ws' := wV_ v0 v_keys v_firsts v_ends v_values v_inferred v_gone cI cZ vkeys vfirsts vends vvalues vinferred vgone vmade) [2, 3, 4, 5, 6, 7, 8] rfl
      have hDc := hD.sub (ws' := wV_ v0 v_keys v_firsts v_ends v_values v_inferred v_gone cI cZ vkeys vfirsts vends vvalues vinferred vgone vmade) [2, 3, 4, 5, 6, 7, 8] (by decide) rfl
      have hFc := va_free (wc := wV_ v0 v_keys v_firsts v_ends v_values v_inferred v_gone cI cZ vkeys vfirsts vends vvalues vinferred vgone vmade) hD hS hA [2, 3, 4, 5, 6, 7, 8] rfl
      refine va_calli (va_runV (As := [.int a1, .int a2]) (rest := []) ⟨hx, hb, hml, hown, hts⟩ (c_X4_aheadOfGap l dC dI cI cZ cC cJ cD v0 v_keys v_firsts v_ends v_values v_inferred v_gone H7.size vkeys vfirsts vends vvalues vinferred vgone vmade a1 a2 r10 g12) (cwV 2 hts gX5_gapDay_X4_aheadOfGap rfl rfl rfl hs_X4_aheadOfGap ⟨Nat.le_of_ble_eq_true rfl, Nat.le_of_ble_eq_true rfl⟩) (preV_ (ci := 6) (q0 := 0) hPc hK hDc rfl rfl rfl rfl) rfl rfl hl.1 rfl (lv_room (Nat.le_of_ble_eq_true rfl)) dX5_gapDay_17 ⟨Nat.le_of_ble_eq_true rfl, Nat.le_of_ble_eq_true rfl⟩) hS (fun q _ h => hFc q h) hFc (fun z14 u t H13 locs ht hvm hw hB hz1 hk1 hS => ?_)
      have hw : r10 = z14 := hw.symm
      subst hw
      obtain ⟨hP, hD⟩ := aft_ (Wr := wD_ d0 s0 z0 b0 q0 t0 dhasSaved dkeptError dmoved ++ wS_ s0 v0 f0 r0 ++ wF_ f0 f_keys f_days f_amounts f_versions cI fkeys fdays famounts fversions fcount ++ wR_ r0 r_keys r_days r_values cI rkeys rdays rvalues rcount) (Wc' := wV_ v0 v_keys v_firsts v_ends v_values v_inferred v_gone cI cZ vkeys vfirsts vends vvalues vinferred vgone vmade) (W2 := wD_ d0 s0 z0 b0 q0 t0 dhasSaved dkeptError dmoved ++ wS_ s0 v0 f0 r0 ++ wV_ v0 v_keys v_firsts v_ends v_values v_inferred v_gone cI cZ vkeys vfirsts vends vvalues vinferred vgone vmade ++ wF_ f0 f_keys f_days f_amounts f_versions cI fkeys fdays famounts fversions fcount ++ wR_ r0 r_keys r_days r_values cI rkeys rdays rvalues rcount) hP hD [2, 3, 4, 5, 6, 7, 8] [0, 1, 9, 10, 11, 12, 13, 14, 15, 16, 17] [0, 1, 11, 12, 13, 14, 15, 16, 17, 2, 3, 4, 5, 6, 7, 8, 9, 10] rfl rfl (by decide) (by decide) (by decide) hk1 hFc hB ht rfl
      obtain ⟨R17, g18, hf⟩ := bd_B hf
      obtain ⟨x15, rfl⟩ : ∃ z, z = R17 := ⟨_, rfl⟩
      have hPc := hP.sub (ws' := []) [] rfl
      have hDc := hD.sub (ws' := []) [] (by decide) rfl
      have hFc := va_free (wc := []) hD hS hA [] rfl
      cases x15 with
      | error E23 =>
        have hR := Option.some.inj hf
        subst hR
        refine vx_calli (vx_runS (As := [.int r10]) (rest := []) ⟨hx, hb, hml, hown, hts⟩ (c_X5_found l dC dI cI cZ cC cJ cD hst H13.size r10 (Except.error E23) g18) (cwS 1 hts gX5_gapDay_X5_found rfl rfl rfl hs_X5_found ⟨Nat.le_of_ble_eq_true rfl, Nat.le_of_ble_eq_true rfl⟩) (preSy_ hPc hK hDc rfl hS hU hN hFc hC) rfl rfl hl.1 rfl (lv_room (Nat.le_of_ble_eq_true rfl)) dX5_gapDay_20 ⟨Nat.le_of_ble_eq_true rfl, Nat.le_of_ble_eq_true rfl⟩) hS (fun q _ h => hFc q h) hFc (fun q _ h => hFc q h) (fun E ce q9 u t H21 locs ht hvm hp hB hz1 hk1 hS hce hcv hcl => ?_) (fun z22 u t H21 locs ht hvm hw hB hz1 hk1 hS => ?_)
        · obtain ⟨hE, hB⟩ := hB
          cases hE
          obtain ⟨hP, hD⟩ := aft_ (Wr := wD_ d0 s0 z0 b0 q0 t0 dhasSaved dkeptError dmoved ++ wS_ s0 v0 f0 r0 ++ wV_ v0 v_keys v_firsts v_ends v_values v_inferred v_gone cI cZ vkeys vfirsts vends vvalues vinferred vgone vmade ++ wF_ f0 f_keys f_days f_amounts f_versions cI fkeys fdays famounts fversions fcount ++ wR_ r0 r_keys r_days r_values cI rkeys rdays rvalues rcount) (Wc' := []) (W2 := wD_ d0 s0 z0 b0 q0 t0 dhasSaved dkeptError dmoved ++ wS_ s0 v0 f0 r0 ++ wV_ v0 v_keys v_firsts v_ends v_values v_inferred v_gone cI cZ vkeys vfirsts vends vvalues vinferred vgone vmade ++ wF_ f0 f_keys f_days f_amounts f_versions cI fkeys fdays famounts fversions fcount ++ wR_ r0 r_keys r_days r_values cI rkeys rdays rvalues rcount) hP hD [] [0, 1, 2, 3, 4, 5, 6, 7, 8, 9, 10, 11, 12, 13, 14, 15, 16, 17] [0, 1, 2, 3, 4, 5, 6, 7, 8, 9, 10, 11, 12, 13, 14, 15, 16, 17] rfl rfl (by decide) (by decide) (by decide) hk1 hFc hB ht rfl
          exact vx_out (fun x h => (htab x h).elim) hlocks hce hcv hcl (thr2_ hS hP hK hD rfl) hS.2.2 (Nat.le_of_ble_eq_true rfl) (Nat.le_of_ble_eq_true rfl)
        · exact absurd hw (fun h => nomatch h)
      | ok r16 =>
        refine vx_calli (vx_runS (As := [.int r10]) (rest := []) ⟨hx, hb, hml, hown, hts⟩ (c_X5_found l dC dI cI cZ cC cJ cD hst H13.size r10 (Except.ok r16) g18) (cwS 1 hts gX5_gapDay_X5_found rfl rfl rfl hs_X5_found ⟨Nat.le_of_ble_eq_true rfl, Nat.le_of_ble_eq_true rfl⟩) (preSy_ hPc hK hDc rfl hS hU hN hFc hC) rfl rfl hl.1 rfl (lv_room (Nat.le_of_ble_eq_true rfl)) dX5_gapDay_20 ⟨Nat.le_of_ble_eq_true rfl, Nat.le_of_ble_eq_true rfl⟩) hS (fun q _ h => hFc q h) hFc (fun q _ h => hFc q h) (fun E ce q9 u t H21 locs ht hvm hp hB hz1 hk1 hS hce hcv hcl => ?_) (fun z22 u t H21 locs ht hvm hw hB hz1 hk1 hS => ?_)
        · exact absurd hB.1 (fun h => nomatch h)
        · have hw : r16 = z22 := Except.ok.inj hw
          subst hw
          obtain ⟨hP, hD⟩ := aft_ (Wr := wD_ d0 s0 z0 b0 q0 t0 dhasSaved dkeptError dmoved ++ wS_ s0 v0 f0 r0 ++ wV_ v0 v_keys v_firsts v_ends v_values v_inferred v_gone cI cZ vkeys vfirsts vends vvalues vinferred vgone vmade ++ wF_ f0 f_keys f_days f_amounts f_versions cI fkeys fdays famounts fversions fcount ++ wR_ r0 r_keys r_days r_values cI rkeys rdays rvalues rcount) (Wc' := []) (W2 := wD_ d0 s0 z0 b0 q0 t0 dhasSaved dkeptError dmoved ++ wS_ s0 v0 f0 r0 ++ wV_ v0 v_keys v_firsts v_ends v_values v_inferred v_gone cI cZ vkeys vfirsts vends vvalues vinferred vgone vmade ++ wF_ f0 f_keys f_days f_amounts f_versions cI fkeys fdays famounts fversions fcount ++ wR_ r0 r_keys r_days r_values cI rkeys rdays rvalues rcount) hP hD [] [0, 1, 2, 3, 4, 5, 6, 7, 8, 9, 10, 11, 12, 13, 14, 15, 16, 17] [0, 1, 2, 3, 4, 5, 6, 7, 8, 9, 10, 11, 12, 13, 14, 15, 16, 17] rfl rfl (by decide) (by decide) (by decide) hk1 hFc hB ht rfl
          refine lv_istore (lv' := [(5, .int r16), (4, .ref v0), (0, .ref d0), (1, .int a1), (2, .int a2), (3, .int a3)]) hx hb dX5_gapDay_23 hl (by decide) rfl (fun ls hl => ?_)
          refine lv_iload_n hx hb dX5_gapDay_25 rfl (lv_at hl 5 rfl) ?_
          refine lv_if_eq (tgt := 48) hx hb dX5_gapDay_26 (by decide) (fun c24 => ?_) (fun c24 => ?_)
          · have hf := ite_T c24 hf
            refine lv_aload hx hb dX5_gapDay_48 (lv_at hl 1 rfl) ?_
            refine va_get (D := (dC, dI)) (ci := 6) (v := .ref v_ends) (C := RX4) (T := TX4) (N := 7) hx hb hts inX4_ hown hK hP 2 rfl rfl 2 (by decide) fl96_ (fun _ h9 => h9) rfl dX5_gapDay_50 ?_
            refine lv_iload hx hb dX5_gapDay_53 (lv_at hl 0 rfl) ?_
            obtain ⟨h25, hf⟩ := gd_T hf
            refine va_iald hx hb hK hP 5 0 rfl rfl h25 dX5_gapDay_55 ?_
            have hR := Option.some.inj hf
            subst hR
            refine vx_ret (W.widen (k := 2) (n := 12) (Nat.le_of_ble_eq_true rfl) (Nat.le_of_ble_eq_true rfl) ?_)
            exact W.iret (v := vends r16.toNatClampNeg) hx hb hr (fun t ht hW => ⟨⟨vends r16.toNatClampNeg, (), rfl, rfl, by rw [ht]; exact hP, va_K.moved hW.alike hK, hD⟩, hS.F ht⟩) hS.2.2 dX5_gapDay_56
          · have hf := ite_F c24 hf
            refine lv_aload hx hb dX5_gapDay_29 (lv_at hl 1 rfl) ?_
            refine lv_iload_n hx hb dX5_gapDay_31 rfl (lv_at hl 3 rfl) ?_
            refine lv_aload hx hb dX5_gapDay_32 (lv_at hl 1 rfl) ?_
            refine va_get (D := (dC, dI)) (ci := 6) (v := .ref v_firsts) (C := RX4) (T := TX4) (N := 7) hx hb hts inX4_ hown hK hP 2 rfl rfl 1 (by decide) fl88_ (fun _ h9 => h9) rfl dX5_gapDay_34 ?_
            refine lv_iload hx hb dX5_gapDay_37 (lv_at hl 0 rfl) ?_
            obtain ⟨h26, hf⟩ := gd_T hf
            refine va_iald hx hb hK hP 4 0 rfl rfl h26 dX5_gapDay_39 ?_
            obtain ⟨R28, g29, hf⟩ := bd_B hf
            obtain ⟨r27, rfl⟩ : ∃ z, z = R28 := ⟨_, rfl⟩
            have hPc := hP.sub (ws' := wV_ v0 v_keys v_firsts v_ends v_values v_inferred v_gone cI cZ vkeys vfirsts vends vvalues vinferred vgone vmade) [2, 3, 4, 5, 6, 7, 8] rfl
            have hDc := hD.sub (ws' := wV_ v0 v_keys v_firsts v_ends v_values v_inferred v_gone cI cZ vkeys vfirsts vends vvalues vinferred vgone vmade) [2, 3, 4, 5, 6, 7, 8] (by decide) rfl
            have hFc := va_free (wc := wV_ v0 v_keys v_firsts v_ends v_values v_inferred v_gone cI cZ vkeys vfirsts vends vvalues vinferred vgone vmade) hD hS hA [2, 3, 4, 5, 6, 7, 8] rfl
            refine va_calli (va_runV (As := [.int a1, .int (vfirsts r16.toNatClampNeg)]) (rest := []) ⟨hx, hb, hml, hown, hts⟩ (c_X4_nextFirst l dC dI cI cZ cC cJ cD v0 v_keys v_firsts v_ends v_values v_inferred v_gone H21.size vkeys vfirsts vends vvalues vinferred vgone vmade a1 (vfirsts r16.toNatClampNeg) r27 g29) (cwV 2 hts gX5_gapDay_X4_nextFirst rfl rfl rfl hs_X4_nextFirst ⟨Nat.le_of_ble_eq_true rfl, Nat.le_of_ble_eq_true rfl⟩) (preV_ (ci := 6) (q0 := 0) hPc hK hDc rfl rfl rfl rfl) rfl rfl hl.1 rfl (lv_room (Nat.le_of_ble_eq_true rfl)) dX5_gapDay_40 ⟨Nat.le_of_ble_eq_true rfl, Nat.le_of_ble_eq_true rfl⟩) hS (fun q _ h => hFc q h) hFc (fun z31 u t H30 locs ht hvm hw hB hz1 hk1 hS => ?_)
            have hw : r27 = z31 := hw.symm
            subst hw
            obtain ⟨hP, hD⟩ := aft_ (Wr := wD_ d0 s0 z0 b0 q0 t0 dhasSaved dkeptError dmoved ++ wS_ s0 v0 f0 r0 ++ wF_ f0 f_keys f_days f_amounts f_versions cI fkeys fdays famounts fversions fcount ++ wR_ r0 r_keys r_days r_values cI rkeys rdays rvalues rcount) (Wc' := wV_ v0 v_keys v_firsts v_ends v_values v_inferred v_gone cI cZ vkeys vfirsts vends vvalues vinferred vgone vmade) (W2 := wD_ d0 s0 z0 b0 q0 t0 dhasSaved dkeptError dmoved ++ wS_ s0 v0 f0 r0 ++ wV_ v0 v_keys v_firsts v_ends v_values v_inferred v_gone cI cZ vkeys vfirsts vends vvalues vinferred vgone vmade ++ wF_ f0 f_keys f_days f_amounts f_versions cI fkeys fdays famounts fversions fcount ++ wR_ r0 r_keys r_days r_values cI rkeys rdays rvalues rcount) hP hD [2, 3, 4, 5, 6, 7, 8] [0, 1, 9, 10, 11, 12, 13, 14, 15, 16, 17] [0, 1, 11, 12, 13, 14, 15, 16, 17, 2, 3, 4, 5, 6, 7, 8, 9, 10] rfl rfl (by decide) (by decide) (by decide) hk1 hFc hB ht rfl
            refine lv_iconst (v := 1) hx hb dX5_gapDay_43 (by decide) ?_
            refine lv_isub hx hb dX5_gapDay_44 ?_
            refine lv_goto (tgt := 56) hx hb dX5_gapDay_45 (by decide) ?_
            have hR := Option.some.inj hf
            subst hR
            refine vx_ret (W.widen (k := 2) (n := 12) (Nat.le_of_ble_eq_true rfl) (Nat.le_of_ble_eq_true rfl) ?_)
            exact W.iret (v := r27 - 1) hx hb hr (fun t ht hW => ⟨⟨r27 - 1, (), rfl, rfl, by rw [ht]; exact hP, va_K.moved hW.alike hK, hD⟩, hS.F ht⟩) hS.2.2 dX5_gapDay_56
theorem hs_X5_gapDay : yX5_gapDay.cls = RX5 ∧ yX5_gapDay.cls ≠ "java/lang/invoke/MethodHandle" ∧ yX5_gapDay.cls ≠ "java/lang/invoke/VarHandle" ∧ (parseMethodDescriptor yX5_gapDay.desc).map (fun d => d.parameters.length) = some 3 := by decide +kernel
