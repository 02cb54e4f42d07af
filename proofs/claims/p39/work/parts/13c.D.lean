set_option maxRecDepth 20000 in
theorem in_X5_coverage_X2 : ∀ w ∈ wsX20, w ∈ wsX5_coverage := by decide +kernel
set_option maxRecDepth 20000 in
theorem in_X5_coverage_X5 : ∀ w ∈ wsX50, w ∈ wsX5_coverage := by decide +kernel
set_option maxRecDepth 20000 in
theorem at_X5_coverage_204 : ∀ w ∈ (vx_at0 RX5 204 "java/lang/ArithmeticException" ["java/lang/RuntimeException", "java/lang/Exception"]).filter goodWord, w ∈ wsX5_coverage := by decide +kernel
set_option maxRecDepth 20000 in
theorem at_X5_coverage_204g : ∀ w ∈ Cond.classLink RX5 202 "java/lang/ArithmeticException" :: Cond.initialized "java/lang/ArithmeticException" :: vx_at0 RX5 204 "java/lang/ArithmeticException" ["java/lang/RuntimeException", "java/lang/Exception"], vx_ot w = true := by decide +kernel
def f_X5_coverage (a1 : Int32) (D_ : tD_) (S_ : tS_) (V_ : tV_) (F_ : tF_) (R_ : tR_) : Option (Except String UInt64) :=
match D_ with
| (dhasSaved, dkeptError, dmoved) =>
match V_ with
| (vkeys, vfirsts, vends, vvalues, vinferred, vgone, vmade) =>
match F_ with
| (fkeys, fdays, famounts, fversions, fcount) =>
match R_ with
| (rkeys, rdays, rvalues, rcount) =>
bd_ (f_X5_checkKey a1) (fun x1 =>
match x1 with
| Except.error E9 => some (Except.error E9)
| Except.ok v2 =>
bd_ (f_X4_countOf a1 (vkeys, vfirsts, vends, vvalues, vinferred, vgone, vmade)) (fun r10 =>
if r10 = 0 then
some (Except.error "java/lang/ArithmeticException")
else
bd_ (f_X4_sumDays a1 (vkeys, vfirsts, vends, vvalues, vinferred, vgone, vmade)) (fun r16 =>
bd_ (f_X4_nextFirst a1 (-1 : Int32) (vkeys, vfirsts, vends, vvalues, vinferred, vgone, vmade)) (fun r21 =>
gN_ (FP.i2d r16) (FP.i2d (1000 - r21)) (
some (Except.ok (FP.ddiv (FP.i2d r16) (FP.i2d (1000 - r21)))))))))
abbrev rm_X5_coverage : Room := { frames := 7, cells := 2, slots := 12, locals := 109 }
set_option maxHeartbeats 4000000 in
set_option maxRecDepth 100000 in
theorem c_X5_coverage (l : Launch) (dC : Nat → ClassId) (dI : Nat → Nat → Nat) (cI cZ cC cJ cD : ClassId) (hst : l.stackTraces = false) (d0 s0 z0 b0 q0 t0 v0 f0 r0 v_keys v_firsts v_ends v_values v_inferred v_gone f_keys f_days f_amounts f_versions r_keys r_days r_values : Nat) (sz : Nat) (dhasSaved : Int32) (dkeptError : Int32) (dmoved : Int32) (vkeys : Nat → Int32) (vfirsts : Nat → Int32) (vends : Nat → Int32) (vvalues : Nat → Int32) (vinferred : Nat → Int32) (vgone : Nat → Int32) (vmade : Int32) (fkeys : Nat → Int32) (fdays : Nat → Int32) (famounts : Nat → Int32) (fversions : Nat → Int32) (fcount : Int32) (rkeys : Nat → Int32) (rdays : Nat → Int32) (rvalues : Nat → Int32) (rcount : Int32) (a1 : Int32) (R : Except String UInt64) (hf : f_X5_coverage a1 (dhasSaved, dkeptError, dmoved) () (vkeys, vfirsts, vends, vvalues, vinferred, vgone, vmade) (fkeys, fdays, famounts, fversions, fcount) (rkeys, rdays, rvalues, rcount) = some R) : vx_Met l yX5_coverage wsX5_coverage rm_X5_coverage (Py_ (dC, dI) (ty_ cI cZ cC cJ cD) (wD_ d0 s0 z0 b0 q0 t0 dhasSaved dkeptError dmoved ++ wS_ s0 v0 f0 r0 ++ wV_ v0 v_keys v_firsts v_ends v_values v_inferred v_gone cI cZ vkeys vfirsts vends vvalues vinferred vgone vmade ++ wF_ f0 f_keys f_days f_amounts f_versions cI fkeys fdays famounts fversions fcount ++ wR_ r0 r_keys r_days r_values cI rkeys rdays rvalues rcount) sz [.ref d0, .int a1]) (Xd_ (dC, dI) (ty_ cI cZ cC cJ cD) R (wD_ d0 s0 z0 b0 q0 t0 dhasSaved dkeptError dmoved ++ wS_ s0 v0 f0 r0 ++ wV_ v0 v_keys v_firsts v_ends v_values v_inferred v_gone cI cZ vkeys vfirsts vends vvalues vinferred vgone vmade ++ wF_ f0 f_keys f_days f_amounts f_versions cI fkeys fdays famounts fversions fcount ++ wR_ r0 r_keys r_days r_values cI rkeys rdays rvalues rcount) (va_A (wD_ d0 s0 z0 b0 q0 t0 dhasSaved dkeptError dmoved ++ wS_ s0 v0 f0 r0 ++ wV_ v0 v_keys v_firsts v_ends v_values v_inferred v_gone cI cZ vkeys vfirsts vends vvalues vinferred vgone vmade ++ wF_ f0 f_keys f_days f_amounts f_versions cI fkeys fdays famounts fversions fcount ++ wR_ r0 r_keys r_days r_values cI rkeys rdays rvalues rcount) sz)) (XX_ (dC, dI) (ty_ cI cZ cC cJ cD) R (wD_ d0 s0 z0 b0 q0 t0 dhasSaved dkeptError dmoved ++ wS_ s0 v0 f0 r0 ++ wV_ v0 v_keys v_firsts v_ends v_values v_inferred v_gone cI cZ vkeys vfirsts vends vvalues vinferred vgone vmade ++ wF_ f0 f_keys f_days f_amounts f_versions cI fkeys fdays famounts fversions fcount ++ wR_ r0 r_keys r_days r_values cI rkeys rdays rvalues rcount) (va_A (wD_ d0 s0 z0 b0 q0 t0 dhasSaved dkeptError dmoved ++ wS_ s0 v0 f0 r0 ++ wV_ v0 v_keys v_firsts v_ends v_values v_inferred v_gone cI cZ vkeys vfirsts vends vvalues vinferred vgone vmade ++ wF_ f0 f_keys f_days f_amounts f_versions cI fkeys fdays famounts fversions fcount ++ wR_ r0 r_keys r_days r_values cI rkeys rdays rvalues rcount) sz)) 2 12 (va_A (wD_ d0 s0 z0 b0 q0 t0 dhasSaved dkeptError dmoved ++ wS_ s0 v0 f0 r0 ++ wV_ v0 v_keys v_firsts v_ends v_values v_inferred v_gone cI cZ vkeys vfirsts vends vvalues vinferred vgone vmade ++ wF_ f0 f_keys f_days f_amounts f_versions cI fkeys fdays famounts fversions fcount ++ wR_ r0 r_keys r_days r_values cI rkeys rdays rvalues rcount) sz) := by
  refine mety_ (cc := cX5_coverage) (maxL := 2) (ret := (some .double)) (Qcf := fun A => Xd_ (dC, dI) (ty_ cI cZ cC cJ cD) R (wD_ d0 s0 z0 b0 q0 t0 dhasSaved dkeptError dmoved ++ wS_ s0 v0 f0 r0 ++ wV_ v0 v_keys v_firsts v_ends v_values v_inferred v_gone cI cZ vkeys vfirsts vends vvalues vinferred vgone vmade ++ wF_ f0 f_keys f_days f_amounts f_versions cI fkeys fdays famounts fversions fcount ++ wR_ r0 r_keys r_days r_values cI rkeys rdays rvalues rcount) A) (XCf := fun A => XX_ (dC, dI) (ty_ cI cZ cC cJ cD) R (wD_ d0 s0 z0 b0 q0 t0 dhasSaved dkeptError dmoved ++ wS_ s0 v0 f0 r0 ++ wV_ v0 v_keys v_firsts v_ends v_values v_inferred v_gone cI cZ vkeys vfirsts vends vvalues vinferred vgone vmade ++ wF_ f0 f_keys f_days f_amounts f_versions cI fkeys fdays famounts fversions fcount ++ wR_ r0 r_keys r_days r_values cI rkeys rdays rvalues rcount) A) (by decide) rfl (Nat.le_of_ble_eq_true rfl) ?_
  intro p e s m args below meth c A ls hx hb hr hts hown hlocks hml htab hA hU hN hC hP hK hD hl
  have hown : s.vm.findClass RX5 = some m.cls := hown
  have hl : lv_has ls 2 [(0, .ref d0), (1, .int a1)] := hl
  have hS : va_S A s.heap s.heap [] := va_S.rf
  have fl10_ : (Cond.fieldLink RX5 10 "DimensionLoader" "live" "LDimensionLoader$Store;").before args s = true := hts _ (List.mem_of_getElem? (i := 3) rfl)
  have fl51_ : (Cond.fieldLink RX5 51 "DimensionLoader$Store" "versions" "LDimensionLoader$Versions;").before args s = true := hts _ (List.mem_of_getElem? (i := 4) rfl)
  have inX2_ : ∀ w ∈ wsX20, w ∈ wsX5_coverage := in_X5_coverage_X2
  have inX5_ : ∀ w ∈ wsX50, w ∈ wsX5_coverage := in_X5_coverage_X5
  unfold f_X5_coverage at hf
  dsimp only at hf
  refine lv_iload_n hx hb dX5_coverage_0 rfl (lv_at hl 1 rfl) ?_
  obtain ⟨R3, g4, hf⟩ := bd_B hf
  obtain ⟨x1, rfl⟩ : ∃ z, z = R3 := ⟨_, rfl⟩
  have hPc := hP.sub (ws' := []) [] rfl
  have hDc := hD.sub (ws' := []) [] (by decide) rfl
  have hFc := va_free (wc := []) hD hS hA [] rfl
  cases x1 with
  | error E9 =>
    have hR := Option.some.inj hf
    subst hR
    refine vx_callv (vx_runS (As := [.int a1]) (rest := []) ⟨hx, hb, hml, hown, hts⟩ (c_X5_checkKey l dC dI cI cZ cC cJ cD hst s.heap.size a1 (Except.error E9) g4) (cwS 1 hts gX5_coverage_X5_checkKey rfl rfl rfl hs_X5_checkKey ⟨Nat.le_of_ble_eq_true rfl, Nat.le_of_ble_eq_true rfl⟩) (preSy_ hPc hK hDc rfl hS hU hN hFc hC) rfl rfl hl.1 rfl (lv_room (Nat.le_of_ble_eq_true rfl)) dX5_coverage_1 ⟨Nat.le_of_ble_eq_true rfl, Nat.le_of_ble_eq_true rfl⟩) hS (fun q _ h => hFc q h) hFc (fun q _ h => hFc q h) (fun E ce q9 u t H7 locs ht hvm hp hB hz1 hk1 hS hce hcv hcl => ?_) (fun u t H7 locs ht hvm hw hB hz1 hk1 hS => ?_)
    · obtain ⟨hE, hB⟩ := hB
      cases hE
      obtain ⟨hP, hD⟩ := aft_ (Wr := wD_ d0 s0 z0 b0 q0 t0 dhasSaved dkeptError dmoved ++ wS_ s0 v0 f0 r0 ++ wV_ v0 v_keys v_firsts v_ends v_values v_inferred v_gone cI cZ vkeys vfirsts vends vvalues vinferred vgone vmade ++ wF_ f0 f_keys f_days f_amounts f_versions cI fkeys fdays famounts fversions fcount ++ wR_ r0 r_keys r_days r_values cI rkeys rdays rvalues rcount) (Wc' := []) (W2 := wD_ d0 s0 z0 b0 q0 t0 dhasSaved dkeptError dmoved ++ wS_ s0 v0 f0 r0 ++ wV_ v0 v_keys v_firsts v_ends v_values v_inferred v_gone cI cZ vkeys vfirsts vends vvalues vinferred vgone vmade ++ wF_ f0 f_keys f_days f_amounts f_versions cI fkeys fdays famounts fversions fcount ++ wR_ r0 r_keys r_days r_values cI rkeys rdays rvalues rcount) hP hD [] [0, 1, 2, 3, 4, 5, 6, 7, 8, 9, 10, 11, 12, 13, 14, 15, 16, 17] [0, 1, 2, 3, 4, 5, 6, 7, 8, 9, 10, 11, 12, 13, 14, 15, 16, 17] rfl rfl (by decide) (by decide) (by decide) hk1 hFc hB ht rfl
      exact vx_out (fun x h => (htab x h).elim) hlocks hce hcv hcl (thr2_ hS hP hK hD rfl) hS.2.2 (Nat.le_of_ble_eq_true rfl) (Nat.le_of_ble_eq_true rfl)
    · exact absurd hw (fun h => nomatch h)
  | ok v2 =>
    refine vx_callv (vx_runS (As := [.int a1]) (rest := []) ⟨hx, hb, hml, hown, hts⟩ (c_X5_checkKey l dC dI cI cZ cC cJ cD hst s.heap.size a1 (Except.ok ()) g4) (cwS 1 hts gX5_coverage_X5_checkKey rfl rfl rfl hs_X5_checkKey ⟨Nat.le_of_ble_eq_true rfl, Nat.le_of_ble_eq_true rfl⟩) (preSy_ hPc hK hDc rfl hS hU hN hFc hC) rfl rfl hl.1 rfl (lv_room (Nat.le_of_ble_eq_true rfl)) dX5_coverage_1 ⟨Nat.le_of_ble_eq_true rfl, Nat.le_of_ble_eq_true rfl⟩) hS (fun q _ h => hFc q h) hFc (fun q _ h => hFc q h) (fun E ce q9 u t H7 locs ht hvm hp hB hz1 hk1 hS hce hcv hcl => ?_) (fun u t H7 locs ht hvm hw hB hz1 hk1 hS => ?_)
    · exact absurd hB.1 (fun h => nomatch h)
    · obtain ⟨hP, hD⟩ := aft_ (Wr := wD_ d0 s0 z0 b0 q0 t0 dhasSaved dkeptError dmoved ++ wS_ s0 v0 f0 r0 ++ wV_ v0 v_keys v_firsts v_ends v_values v_inferred v_gone cI cZ vkeys vfirsts vends vvalues vinferred vgone vmade ++ wF_ f0 f_keys f_days f_amounts f_versions cI fkeys fdays famounts fversions fcount ++ wR_ r0 r_keys r_days r_values cI rkeys rdays rvalues rcount) (Wc' := []) (W2 := wD_ d0 s0 z0 b0 q0 t0 dhasSaved dkeptError dmoved ++ wS_ s0 v0 f0 r0 ++ wV_ v0 v_keys v_firsts v_ends v_values v_inferred v_gone cI cZ vkeys vfirsts vends vvalues vinferred vgone vmade ++ wF_ f0 f_keys f_days f_amounts f_versions cI fkeys fdays famounts fversions fcount ++ wR_ r0 r_keys r_days r_values cI rkeys rdays rvalues rcount) hP hD [] [0, 1, 2, 3, 4, 5, 6, 7, 8, 9, 10, 11, 12, 13, 14, 15, 16, 17] [0, 1, 2, 3, 4, 5, 6, 7, 8, 9, 10, 11, 12, 13, 14, 15, 16, 17] rfl rfl (by decide) (by decide) (by decide) hk1 hFc hB ht rfl
      refine lv_aload_n hx hb dX5_coverage_4 rfl (lv_at hl 0 rfl) ?_
      refine va_get (D := (dC, dI)) (ci := 7) (v := .ref s0) (C := RX5) (T := TX5) (N := 8) hx hb hts inX5_ hown hK hP 0 rfl rfl 0 (by decide) fl10_ (fun _ h9 => h9) rfl dX5_coverage_5 ?_
      refine va_get (D := (dC, dI)) (ci := 4) (v := .ref v0) (C := RX2) (T := TX2) (N := 3) hx hb hts inX2_ hown hK hP 1 rfl rfl 0 (by decide) fl51_ (fun _ h9 => h9) rfl dX5_coverage_8 ?_
      refine lv_iload_n hx hb dX5_coverage_11 rfl (lv_at hl 1 rfl) ?_
      obtain ⟨R11, g12, hf⟩ := bd_B hf
      obtain ⟨r10, rfl⟩ : ∃ z, z = R11 := ⟨_, rfl⟩
      have hPc := hP.sub (ws' := wV_ v0 v_keys v_firsts v_ends v_values v_inferred v_gone cI cZ vkeys vfirsts vends vvalues vinferred vgone vmade) [2, 3, 4, 5, 6, 7, 8] rfl
      have hDc := hD.sub (ws' := wV_ v0 v_keys v_firsts v_ends v_values v_inferred v_gone cI cZ vkeys vfirsts vends vvalues vinferred vgone vmade) [2, 3, 4, 5, 6, 7, 8] (by decide) rfl
      have hFc := va_free (wc := wV_ v0 v_keys v_firsts v_ends v_values v_inferred v_gone cI cZ vkeys vfirsts vends vvalues vinferred vgone vmade) hD hS hA [2, 3, 4, 5, 6, 7, 8] rfl
      refine va_calli (va_runV (As := [.int a1]) (rest := []) ⟨hx, hb, hml, hown, hts⟩ (c_X4_countOf l dC dI cI cZ cC cJ cD v0 v_keys v_firsts v_ends v_values v_inferred v_gone H7.size vkeys vfirsts vends vvalues vinferred vgone vmade a1 r10 g12) (cwV 1 hts gX5_coverage_X4_countOf rfl rfl rfl hs_X4_countOf ⟨Nat.le_of_ble_eq_true rfl, Nat.le_of_ble_eq_true rfl⟩) (preV_ (ci := 6) (q0 := 0) hPc hK hDc rfl rfl rfl rfl) rfl rfl hl.1 rfl (lv_room (Nat.le_of_ble_eq_true rfl)) dX5_coverage_12 ⟨Nat.le_of_ble_eq_true rfl, Nat.le_of_ble_eq_true rfl⟩) hS (fun q _ h => hFc q h) hFc (fun z14 u t H13 locs ht hvm hw hB hz1 hk1 hS => ?_)
      have hw : r10 = z14 := hw.symm
      subst hw
      obtain ⟨hP, hD⟩ := aft_ (Wr := wD_ d0 s0 z0 b0 q0 t0 dhasSaved dkeptError dmoved ++ wS_ s0 v0 f0 r0 ++ wF_ f0 f_keys f_days f_amounts f_versions cI fkeys fdays famounts fversions fcount ++ wR_ r0 r_keys r_days r_values cI rkeys rdays rvalues rcount) (Wc' := wV_ v0 v_keys v_firsts v_ends v_values v_inferred v_gone cI cZ vkeys vfirsts vends vvalues vinferred vgone vmade) (W2 := wD_ d0 s0 z0 b0 q0 t0 dhasSaved dkeptError dmoved ++ wS_ s0 v0 f0 r0 ++ wV_ v0 v_keys v_firsts v_ends v_values v_inferred v_gone cI cZ vkeys vfirsts vends vvalues vinferred vgone vmade ++ wF_ f0 f_keys f_days f_amounts f_versions cI fkeys fdays famounts fversions fcount ++ wR_ r0 r_keys r_days r_values cI rkeys rdays rvalues rcount) hP hD [2, 3, 4, 5, 6, 7, 8] [0, 1, 9, 10, 11, 12, 13, 14, 15, 16, 17] [0, 1, 11, 12, 13, 14, 15, 16, 17, 2, 3, 4, 5, 6, 7, 8, 9, 10] rfl rfl (by decide) (by decide) (by decide) hk1 hFc hB ht rfl
      refine lv_if_ne (tgt := 26) hx hb dX5_coverage_15 (by decide) (fun c15 => ?_) (fun c15 => ?_)
      · have hf := ite_F c15 hf
        refine lv_aload_n hx hb dX5_coverage_26 rfl (lv_at hl 0 rfl) ?_
        refine va_get (D := (dC, dI)) (ci := 7) (v := .ref s0) (C := RX5) (T := TX5) (N := 8) hx hb hts inX5_ hown hK hP 0 rfl rfl 0 (by decide) fl10_ (fun _ h9 => h9) rfl dX5_coverage_27 ?_
        refine va_get (D := (dC, dI)) (ci := 4) (v := .ref v0) (C := RX2) (T := TX2) (N := 3) hx hb hts inX2_ hown hK hP 1 rfl rfl 0 (by decide) fl51_ (fun _ h9 => h9) rfl dX5_coverage_30 ?_
        refine lv_iload_n hx hb dX5_coverage_33 rfl (lv_at hl 1 rfl) ?_
        obtain ⟨R17, g18, hf⟩ := bd_B hf
        obtain ⟨r16, rfl⟩ : ∃ z, z = R17 := ⟨_, rfl⟩
        have hPc := hP.sub (ws' := wV_ v0 v_keys v_firsts v_ends v_values v_inferred v_gone cI cZ vkeys vfirsts vends vvalues vinferred vgone vmade) [2, 3, 4, 5, 6, 7, 8] rfl
        have hDc := hD.sub (ws' := wV_ v0 v_keys v_firsts v_ends v_values v_inferred v_gone cI cZ vkeys vfirsts vends vvalues vinferred vgone vmade) [2, 3, 4, 5, 6, 7, 8] (by decide) rfl
        have hFc := va_free (wc := wV_ v0 v_keys v_firsts v_ends v_values v_inferred v_gone cI cZ vkeys vfirsts vends vvalues vinferred vgone vmade) hD hS hA [2, 3, 4, 5, 6, 7, 8] rfl
        refine va_calli (va_runV (As := [.int a1]) (rest := []) ⟨hx, hb, hml, hown, hts⟩ (c_X4_sumDays l dC dI cI cZ cC cJ cD v0 v_keys v_firsts v_ends v_values v_inferred v_gone H13.size vkeys vfirsts vends vvalues vinferred vgone vmade a1 r16 g18) (cwV 1 hts gX5_coverage_X4_sumDays rfl rfl rfl hs_X4_sumDays ⟨Nat.le_of_ble_eq_true rfl, Nat.le_of_ble_eq_true rfl⟩) (preV_ (ci := 6) (q0 := 0) hPc hK hDc rfl rfl rfl rfl) rfl rfl hl.1 rfl (lv_room (Nat.le_of_ble_eq_true rfl)) dX5_coverage_34 ⟨Nat.le_of_ble_eq_true rfl, Nat.le_of_ble_eq_true rfl⟩) hS (fun q _ h => hFc q h) hFc (fun z20 u t H19 locs ht hvm hw hB hz1 hk1 hS => ?_)
        have hw : r16 = z20 := hw.symm
        subst hw
        obtain ⟨hP, hD⟩ := aft_ (Wr := wD_ d0 s0 z0 b0 q0 t0 dhasSaved dkeptError dmoved ++ wS_ s0 v0 f0 r0 ++ wF_ f0 f_keys f_days f_amounts f_versions cI fkeys fdays famounts fversions fcount ++ wR_ r0 r_keys r_days r_values cI rkeys rdays rvalues rcount) (Wc' := wV_ v0 v_keys v_firsts v_ends v_values v_inferred v_gone cI cZ vkeys vfirsts vends vvalues vinferred vgone vmade) (W2 := wD_ d0 s0 z0 b0 q0 t0 dhasSaved dkeptError dmoved ++ wS_ s0 v0 f0 r0 ++ wV_ v0 v_keys v_firsts v_ends v_values v_inferred v_gone cI cZ vkeys vfirsts vends vvalues vinferred vgone vmade ++ wF_ f0 f_keys f_days f_amounts f_versions cI fkeys fdays famounts fversions fcount ++ wR_ r0 r_keys r_days r_values cI rkeys rdays rvalues rcount) hP hD [2, 3, 4, 5, 6, 7, 8] [0, 1, 9, 10, 11, 12, 13, 14, 15, 16, 17] [0, 1, 11, 12, 13, 14, 15, 16, 17, 2, 3, 4, 5, 6, 7, 8, 9, 10] rfl rfl (by decide) (by decide) (by decide) hk1 hFc hB ht rfl
        refine lv_i2d hx hb dX5_coverage_37 ?_
        refine lv_sipush (v := 1000) hx hb dX5_coverage_38 (by decide) ?_
        refine lv_aload_n hx hb dX5_coverage_41 rfl (lv_at hl 0 rfl) ?_
        refine va_get (D := (dC, dI)) (ci := 7) (v := .ref s0) (C := RX5) (T := TX5) (N := 8) hx hb hts inX5_ hown hK hP 0 rfl rfl 0 (by decide) fl10_ (fun _ h9 => h9) rfl dX5_coverage_42 ?_
        refine va_get (D := (dC, dI)) (ci := 4) (v := .ref v0) (C := RX2) (T := TX2) (N := 3) hx hb hts inX2_ hown hK hP 1 rfl rfl 0 (by decide) fl51_ (fun _ h9 => h9) rfl dX5_coverage_45 ?_
        refine lv_iload_n hx hb dX5_coverage_48 rfl (lv_at hl 1 rfl) ?_
        refine lv_iconst (v := (-1)) hx hb dX5_coverage_49 (by decide) ?_
        obtain ⟨R22, g23, hf⟩ := bd_B hf
        obtain ⟨r21, rfl⟩ : ∃ z, z = R22 := ⟨_, rfl⟩
        have hPc := hP.sub (ws' := wV_ v0 v_keys v_firsts v_ends v_values v_inferred v_gone cI cZ vkeys vfirsts vends vvalues vinferred vgone vmade) [2, 3, 4, 5, 6, 7, 8] rfl
        have hDc := hD.sub (ws' := wV_ v0 v_keys v_firsts v_ends v_values v_inferred v_gone cI cZ vkeys vfirsts vends vvalues vinferred vgone vmade) [2, 3, 4, 5, 6, 7, 8] (by decide) rfl
        have hFc := va_free (wc := wV_ v0 v_keys v_firsts v_ends v_values v_inferred v_gone cI cZ vkeys vfirsts vends vvalues vinferred vgone vmade) hD hS hA [2, 3, 4, 5, 6, 7, 8] rfl
        refine va_calli (va_runV (As := [.int a1, .int (-1)]) (rest := [.int 1000, .double (FP.i2d r16)]) ⟨hx, hb, hml, hown, hts⟩ (c_X4_nextFirst l dC dI cI cZ cC cJ cD v0 v_keys v_firsts v_ends v_values v_inferred v_gone H19.size vkeys vfirsts vends vvalues vinferred vgone vmade a1 (-1 : Int32) r21 g23) (cwV 2 hts gX5_coverage_X4_nextFirst rfl rfl rfl hs_X4_nextFirst ⟨Nat.le_of_ble_eq_true rfl, Nat.le_of_ble_eq_true rfl⟩) (preV_ (ci := 6) (q0 := 0) hPc hK hDc rfl rfl rfl rfl) rfl rfl hl.1 rfl (lv_room (Nat.le_of_ble_eq_true rfl)) dX5_coverage_50 ⟨Nat.le_of_ble_eq_true rfl, Nat.le_of_ble_eq_true rfl⟩) hS (fun q _ h => hFc q h) hFc (fun z25 u t H24 locs ht hvm hw hB hz1 hk1 hS => ?_)
        have hw : r21 = z25 := hw.symm
        subst hw
        obtain ⟨hP, hD⟩ := aft_ (Wr := wD_ d0 s0 z0 b0 q0 t0 dhasSaved dkeptError dmoved ++ wS_ s0 v0 f0 r0 ++ wF_ f0 f_keys f_days f_amounts f_versions cI fkeys fdays famounts fversions fcount ++ wR_ r0 r_keys r_days r_values cI rkeys rdays rvalues rcount) (Wc' := wV_ v0 v_keys v_firsts v_ends v_values v_inferred v_gone cI cZ vkeys vfirsts vends vvalues vinferred vgone vmade) (W2 := wD_ d0 s0 z0 b0 q0 t0 dhasSaved dkeptError dmoved ++ wS_ s0 v0 f0 r0 ++ wV_ v0 v_keys v_firsts v_ends v_values v_inferred v_gone cI cZ vkeys vfirsts vends vvalues vinferred vgone vmade ++ wF_ f0 f_keys f_days f_amounts f_versions cI fkeys fdays famounts fversions fcount ++ wR_ r0 r_keys r_days r_values cI rkeys rdays rvalues rcount) hP hD [2, 3, 4, 5, 6, 7, 8] [0, 1, 9, 10, 11, 12, 13, 14, 15, 16, 17] [0, 1, 11, 12, 13, 14, 15, 16, 17, 2, 3, 4, 5, 6, 7, 8, 9, 10] rfl rfl (by decide) (by decide) (by decide) hk1 hFc hB ht rfl
        refine lv_isub hx hb dX5_coverage_53 ?_
        refine lv_i2d hx hb dX5_coverage_54 ?_
        obtain ⟨h26, hf⟩ := gN_T hf
        refine lv_ddiv hx hb dX5_coverage_55 h26 ?_
        have hR := Option.some.inj hf
        subst hR
        refine vx_ret (W.widen (k := 2) (n := 12) (Nat.le_of_ble_eq_true rfl) (Nat.le_of_ble_eq_true rfl) ?_)
        exact W.dret (v := FP.ddiv (FP.i2d r16) (FP.i2d (1000 - r21))) hx hb hr (fun t ht hW => ⟨⟨FP.ddiv (FP.i2d r16) (FP.i2d (1000 - r21)), (), rfl, rfl, by rw [ht]; exact hP, va_K.moved hW.alike hK, hD⟩, hS.F ht⟩) hS.2.2 dX5_coverage_56
      · have hf := ite_T c15 hf
        have hR := Option.some.inj hf
        subst hR
        exact vx_throw0 (names := ["java/lang/RuntimeException", "java/lang/Exception"]) hx hb hst hown (by decide +kernel) (by decide +kernel) (hts _ (List.mem_of_getElem? (i := 1) rfl)) (hts _ (List.mem_of_getElem? (i := 2) rfl)) (vx_hat (fun w h => hts w (at_X5_coverage_204 w h)) (atn_0 "java/lang/ArithmeticException" (by decide +kernel) 204 (by decide)) (hC.words (by decide +kernel))) at_X5_coverage_204g hU hN hS (hl.1.trans hml.symm) dX5_coverage_18 dX5_coverage_21 dX5_coverage_22 dX5_coverage_25 (fun x h => (htab x h).elim) (Nat.le_of_ble_eq_true rfl) (Nat.le_of_ble_eq_true rfl) (Nat.le_of_ble_eq_true rfl) (Nat.le_of_ble_eq_true rfl) hlocks (thr_ hS hP hK hD rfl) hS.2.2 (Nat.le_of_ble_eq_true rfl) (Nat.le_of_ble_eq_true rfl)
theorem hs_X5_coverage : yX5_coverage.cls = RX5 ∧ yX5_coverage.cls ≠ "java/lang/invoke/MethodHandle" ∧ yX5_coverage.cls ≠ "java/lang/invoke/VarHandle" ∧ (parseMethodDescriptor yX5_coverage.desc).map (fun d => d.parameters.length) = some 1 := by decide +kernel
