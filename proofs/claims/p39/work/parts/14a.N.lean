abbrev rmn_X5_checkKey : Room := { frames := 0, cells := 0, slots := 0, locals := 0 }
set_option maxHeartbeats 4000000 in
set_option maxRecDepth 100000 in
theorem cn_X5_checkKey (l : Launch) (dC : Nat → ClassId) (dI : Nat → Nat → Nat) (cI cZ cC cJ cD : ClassId) (sz : Nat)  (a1 : Int32) (R : Except String Unit) (hf : f_X5_checkKey a1  = some R) (hok : R = Except.ok ()) : Met l yX5_checkKey wsX5_checkKey rmn_X5_checkKey (Pc_ (dC, dI) (ty_ cI cZ cC cJ cD) ([]) sz [.int a1]) (Qv_ (dC, dI) (ty_ cI cZ cC cJ cD) ([]) (va_A ([]) sz)) 0 0 (va_A ([]) sz) := by
  refine met_ (cc := cX5_checkKey) (maxL := 1) (ret := none) (Qcf := fun A => Qv_ (dC, dI) (ty_ cI cZ cC cJ cD) ([]) A) (by decide) rfl (Nat.le_of_ble_eq_true rfl) ?_
  intro p e s m args below meth c A ls hx hb hr hts hown hlocks hml hA hP hK hD hl
  have hown : s.vm.findClass RX5 = some m.cls := hown
  have hl : lv_has ls 1 [(0, .int a1)] := hl
  have hS : va_S A s.heap s.heap [] := va_S.rf
  unfold f_X5_checkKey at hf
  refine lv_iload_n hx hb dX5_checkKey_0 rfl (lv_at hl 0 rfl) ?_
  refine lv_if_lt (tgt := 10) hx hb dX5_checkKey_1 (by decide) (fun c1 => ?_) (fun c1 => ?_)
  · have hf := ite_T c1 hf
    have hR := Option.some.inj hf
    subst hR
    exact absurd hok (fun h => nomatch h)
  · have hf := ite_F c1 hf
    refine lv_iload_n hx hb dX5_checkKey_4 rfl (lv_at hl 0 rfl) ?_
    refine lv_bipush (v := 8) hx hb dX5_checkKey_5 (by decide) ?_
    refine lv_icmp_lt (tgt := 18) hx hb dX5_checkKey_7 (by decide) (fun c2 => ?_) (fun c2 => ?_)
    · have hf := ite_T c2 hf
      have hR := Option.some.inj hf
      subst hR
      exact W.vret hx hb hr (fun t ht hW => ⟨⟨(), rfl, trivial, by rw [ht]; exact hP, va_K.moved hW.alike hK, hD⟩, hS.F ht⟩) hS.2.2 dX5_checkKey_18
    · have hf := ite_F c2 hf
      have hR := Option.some.inj hf
      subst hR
      exact absurd hok (fun h => nomatch h)
abbrev rmn_X5_checkDay : Room := { frames := 0, cells := 0, slots := 0, locals := 0 }
set_option maxHeartbeats 4000000 in
set_option maxRecDepth 100000 in
theorem cn_X5_checkDay (l : Launch) (dC : Nat → ClassId) (dI : Nat → Nat → Nat) (cI cZ cC cJ cD : ClassId) (sz : Nat)  (a1 : Int32) (R : Except String Unit) (hf : f_X5_checkDay a1  = some R) (hok : R = Except.ok ()) : Met l yX5_checkDay wsX5_checkDay rmn_X5_checkDay (Pc_ (dC, dI) (ty_ cI cZ cC cJ cD) ([]) sz [.int a1]) (Qv_ (dC, dI) (ty_ cI cZ cC cJ cD) ([]) (va_A ([]) sz)) 0 0 (va_A ([]) sz) := by
  refine met_ (cc := cX5_checkDay) (maxL := 1) (ret := none) (Qcf := fun A => Qv_ (dC, dI) (ty_ cI cZ cC cJ cD) ([]) A) (by decide) rfl (Nat.le_of_ble_eq_true rfl) ?_
  intro p e s m args below meth c A ls hx hb hr hts hown hlocks hml hA hP hK hD hl
  have hown : s.vm.findClass RX5 = some m.cls := hown
  have hl : lv_has ls 1 [(0, .int a1)] := hl
  have hS : va_S A s.heap s.heap [] := va_S.rf
  unfold f_X5_checkDay at hf
  refine lv_iload_n hx hb dX5_checkDay_0 rfl (lv_at hl 0 rfl) ?_
  refine lv_if_lt (tgt := 11) hx hb dX5_checkDay_1 (by decide) (fun c1 => ?_) (fun c1 => ?_)
  · have hf := ite_T c1 hf
    have hR := Option.some.inj hf
    subst hR
    exact absurd hok (fun h => nomatch h)
  · have hf := ite_F c1 hf
    refine lv_iload_n hx hb dX5_checkDay_4 rfl (lv_at hl 0 rfl) ?_
    refine lv_sipush (v := 1000) hx hb dX5_checkDay_5 (by decide) ?_
    refine lv_icmp_lt (tgt := 19) hx hb dX5_checkDay_8 (by decide) (fun c2 => ?_) (fun c2 => ?_)
    · have hf := ite_T c2 hf
      have hR := Option.some.inj hf
      subst hR
      exact W.vret hx hb hr (fun t ht hW => ⟨⟨(), rfl, trivial, by rw [ht]; exact hP, va_K.moved hW.alike hK, hD⟩, hS.F ht⟩) hS.2.2 dX5_checkDay_19
    · have hf := ite_F c2 hf
      have hR := Option.some.inj hf
      subst hR
      exact absurd hok (fun h => nomatch h)
abbrev rmn_X5_checkVersion : Room := { frames := 1, cells := 0, slots := 0, locals := 21 }
set_option maxHeartbeats 4000000 in
set_option maxRecDepth 100000 in
theorem cn_X5_checkVersion (l : Launch) (dC : Nat → ClassId) (dI : Nat → Nat → Nat) (cI cZ cC cJ cD : ClassId) (d0 s0 z0 b0 q0 t0 v0 f0 r0 v_keys v_firsts v_ends v_values v_inferred v_gone f_keys f_days f_amounts f_versions r_keys r_days r_values : Nat) (sz : Nat) (dhasSaved : Int32) (dkeptError : Int32) (dmoved : Int32) (vkeys : Nat → Int32) (vfirsts : Nat → Int32) (vends : Nat → Int32) (vvalues : Nat → Int32) (vinferred : Nat → Int32) (vgone : Nat → Int32) (vmade : Int32) (fkeys : Nat → Int32) (fdays : Nat → Int32) (famounts : Nat → Int32) (fversions : Nat → Int32) (fcount : Int32) (rkeys : Nat → Int32) (rdays : Nat → Int32) (rvalues : Nat → Int32) (rcount : Int32) (a1 : Int32) (R : Except String Unit) (hf : f_X5_checkVersion a1 (dhasSaved, dkeptError, dmoved) () (vkeys, vfirsts, vends, vvalues, vinferred, vgone, vmade) (fkeys, fdays, famounts, fversions, fcount) (rkeys, rdays, rvalues, rcount) = some R) (hok : R = Except.ok ()) : Met l yX5_checkVersion wsX5_checkVersion rmn_X5_checkVersion (Pc_ (dC, dI) (ty_ cI cZ cC cJ cD) (wD_ d0 s0 z0 b0 q0 t0 dhasSaved dkeptError dmoved ++ wS_ s0 v0 f0 r0 ++ wV_ v0 v_keys v_firsts v_ends v_values v_inferred v_gone cI cZ vkeys vfirsts vends vvalues vinferred vgone vmade ++ wF_ f0 f_keys f_days f_amounts f_versions cI fkeys fdays famounts fversions fcount ++ wR_ r0 r_keys r_days r_values cI rkeys rdays rvalues rcount) sz [.ref d0, .int a1]) (Qv_ (dC, dI) (ty_ cI cZ cC cJ cD) (wD_ d0 s0 z0 b0 q0 t0 dhasSaved dkeptError dmoved ++ wS_ s0 v0 f0 r0 ++ wV_ v0 v_keys v_firsts v_ends v_values v_inferred v_gone cI cZ vkeys vfirsts vends vvalues vinferred vgone vmade ++ wF_ f0 f_keys f_days f_amounts f_versions cI fkeys fdays famounts fversions fcount ++ wR_ r0 r_keys r_days r_values cI rkeys rdays rvalues rcount) (va_A (wD_ d0 s0 z0 b0 q0 t0 dhasSaved dkeptError dmoved ++ wS_ s0 v0 f0 r0 ++ wV_ v0 v_keys v_firsts v_ends v_values v_inferred v_gone cI cZ vkeys vfirsts vends vvalues vinferred vgone vmade ++ wF_ f0 f_keys f_days f_amounts f_versions cI fkeys fdays famounts fversions fcount ++ wR_ r0 r_keys r_days r_values cI rkeys rdays rvalues rcount) sz)) 0 0 (va_A (wD_ d0 s0 z0 b0 q0 t0 dhasSaved dkeptError dmoved ++ wS_ s0 v0 f0 r0 ++ wV_ v0 v_keys v_firsts v_ends v_values v_inferred v_gone cI cZ vkeys vfirsts vends vvalues vinferred vgone vmade ++ wF_ f0 f_keys f_days f_amounts f_versions cI fkeys fdays famounts fversions fcount ++ wR_ r0 r_keys r_days r_values cI rkeys rdays rvalues rcount) sz) := by
  refine met_ (cc := cX5_checkVersion) (maxL := 2) (ret := none) (Qcf := fun A => Qv_ (dC, dI) (ty_ cI cZ cC cJ cD) (wD_ d0 s0 z0 b0 q0 t0 dhasSaved dkeptError dmoved ++ wS_ s0 v0 f0 r0 ++ wV_ v0 v_keys v_firsts v_ends v_values v_inferred v_gone cI cZ vkeys vfirsts vends vvalues vinferred vgone vmade ++ wF_ f0 f_keys f_days f_amounts f_versions cI fkeys fdays famounts fversions fcount ++ wR_ r0 r_keys r_days r_values cI rkeys rdays rvalues rcount) A) (by decide) rfl (Nat.le_of_ble_eq_true rfl) ?_
  intro p e s m args below meth c A ls hx hb hr hts hown hlocks hml hA hP hK hD hl
  have hown : s.vm.findClass RX5 = some m.cls := hown
  have hl : lv_has ls 2 [(0, .ref d0), (1, .int a1)] := hl
  have hS : va_S A s.heap s.heap [] := va_S.rf
  have fl10_ : (Cond.fieldLink RX5 10 "DimensionLoader" "live" "LDimensionLoader$Store;").before args s = true := hts _ (List.mem_of_getElem? (i := 3) rfl)
  have fl51_ : (Cond.fieldLink RX5 51 "DimensionLoader$Store" "versions" "LDimensionLoader$Versions;").before args s = true := hts _ (List.mem_of_getElem? (i := 4) rfl)
  have inX2_ : ∀ w ∈ wsX20, w ∈ wsX5_checkVersion := in_X5_checkVersion_X2
  have inX5_ : ∀ w ∈ wsX50, w ∈ wsX5_checkVersion := in_X5_checkVersion_X5
  unfold f_X5_checkVersion at hf
  dsimp only at hf
  refine lv_aload_n hx hb dX5_checkVersion_0 rfl (lv_at hl 0 rfl) ?_
  refine va_get (D := (dC, dI)) (ci := 7) (v := .ref s0) (C := RX5) (T := TX5) (N := 8) hx hb hts inX5_ hown hK hP 0 rfl rfl 0 (by decide) fl10_ (fun _ h9 => h9) rfl dX5_checkVersion_1 ?_
  refine va_get (D := (dC, dI)) (ci := 4) (v := .ref v0) (C := RX2) (T := TX2) (N := 3) hx hb hts inX2_ hown hK hP 1 rfl rfl 0 (by decide) fl51_ (fun _ h9 => h9) rfl dX5_checkVersion_4 ?_
  refine lv_iload_n hx hb dX5_checkVersion_7 rfl (lv_at hl 1 rfl) ?_
  obtain ⟨R2, g3, hf⟩ := bd_B hf
  obtain ⟨r1, rfl⟩ : ∃ z, z = R2 := ⟨_, rfl⟩
  have hPc := hP.sub (ws' := wV_ v0 v_keys v_firsts v_ends v_values v_inferred v_gone cI cZ vkeys vfirsts vends vvalues vinferred vgone vmade) [2, 3, 4, 5, 6, 7, 8] rfl
  have hDc := hD.sub (ws' := wV_ v0 v_keys v_firsts v_ends v_values v_inferred v_gone cI cZ vkeys vfirsts vends vvalues vinferred vgone vmade) [2, 3, 4, 5, 6, 7, 8] (by decide) rfl
  have hFc := va_free (wc := wV_ v0 v_keys v_firsts v_ends v_values v_inferred v_gone cI cZ vkeys vfirsts vends vvalues vinferred vgone vmade) hD hS hA [2, 3, 4, 5, 6, 7, 8] rfl
  refine va_calli (va_runV (As := [.int a1]) (rest := []) ⟨hx, hb, hml, hown, hts⟩ (c_X4_has l dC dI cI cZ cC cJ cD v0 v_keys v_firsts v_ends v_values v_inferred v_gone s.heap.size vkeys vfirsts vends vvalues vinferred vgone vmade a1 r1 g3) (cwV 1 hts gX5_checkVersion_X4_has rfl rfl rfl hs_X4_has ⟨Nat.le_of_ble_eq_true rfl, Nat.le_of_ble_eq_true rfl⟩) (preV_ (ci := 6) (q0 := 0) hPc hK hDc rfl rfl rfl rfl) rfl rfl hl.1 rfl (lv_room (Nat.le_of_ble_eq_true rfl)) dX5_checkVersion_8 ⟨Nat.le_of_ble_eq_true rfl, Nat.le_of_ble_eq_true rfl⟩) hS (fun q _ h => hFc q h) hFc (fun z5 u t H4 locs ht hvm hw hB hz1 hk1 hS => ?_)
  have hw : r1 = z5 := hw.symm
  subst hw
  obtain ⟨hP, hD⟩ := aft_ (Wr := wD_ d0 s0 z0 b0 q0 t0 dhasSaved dkeptError dmoved ++ wS_ s0 v0 f0 r0 ++ wF_ f0 f_keys f_days f_amounts f_versions cI fkeys fdays famounts fversions fcount ++ wR_ r0 r_keys r_days r_values cI rkeys rdays rvalues rcount) (Wc' := wV_ v0 v_keys v_firsts v_ends v_values v_inferred v_gone cI cZ vkeys vfirsts vends vvalues vinferred vgone vmade) (W2 := wD_ d0 s0 z0 b0 q0 t0 dhasSaved dkeptError dmoved ++ wS_ s0 v0 f0 r0 ++ wV_ v0 v_keys v_firsts v_ends v_values v_inferred v_gone cI cZ vkeys vfirsts vends vvalues vinferred vgone vmade ++ wF_ f0 f_keys f_days f_amounts f_versions cI fkeys fdays famounts fversions fcount ++ wR_ r0 r_keys r_days r_values cI rkeys rdays rvalues rcount) hP hD [2, 3, 4, 5, 6, 7, 8] [0, 1, 9, 10, 11, 12, 13, 14, 15, 16, 17] [0, 1, 11, 12, 13, 14, 15, 16, 17, 2, 3, 4, 5, 6, 7, 8, 9, 10] rfl rfl (by decide) (by decide) (by decide) hk1 hFc hB ht rfl
  refine lv_if_ne (tgt := 22) hx hb dX5_checkVersion_11 (by decide) (fun c6 => ?_) (fun c6 => ?_)
  · have hf := ite_F c6 hf
    have hR := Option.some.inj hf
    subst hR
    exact W.vret hx hb hr (fun t ht hW => ⟨⟨(), rfl, trivial, by rw [ht]; exact hP, va_K.moved hW.alike hK, hD⟩, hS.F ht⟩) hS.2.2 dX5_checkVersion_22
  · have hf := ite_T c6 hf
    have hR := Option.some.inj hf
    subst hR
    exact absurd hok (fun h => nomatch h)
abbrev rmn_X5_found : Room := { frames := 0, cells := 0, slots := 0, locals := 0 }
set_option maxHeartbeats 4000000 in
set_option maxRecDepth 100000 in
theorem cn_X5_found (l : Launch) (dC : Nat → ClassId) (dI : Nat → Nat → Nat) (cI cZ cC cJ cD : ClassId) (sz : Nat)  (a1 : Int32) (R : Except String Int32) (hf : f_X5_found a1  = some R) (r : Int32) (hok : R = Except.ok r) : Met l yX5_found wsX5_found rmn_X5_found (Pc_ (dC, dI) (ty_ cI cZ cC cJ cD) ([]) sz [.int a1]) (Qi_ (dC, dI) (ty_ cI cZ cC cJ cD) r ([]) (va_A ([]) sz)) 0 0 (va_A ([]) sz) := by
  refine met_ (cc := cX5_found) (maxL := 1) (ret := (some .int)) (Qcf := fun A => Qi_ (dC, dI) (ty_ cI cZ cC cJ cD) r ([]) A) (by decide) rfl (Nat.le_of_ble_eq_true rfl) ?_
  intro p e s m args below meth c A ls hx hb hr hts hown hlocks hml hA hP hK hD hl
  have hown : s.vm.findClass RX5 = some m.cls := hown
  have hl : lv_has ls 1 [(0, .int a1)] := hl
  have hS : va_S A s.heap s.heap [] := va_S.rf
  unfold f_X5_found at hf
  refine lv_iload_n hx hb dX5_found_0 rfl (lv_at hl 0 rfl) ?_
  refine lv_iconst (v := (-1)) hx hb dX5_found_1 (by decide) ?_
  refine lv_icmp_ne (tgt := 13) hx hb dX5_found_2 (by decide) (fun c1 => ?_) (fun c1 => ?_)
  · have hf := ite_F c1 hf
    refine lv_iload_n hx hb dX5_found_13 rfl (lv_at hl 0 rfl) ?_
    have hR := Option.some.inj hf
    subst hR
    have hv := Except.ok.inj hok
    subst hv
    exact W.iret (v := a1) hx hb hr (fun t ht hW => ⟨⟨a1, (), rfl, rfl, by rw [ht]; exact hP, va_K.moved hW.alike hK, hD⟩, hS.F ht⟩) hS.2.2 dX5_found_14
  · have hf := ite_T c1 hf
    have hR := Option.some.inj hf
    subst hR
    exact absurd hok (fun h => nomatch h)
abbrev rmn_X5_change : Room := { frames := 7, cells := 0, slots := 0, locals := 115 }
set_option maxHeartbeats 4000000 in
set_option maxRecDepth 100000 in
theorem cn_X5_change (l : Launch) (dC : Nat → ClassId) (dI : Nat → Nat → Nat) (cI cZ cC cJ cD : ClassId) (d0 s0 z0 b0 q0 t0 v0 f0 r0 v_keys v_firsts v_ends v_values v_inferred v_gone f_keys f_days f_amounts f_versions r_keys r_days r_values : Nat) (sz : Nat) (dhasSaved : Int32) (dkeptError : Int32) (dmoved : Int32) (vkeys : Nat → Int32) (vfirsts : Nat → Int32) (vends : Nat → Int32) (vvalues : Nat → Int32) (vinferred : Nat → Int32) (vgone : Nat → Int32) (vmade : Int32) (fkeys : Nat → Int32) (fdays : Nat → Int32) (famounts : Nat → Int32) (fversions : Nat → Int32) (fcount : Int32) (rkeys : Nat → Int32) (rdays : Nat → Int32) (rvalues : Nat → Int32) (rcount : Int32) (a1 : Int32) (a2 : Int32) (a3 : Int32) (R : Except String Int32 × tD_ × tV_ × tF_) (hf : f_X5_change a1 a2 a3 (dhasSaved, dkeptError, dmoved) () (vkeys, vfirsts, vends, vvalues, vinferred, vgone, vmade) (fkeys, fdays, famounts, fversions, fcount) (rkeys, rdays, rvalues, rcount) = some R) (r : Int32) (hok : R.1 = Except.ok r) : Met l yX5_change wsX5_change rmn_X5_change (Pc_ (dC, dI) (ty_ cI cZ cC cJ cD) (wD_ d0 s0 z0 b0 q0 t0 dhasSaved dkeptError dmoved ++ wS_ s0 v0 f0 r0 ++ wV_ v0 v_keys v_firsts v_ends v_values v_inferred v_gone cI cZ vkeys vfirsts vends vvalues vinferred vgone vmade ++ wF_ f0 f_keys f_days f_amounts f_versions cI fkeys fdays famounts fversions fcount ++ wR_ r0 r_keys r_days r_values cI rkeys rdays rvalues rcount) sz [.ref d0, .int a1, .int a2, .int a3]) (Qi_ (dC, dI) (ty_ cI cZ cC cJ cD) r (wD_ d0 s0 z0 b0 q0 t0 R.2.1.1 R.2.1.2.1 R.2.1.2.2 ++ wS_ s0 v0 f0 r0 ++ wV_ v0 v_keys v_firsts v_ends v_values v_inferred v_gone cI cZ R.2.2.1.1 R.2.2.1.2.1 R.2.2.1.2.2.1 R.2.2.1.2.2.2.1 R.2.2.1.2.2.2.2.1 R.2.2.1.2.2.2.2.2.1 R.2.2.1.2.2.2.2.2.2 ++ wF_ f0 f_keys f_days f_amounts f_versions cI R.2.2.2.1 R.2.2.2.2.1 R.2.2.2.2.2.1 R.2.2.2.2.2.2.1 R.2.2.2.2.2.2.2 ++ wR_ r0 r_keys r_days r_values cI rkeys rdays rvalues rcount) (va_A (wD_ d0 s0 z0 b0 q0 t0 dhasSaved dkeptError dmoved ++ wS_ s0 v0 f0 r0 ++ wV_ v0 v_keys v_firsts v_ends v_values v_inferred v_gone cI cZ vkeys vfirsts vends vvalues vinferred vgone vmade ++ wF_ f0 f_keys f_days f_amounts f_versions cI fkeys fdays famounts fversions fcount ++ wR_ r0 r_keys r_days r_values cI rkeys rdays rvalues rcount) sz)) 0 0 (va_A (wD_ d0 s0 z0 b0 q0 t0 dhasSaved dkeptError dmoved ++ wS_ s0 v0 f0 r0 ++ wV_ v0 v_keys v_firsts v_ends v_values v_inferred v_gone cI cZ vkeys vfirsts vends vvalues vinferred vgone vmade ++ wF_ f0 f_keys f_days f_amounts f_versions cI fkeys fdays famounts fversions fcount ++ wR_ r0 r_keys r_days r_values cI rkeys rdays rvalues rcount) sz) := by
  refine met_ (cc := cX5_change) (maxL := 5) (ret := (some .int)) (Qcf := fun A => Qi_ (dC, dI) (ty_ cI cZ cC cJ cD) r (wD_ d0 s0 z0 b0 q0 t0 R.2.1.1 R.2.1.2.1 R.2.1.2.2 ++ wS_ s0 v0 f0 r0 ++ wV_ v0 v_keys v_firsts v_ends v_values v_inferred v_gone cI cZ R.2.2.1.1 R.2.2.1.2.1 R.2.2.1.2.2.1 R.2.2.1.2.2.2.1 R.2.2.1.2.2.2.2.1 R.2.2.1.2.2.2.2.2.1 R.2.2.1.2.2.2.2.2.2 ++ wF_ f0 f_keys f_days f_amounts f_versions cI R.2.2.2.1 R.2.2.2.2.1 R.2.2.2.2.2.1 R.2.2.2.2.2.2.1 R.2.2.2.2.2.2.2 ++ wR_ r0 r_keys r_days r_values cI rkeys rdays rvalues rcount) A) (by decide) rfl (Nat.le_of_ble_eq_true rfl) ?_
  intro p e s m args below meth c A ls hx hb hr hts hown hlocks hml hA hP hK hD hl
  have hown : s.vm.findClass RX5 = some m.cls := hown
  have hl : lv_has ls 5 [(0, .ref d0), (1, .int a1), (2, .int a2), (3, .int a3)] := hl
  have hS : va_S A s.heap s.heap [] := va_S.rf
  have fl10_ : (Cond.fieldLink RX5 10 "DimensionLoader" "live" "LDimensionLoader$Store;").before args s = true := hts _ (List.mem_of_getElem? (i := 3) rfl)
  have fl51_ : (Cond.fieldLink RX5 51 "DimensionLoader$Store" "versions" "LDimensionLoader$Versions;").before args s = true := hts _ (List.mem_of_getElem? (i := 4) rfl)
  have inX2_ : ∀ w ∈ wsX20, w ∈ wsX5_change := in_X5_change_X2
  have inX5_ : ∀ w ∈ wsX50, w ∈ wsX5_change := in_X5_change_X5
  unfold f_X5_change at hf
  dsimp only at hf
  refine lv_iload_n hx hb dX5_change_0 rfl (lv_at hl 1 rfl) ?_
  obtain ⟨R3, g4, hf⟩ := bd_B hf
  obtain ⟨x1, rfl⟩ : ∃ z, z = R3 := ⟨_, rfl⟩
  have hPc := hP.sub (ws' := []) [] rfl
  have hDc := hD.sub (ws' := []) [] (by decide) rfl
  have hFc := va_free (wc := []) hD hS hA [] rfl
  cases x1 with
  | error E9 =>
    have hR := Option.some.inj hf
    subst hR
    exact absurd hok (fun h => nomatch h)
  | ok _ =>
    refine va_callv (va_runS (As := [.int a1]) (rest := []) ⟨hx, hb, hml, hown, hts⟩ (cn_X5_checkKey l dC dI cI cZ cC cJ cD s.heap.size a1 (Except.ok ()) g4 rfl) (cwS 1 hts gX5_change_X5_checkKey rfl rfl rfl hs_X5_checkKey ⟨Nat.le_of_ble_eq_true rfl, Nat.le_of_ble_eq_true rfl⟩) (preS_ hPc hK hDc rfl) rfl rfl hl.1 rfl (lv_room (Nat.le_of_ble_eq_true rfl)) dX5_change_1 ⟨Nat.le_of_ble_eq_true rfl, Nat.le_of_ble_eq_true rfl⟩) hS (fun q _ h => hFc q h) hFc (fun u t H7 locs ht hvm hw hB hz1 hk1 hS => ?_)
    obtain ⟨hP, hD⟩ := aft_ (Wr := wD_ d0 s0 z0 b0 q0 t0 dhasSaved dkeptError dmoved ++ wS_ s0 v0 f0 r0 ++ wV_ v0 v_keys v_firsts v_ends v_values v_inferred v_gone cI cZ vkeys vfirsts vends vvalues vinferred vgone vmade ++ wF_ f0 f_keys f_days f_amounts f_versions cI fkeys fdays famounts fversions fcount ++ wR_ r0 r_keys r_days r_values cI rkeys rdays rvalues rcount) (Wc' := []) (W2 := wD_ d0 s0 z0 b0 q0 t0 dhasSaved dkeptError dmoved ++ wS_ s0 v0 f0 r0 ++ wV_ v0 v_keys v_firsts v_ends v_values v_inferred v_gone cI cZ vkeys vfirsts vends vvalues vinferred vgone vmade ++ wF_ f0 f_keys f_days f_amounts f_versions cI fkeys fdays famounts fversions fcount ++ wR_ r0 r_keys r_days r_values cI rkeys rdays rvalues rcount) hP hD [] [0, 1, 2, 3, 4, 5, 6, 7, 8, 9, 10, 11, 12, 13, 14, 15, 16, 17] [0, 1, 2, 3, 4, 5, 6, 7, 8, 9, 10, 11, 12, 13, 14, 15, 16, 17] rfl rfl (by decide) (by decide) (by decide) hk1 hFc hB ht rfl
    refine lv_iload_n hx hb dX5_change_4 rfl (lv_at hl 2 rfl) ?_
    obtain ⟨R12, g13, hf⟩ := bd_B hf
    obtain ⟨x10, rfl⟩ : ∃ z, z = R12 := ⟨_, rfl⟩
    have hPc := hP.sub (ws' := []) [] rfl
    have hDc := hD.sub (ws' := []) [] (by decide) rfl
    have hFc := va_free (wc := []) hD hS hA [] rfl
    cases x10 with
    | error E18 =>
      have hR := Option.some.inj hf
      subst hR
      exact absurd hok (fun h => nomatch h)
    | ok _ =>
      refine va_callv (va_runS (As := [.int a2]) (rest := []) ⟨hx, hb, hml, hown, hts⟩ (cn_X5_checkDay l dC dI cI cZ cC cJ cD H7.size a2 (Except.ok ()) g13 rfl) (cwS 1 hts gX5_change_X5_checkDay rfl rfl rfl hs_X5_checkDay ⟨Nat.le_of_ble_eq_true rfl, Nat.le_of_ble_eq_true rfl⟩) (preS_ hPc hK hDc rfl) rfl rfl hl.1 rfl (lv_room (Nat.le_of_ble_eq_true rfl)) dX5_change_5 ⟨Nat.le_of_ble_eq_true rfl, Nat.le_of_ble_eq_true rfl⟩) hS (fun q _ h => hFc q h) hFc (fun u t H16 locs ht hvm hw hB hz1 hk1 hS => ?_)
      obtain ⟨hP, hD⟩ := aft_ (Wr := wD_ d0 s0 z0 b0 q0 t0 dhasSaved dkeptError dmoved ++ wS_ s0 v0 f0 r0 ++ wV_ v0 v_keys v_firsts v_ends v_values v_inferred v_gone cI cZ vkeys vfirsts vends vvalues vinferred vgone vmade ++ wF_ f0 f_keys f_days f_amounts f_versions cI fkeys fdays famounts fversions fcount ++ wR_ r0 r_keys r_days r_values cI rkeys rdays rvalues rcount) (Wc' := []) (W2 := wD_ d0 s0 z0 b0 q0 t0 dhasSaved dkeptError dmoved ++ wS_ s0 v0 f0 r0 ++ wV_ v0 v_keys v_firsts v_ends v_values v_inferred v_gone cI cZ vkeys vfirsts vends vvalues vinferred vgone vmade ++ wF_ f0 f_keys f_days f_amounts f_versions cI fkeys fdays famounts fversions fcount ++ wR_ r0 r_keys r_days r_values cI rkeys rdays rvalues rcount) hP hD [] [0, 1, 2, 3, 4, 5, 6, 7, 8, 9, 10, 11, 12, 13, 14, 15, 16, 17] [0, 1, 2, 3, 4, 5, 6, 7, 8, 9, 10, 11, 12, 13, 14, 15, 16, 17] rfl rfl (by decide) (by decide) (by decide) hk1 hFc hB ht rfl
      refine lv_aload_n hx hb dX5_change_8 rfl (lv_at hl 0 rfl) ?_
      refine va_get (D := (dC, dI)) (ci := 7) (v := .ref s0) (C := RX5) (T := TX5) (N := 8) hx hb hts inX5_ hown hK hP 0 rfl rfl 0 (by decide) fl10_ (fun _ h9 => h9) rfl dX5_change_9 ?_
      refine va_get (D := (dC, dI)) (ci := 4) (v := .ref v0) (C := RX2) (T := TX2) (N := 3) hx hb hts inX2_ hown hK hP 1 rfl rfl 0 (by decide) fl51_ (fun _ h9 => h9) rfl dX5_change_12 ?_
      refine lv_iload_n hx hb dX5_change_15 rfl (lv_at hl 1 rfl) ?_
      refine lv_iload_n hx hb dX5_change_16 rfl (lv_at hl 2 rfl) ?_
      refine lv_iload_n hx hb dX5_change_17 rfl (lv_at hl 3 rfl) ?_
      obtain ⟨R27, g28, hf⟩ := bd_B hf
      obtain ⟨r19, ⟨vk20, vf21, ve22, vv23, vi24, vg25, vm26⟩⟩ := R27
      dsimp only at hf
      have hPc := hP.sub (ws' := wV_ v0 v_keys v_firsts v_ends v_values v_inferred v_gone cI cZ vkeys vfirsts vends vvalues vinferred vgone vmade) [2, 3, 4, 5, 6, 7, 8] rfl
      have hDc := hD.sub (ws' := wV_ v0 v_keys v_firsts v_ends v_values v_inferred v_gone cI cZ vkeys vfirsts vends vvalues vinferred vgone vmade) [2, 3, 4, 5, 6, 7, 8] (by decide) rfl
      have hFc := va_free (wc := wV_ v0 v_keys v_firsts v_ends v_values v_inferred v_gone cI cZ vkeys vfirsts vends vvalues vinferred vgone vmade) hD hS hA [2, 3, 4, 5, 6, 7, 8] rfl
      refine va_calli (va_runV (As := [.int a1, .int a2, .int a3]) (rest := []) ⟨hx, hb, hml, hown, hts⟩ (c_X4_put l dC dI cI cZ cC cJ cD v0 v_keys v_firsts v_ends v_values v_inferred v_gone H16.size vkeys vfirsts vends vvalues vinferred vgone vmade a1 a2 a3 (r19, (vk20, vf21, ve22, vv23, vi24, vg25, vm26)) g28) (cwV 3 hts gX5_change_X4_put rfl rfl rfl hs_X4_put ⟨Nat.le_of_ble_eq_true rfl, Nat.le_of_ble_eq_true rfl⟩) (preV_ (ci := 6) (q0 := 0) hPc hK hDc rfl rfl rfl rfl) rfl rfl hl.1 rfl (lv_room (Nat.le_of_ble_eq_true rfl)) dX5_change_18 ⟨Nat.le_of_ble_eq_true rfl, Nat.le_of_ble_eq_true rfl⟩) hS (fun q _ h => hFc q h) hFc (fun z30 u t H29 locs ht hvm hw hB hz1 hk1 hS => ?_)
      have hw : r19 = z30 := hw.symm
      subst hw
      obtain ⟨hP, hD⟩ := aft_ (Wr := wD_ d0 s0 z0 b0 q0 t0 dhasSaved dkeptError dmoved ++ wS_ s0 v0 f0 r0 ++ wF_ f0 f_keys f_days f_amounts f_versions cI fkeys fdays famounts fversions fcount ++ wR_ r0 r_keys r_days r_values cI rkeys rdays rvalues rcount) (Wc' := wV_ v0 v_keys v_firsts v_ends v_values v_inferred v_gone cI cZ vk20 vf21 ve22 vv23 vi24 vg25 vm26) (W2 := wD_ d0 s0 z0 b0 q0 t0 dhasSaved dkeptError dmoved ++ wS_ s0 v0 f0 r0 ++ wV_ v0 v_keys v_firsts v_ends v_values v_inferred v_gone cI cZ vk20 vf21 ve22 vv23 vi24 vg25 vm26 ++ wF_ f0 f_keys f_days f_amounts f_versions cI fkeys fdays famounts fversions fcount ++ wR_ r0 r_keys r_days r_values cI rkeys rdays rvalues rcount) hP hD [2, 3, 4, 5, 6, 7, 8] [0, 1, 9, 10, 11, 12, 13, 14, 15, 16, 17] [0, 1, 11, 12, 13, 14, 15, 16, 17, 2, 3, 4, 5, 6, 7, 8, 9, 10] rfl rfl (by decide) (by decide) (by decide) hk1 hFc hB ht rfl
      refine lv_istore (lv' := [(4, .int r19), (0, .ref d0), (1, .int a1), (2, .int a2), (3, .int a3)]) hx hb dX5_change_21 hl (by decide) rfl (fun ls hl => ?_)
      refine lv_iload hx hb dX5_change_23 (lv_at hl 0 rfl) ?_
      refine lv_iconst (v := (-1)) hx hb dX5_change_25 (by decide) ?_
      refine lv_icmp_ne (tgt := 37) hx hb dX5_change_26 (by decide) (fun c31 => ?_) (fun c31 => ?_)
      · have hf := ite_F c31 hf
        refine lv_aload_n hx hb dX5_change_37 rfl (lv_at hl 1 rfl) ?_
        obtain ⟨R40, g41, hf⟩ := bd_B hf
        obtain ⟨⟨dh32, dk33, dm34⟩, ⟨fk35, fd36, fa37, fv38, fc39⟩⟩ := R40
        dsimp only at hf
        have hPc := hP
        have hDc := hD
        have hFc := va_free (wc := wD_ d0 s0 z0 b0 q0 t0 dhasSaved dkeptError dmoved ++ wS_ s0 v0 f0 r0 ++ wV_ v0 v_keys v_firsts v_ends v_values v_inferred v_gone cI cZ vk20 vf21 ve22 vv23 vi24 vg25 vm26 ++ wF_ f0 f_keys f_days f_amounts f_versions cI fkeys fdays famounts fversions fcount ++ wR_ r0 r_keys r_days r_values cI rkeys rdays rvalues rcount) hD hS hA [0, 1, 2, 3, 4, 5, 6, 7, 8, 9, 10, 11, 12, 13, 14, 15, 16, 17] rfl
        refine va_callv (va_runV (As := []) (rest := []) ⟨hx, hb, hml, hown, hts⟩ (c_X5_pointFacts l dC dI cI cZ cC cJ cD d0 s0 z0 b0 q0 t0 v0 f0 r0 v_keys v_firsts v_ends v_values v_inferred v_gone f_keys f_days f_amounts f_versions r_keys r_days r_values H29.size dhasSaved dkeptError dmoved vk20 vf21 ve22 vv23 vi24 vg25 vm26 fkeys fdays famounts fversions fcount rkeys rdays rvalues rcount ((dh32, dk33, dm34), (fk35, fd36, fa37, fv38, fc39)) g41) (cwV 0 hts gX5_change_X5_pointFacts rfl rfl rfl hs_X5_pointFacts ⟨Nat.le_of_ble_eq_true rfl, Nat.le_of_ble_eq_true rfl⟩) (preV_ (ci := 7) (q0 := 0) hPc hK hDc rfl rfl rfl rfl) rfl rfl hl.1 rfl (lv_room (Nat.le_of_ble_eq_true rfl)) dX5_change_38 ⟨Nat.le_of_ble_eq_true rfl, Nat.le_of_ble_eq_true rfl⟩) hS (fun q _ h => hFc q h) hFc (fun u t H42 locs ht hvm hw hB hz1 hk1 hS => ?_)
        obtain ⟨hP, hD⟩ := aft_ (Wr := []) (Wc' := wD_ d0 s0 z0 b0 q0 t0 dh32 dk33 dm34 ++ wS_ s0 v0 f0 r0 ++ wV_ v0 v_keys v_firsts v_ends v_values v_inferred v_gone cI cZ vk20 vf21 ve22 vv23 vi24 vg25 vm26 ++ wF_ f0 f_keys f_days f_amounts f_versions cI fk35 fd36 fa37 fv38 fc39 ++ wR_ r0 r_keys r_days r_values cI rkeys rdays rvalues rcount) (W2 := wD_ d0 s0 z0 b0 q0 t0 dh32 dk33 dm34 ++ wS_ s0 v0 f0 r0 ++ wV_ v0 v_keys v_firsts v_ends v_values v_inferred v_gone cI cZ vk20 vf21 ve22 vv23 vi24 vg25 vm26 ++ wF_ f0 f_keys f_days f_amounts f_versions cI fk35 fd36 fa37 fv38 fc39 ++ wR_ r0 r_keys r_days r_values cI rkeys rdays rvalues rcount) hP hD [0, 1, 2, 3, 4, 5, 6, 7, 8, 9, 10, 11, 12, 13, 14, 15, 16, 17] [] [0, 1, 2, 3, 4, 5, 6, 7, 8, 9, 10, 11, 12, 13, 14, 15, 16, 17] rfl rfl (by decide) (by decide) (by decide) hk1 hFc hB ht rfl
        refine lv_iload hx hb dX5_change_41 (lv_at hl 0 rfl) ?_
        have hR := Option.some.inj hf
        subst hR
        have hv := Except.ok.inj hok
        subst hv
        exact W.iret (v := r19) hx hb hr (fun t ht hW => ⟨⟨r19, (), rfl, rfl, by rw [ht]; exact hP, va_K.moved hW.alike hK, hD⟩, hS.F ht⟩) hS.2.2 dX5_change_43
      · have hf := ite_T c31 hf
        have hR := Option.some.inj hf
        subst hR
        exact absurd hok (fun h => nomatch h)
abbrev rmn_X5_addFact : Room := { frames := 7, cells := 0, slots := 0, locals := 110 }
set_option maxHeartbeats 4000000 in
set_option maxRecDepth 100000 in
theorem cn_X5_addFact (l : Launch) (dC : Nat → ClassId) (dI : Nat → Nat → Nat) (cI cZ cC cJ cD : ClassId) (d0 s0 z0 b0 q0 t0 v0 f0 r0 v_keys v_firsts v_ends v_values v_inferred v_gone f_keys f_days f_amounts f_versions r_keys r_days r_values : Nat) (sz : Nat) (dhasSaved : Int32) (dkeptError : Int32) (dmoved : Int32) (vkeys : Nat → Int32) (vfirsts : Nat → Int32) (vends : Nat → Int32) (vvalues : Nat → Int32) (vinferred : Nat → Int32) (vgone : Nat → Int32) (vmade : Int32) (fkeys : Nat → Int32) (fdays : Nat → Int32) (famounts : Nat → Int32) (fversions : Nat → Int32) (fcount : Int32) (rkeys : Nat → Int32) (rdays : Nat → Int32) (rvalues : Nat → Int32) (rcount : Int32) (a1 : Int32) (a2 : Int32) (a3 : Int32) (R : Except String Int32 × tD_ × tV_ × tF_) (hf : f_X5_addFact a1 a2 a3 (dhasSaved, dkeptError, dmoved) () (vkeys, vfirsts, vends, vvalues, vinferred, vgone, vmade) (fkeys, fdays, famounts, fversions, fcount) (rkeys, rdays, rvalues, rcount) = some R) (r : Int32) (hok : R.1 = Except.ok r) : Met l yX5_addFact wsX5_addFact rmn_X5_addFact (Pc_ (dC, dI) (ty_ cI cZ cC cJ cD) (wD_ d0 s0 z0 b0 q0 t0 dhasSaved dkeptError dmoved ++ wS_ s0 v0 f0 r0 ++ wV_ v0 v_keys v_firsts v_ends v_values v_inferred v_gone cI cZ vkeys vfirsts vends vvalues vinferred vgone vmade ++ wF_ f0 f_keys f_days f_amounts f_versions cI fkeys fdays famounts fversions fcount ++ wR_ r0 r_keys r_days r_values cI rkeys rdays rvalues rcount) sz [.ref d0, .int a1, .int a2, .int a3]) (Qi_ (dC, dI) (ty_ cI cZ cC cJ cD) r (wD_ d0 s0 z0 b0 q0 t0 R.2.1.1 R.2.1.2.1 R.2.1.2.2 ++ wS_ s0 v0 f0 r0 ++ wV_ v0 v_keys v_firsts v_ends v_values v_inferred v_gone cI cZ R.2.2.1.1 R.2.2.1.2.1 R.2.2.1.2.2.1 R.2.2.1.2.2.2.1 R.2.2.1.2.2.2.2.1 R.2.2.1.2.2.2.2.2.1 R.2.2.1.2.2.2.2.2.2 ++ wF_ f0 f_keys f_days f_amounts f_versions cI R.2.2.2.1 R.2.2.2.2.1 R.2.2.2.2.2.1 R.2.2.2.2.2.2.1 R.2.2.2.2.2.2.2 ++ wR_ r0 r_keys r_days r_values cI rkeys rdays rvalues rcount) (va_A (wD_ d0 s0 z0 b0 q0 t0 dhasSaved dkeptError dmoved ++ wS_ s0 v0 f0 r0 ++ wV_ v0 v_keys v_firsts v_ends v_values v_inferred v_gone cI cZ vkeys vfirsts vends vvalues vinferred vgone vmade ++ wF_ f0 f_keys f_days f_amounts f_versions cI fkeys fdays famounts fversions fcount ++ wR_ r0 r_keys r_days r_values cI rkeys rdays rvalues rcount) sz)) 0 0 (va_A (wD_ d0 s0 z0 b0 q0 t0 dhasSaved dkeptError dmoved ++ wS_ s0 v0 f0 r0 ++ wV_ v0 v_keys v_firsts v_ends v_values v_inferred v_gone cI cZ vkeys vfirsts vends vvalues vinferred vgone vmade ++ wF_ f0 f_keys f_days f_amounts f_versions cI fkeys fdays famounts fversions fcount ++ wR_ r0 r_keys r_days r_values cI rkeys rdays rvalues rcount) sz) := by
  refine met_ (cc := cX5_addFact) (maxL := 5) (ret := (some .int)) (Qcf := fun A => Qi_ (dC, dI) (ty_ cI cZ cC cJ cD) r (wD_ d0 s0 z0 b0 q0 t0 R.2.1.1 R.2.1.2.1 R.2.1.2.2 ++ wS_ s0 v0 f0 r0 ++ wV_ v0 v_keys v_firsts v_ends v_values v_inferred v_gone cI cZ R.2.2.1.1 R.2.2.1.2.1 R.2.2.1.2.2.1 R.2.2.1.2.2.2.1 R.2.2.1.2.2.2.2.1 R.2.2.1.2.2.2.2.2.1 R.2.2.1.2.2.2.2.2.2 ++ wF_ f0 f_keys f_days f_amounts f_versions cI R.2.2.2.1 R.2.2.2.2.1 R.2.2.2.2.2.1 R.2.2.2.2.2.2.1 R.2.2.2.2.2.2.2 ++ wR_ r0 r_keys r_days r_values cI rkeys rdays rvalues rcount) A) (by decide) rfl (Nat.le_of_ble_eq_true rfl) ?_
  intro p e s m args below meth c A ls hx hb hr hts hown hlocks hml hA hP hK hD hl
  have hown : s.vm.findClass RX5 = some m.cls := hown
  have hl : lv_has ls 5 [(0, .ref d0), (1, .int a1), (2, .int a2), (3, .int a3)] := hl
  have hS : va_S A s.heap s.heap [] := va_S.rf
  have fl10_ : (Cond.fieldLink RX5 10 "DimensionLoader" "live" "LDimensionLoader$Store;").before args s = true := hts _ (List.mem_of_getElem? (i := 3) rfl)
  have fl51_ : (Cond.fieldLink RX5 51 "DimensionLoader$Store" "versions" "LDimensionLoader$Versions;").before args s = true := hts _ (List.mem_of_getElem? (i := 5) rfl)
  have fl64_ : (Cond.fieldLink RX5 64 "DimensionLoader$Store" "facts" "LDimensionLoader$Facts;").before args s = true := hts _ (List.mem_of_getElem? (i := 4) rfl)
  have inX2_ : ∀ w ∈ wsX20, w ∈ wsX5_addFact := in_X5_addFact_X2
  have inX5_ : ∀ w ∈ wsX50, w ∈ wsX5_addFact := in_X5_addFact_X5
  unfold f_X5_addFact at hf
  dsimp only at hf
  refine lv_iload_n hx hb dX5_addFact_0 rfl (lv_at hl 1 rfl) ?_
  obtain ⟨R3, g4, hf⟩ := bd_B hf
  obtain ⟨x1, rfl⟩ : ∃ z, z = R3 := ⟨_, rfl⟩
  have hPc := hP.sub (ws' := []) [] rfl
  have hDc := hD.sub (ws' := []) [] (by decide) rfl
  have hFc := va_free (wc := []) hD hS hA [] rfl
  cases x1 with
  | error E9 =>
    have hR := Option.some.inj hf
    subst hR
    exact absurd hok (fun h => nomatch h)
  | ok _ =>
    refine va_callv (va_runS (As := [.int a1]) (rest := []) ⟨hx, hb, hml, hown, hts⟩ (cn_X5_checkKey l dC dI cI cZ cC cJ cD s.heap.size a1 (Except.ok ()) g4 rfl) (cwS 1 hts gX5_addFact_X5_checkKey rfl rfl rfl hs_X5_checkKey ⟨Nat.le_of_ble_eq_true rfl, Nat.le_of_ble_eq_true rfl⟩) (preS_ hPc hK hDc rfl) rfl rfl hl.1 rfl (lv_room (Nat.le_of_ble_eq_true rfl)) dX5_addFact_1 ⟨Nat.le_of_ble_eq_true rfl, Nat.le_of_ble_eq_true rfl⟩) hS (fun q _ h => hFc q h) hFc (fun u t H7 locs ht hvm hw hB hz1 hk1 hS => ?_)
    obtain ⟨hP, hD⟩ := aft_ (Wr := wD_ d0 s0 z0 b0 q0 t0 dhasSaved dkeptError dmoved ++ wS_ s0 v0 f0 r0 ++ wV_ v0 v_keys v_firsts v_ends v_values v_inferred v_gone cI cZ vkeys vfirsts vends vvalues vinferred vgone vmade ++ wF_ f0 f_keys f_days f_amounts f_versions cI fkeys fdays famounts fversions fcount ++ wR_ r0 r_keys r_days r_values cI rkeys rdays rvalues rcount) (Wc' := []) (W2 := wD_ d0 s0 z0 b0 q0 t0 dhasSaved dkeptError dmoved ++ wS_ s0 v0 f0 r0 ++ wV_ v0 v_keys v_firsts v_ends v_values v_inferred v_gone cI cZ vkeys vfirsts vends vvalues vinferred vgone vmade ++ wF_ f0 f_keys f_days f_amounts f_versions cI fkeys fdays famounts fversions fcount ++ wR_ r0 r_keys r_days r_values cI rkeys rdays rvalues rcount) hP hD [] [0, 1, 2, 3, 4, 5, 6, 7, 8, 9, 10, 11, 12, 13, 14, 15, 16, 17] [0, 1, 2, 3, 4, 5, 6, 7, 8, 9, 10, 11, 12, 13, 14, 15, 16, 17] rfl rfl (by decide) (by decide) (by decide) hk1 hFc hB ht rfl
    refine lv_iload_n hx hb dX5_addFact_4 rfl (lv_at hl 2 rfl) ?_
    obtain ⟨R12, g13, hf⟩ := bd_B hf
    obtain ⟨x10, rfl⟩ : ∃ z, z = R12 := ⟨_, rfl⟩
    have hPc := hP.sub (ws' := []) [] rfl
    have hDc := hD.sub (ws' := []) [] (by decide) rfl
    have hFc := va_free (wc := []) hD hS hA [] rfl
    cases x10 with
    | error E18 =>
      have hR := Option.some.inj hf
      subst hR
      exact absurd hok (fun h => nomatch h)
    | ok _ =>
      refine va_callv (va_runS (As := [.int a2]) (rest := []) ⟨hx, hb, hml, hown, hts⟩ (cn_X5_checkDay l dC dI cI cZ cC cJ cD H7.size a2 (Except.ok ()) g13 rfl) (cwS 1 hts gX5_addFact_X5_checkDay rfl rfl rfl hs_X5_checkDay ⟨Nat.le_of_ble_eq_true rfl, Nat.le_of_ble_eq_true rfl⟩) (preS_ hPc hK hDc rfl) rfl rfl hl.1 rfl (lv_room (Nat.le_of_ble_eq_true rfl)) dX5_addFact_5 ⟨Nat.le_of_ble_eq_true rfl, Nat.le_of_ble_eq_true rfl⟩) hS (fun q _ h => hFc q h) hFc (fun u t H16 locs ht hvm hw hB hz1 hk1 hS => ?_)
      obtain ⟨hP, hD⟩ := aft_ (Wr := wD_ d0 s0 z0 b0 q0 t0 dhasSaved dkeptError dmoved ++ wS_ s0 v0 f0 r0 ++ wV_ v0 v_keys v_firsts v_ends v_values v_inferred v_gone cI cZ vkeys vfirsts vends vvalues vinferred vgone vmade ++ wF_ f0 f_keys f_days f_amounts f_versions cI fkeys fdays famounts fversions fcount ++ wR_ r0 r_keys r_days r_values cI rkeys rdays rvalues rcount) (Wc' := []) (W2 := wD_ d0 s0 z0 b0 q0 t0 dhasSaved dkeptError dmoved ++ wS_ s0 v0 f0 r0 ++ wV_ v0 v_keys v_firsts v_ends v_values v_inferred v_gone cI cZ vkeys vfirsts vends vvalues vinferred vgone vmade ++ wF_ f0 f_keys f_days f_amounts f_versions cI fkeys fdays famounts fversions fcount ++ wR_ r0 r_keys r_days r_values cI rkeys rdays rvalues rcount) hP hD [] [0, 1, 2, 3, 4, 5, 6, 7, 8, 9, 10, 11, 12, 13, 14, 15, 16, 17] [0, 1, 2, 3, 4, 5, 6, 7, 8, 9, 10, 11, 12, 13, 14, 15, 16, 17] rfl rfl (by decide) (by decide) (by decide) hk1 hFc hB ht rfl
      refine lv_aload_n hx hb dX5_addFact_8 rfl (lv_at hl 0 rfl) ?_
      refine va_get (D := (dC, dI)) (ci := 7) (v := .ref s0) (C := RX5) (T := TX5) (N := 8) hx hb hts inX5_ hown hK hP 0 rfl rfl 0 (by decide) fl10_ (fun _ h9 => h9) rfl dX5_addFact_9 ?_
      refine va_get (D := (dC, dI)) (ci := 4) (v := .ref f0) (C := RX2) (T := TX2) (N := 3) hx hb hts inX2_ hown hK hP 1 rfl rfl 1 (by decide) fl64_ (fun _ h9 => h9) rfl dX5_addFact_12 ?_
      obtain ⟨R20, g21, hf⟩ := bd_B hf
      obtain ⟨r19, rfl⟩ : ∃ z, z = R20 := ⟨_, rfl⟩
      have hPc := hP.sub (ws' := wF_ f0 f_keys f_days f_amounts f_versions cI fkeys fdays famounts fversions fcount) [9, 10, 11, 12, 13] rfl
      have hDc := hD.sub (ws' := wF_ f0 f_keys f_days f_amounts f_versions cI fkeys fdays famounts fversions fcount) [9, 10, 11, 12, 13] (by decide) rfl
      have hFc := va_free (wc := wF_ f0 f_keys f_days f_amounts f_versions cI fkeys fdays famounts fversions fcount) hD hS hA [9, 10, 11, 12, 13] rfl
      refine va_calli (va_runV (As := []) (rest := []) ⟨hx, hb, hml, hown, hts⟩ (c_X0_isFull l dC dI cI cZ cC cJ cD f0 f_keys f_days f_amounts f_versions H16.size fkeys fdays famounts fversions fcount r19 g21) (cwV 0 hts gX5_addFact_X0_isFull rfl rfl rfl hs_X0_isFull ⟨Nat.le_of_ble_eq_true rfl, Nat.le_of_ble_eq_true rfl⟩) (preV_ (ci := 2) (q0 := 0) hPc hK hDc rfl rfl rfl rfl) rfl rfl hl.1 rfl (lv_room (Nat.le_of_ble_eq_true rfl)) dX5_addFact_15 ⟨Nat.le_of_ble_eq_true rfl, Nat.le_of_ble_eq_true rfl⟩) hS (fun q _ h => hFc q h) hFc (fun z23 u t H22 locs ht hvm hw hB hz1 hk1 hS => ?_)
      have hw : r19 = z23 := hw.symm
      subst hw
      obtain ⟨hP, hD⟩ := aft_ (Wr := wD_ d0 s0 z0 b0 q0 t0 dhasSaved dkeptError dmoved ++ wS_ s0 v0 f0 r0 ++ wV_ v0 v_keys v_firsts v_ends v_values v_inferred v_gone cI cZ vkeys vfirsts vends vvalues vinferred vgone vmade ++ wR_ r0 r_keys r_days r_values cI rkeys rdays rvalues rcount) (Wc' := wF_ f0 f_keys f_days f_amounts f_versions cI fkeys fdays famounts fversions fcount) (W2 := wD_ d0 s0 z0 b0 q0 t0 dhasSaved dkeptError dmoved ++ wS_ s0 v0 f0 r0 ++ wV_ v0 v_keys v_firsts v_ends v_values v_inferred v_gone cI cZ vkeys vfirsts vends vvalues vinferred vgone vmade ++ wF_ f0 f_keys f_days f_amounts f_versions cI fkeys fdays famounts fversions fcount ++ wR_ r0 r_keys r_days r_values cI rkeys rdays rvalues rcount) hP hD [9, 10, 11, 12, 13] [0, 1, 2, 3, 4, 5, 6, 7, 8, 14, 15, 16, 17] [0, 1, 2, 3, 4, 5, 6, 7, 8, 13, 14, 15, 16, 17, 9, 10, 11, 12] rfl rfl (by decide) (by decide) (by decide) hk1 hFc hB ht rfl
      refine lv_if_eq (tgt := 29) hx hb dX5_addFact_18 (by decide) (fun c24 => ?_) (fun c24 => ?_)
      · have hf := ite_T c24 hf
        refine lv_aload_n hx hb dX5_addFact_29 rfl (lv_at hl 0 rfl) ?_
        refine va_get (D := (dC, dI)) (ci := 7) (v := .ref s0) (C := RX5) (T := TX5) (N := 8) hx hb hts inX5_ hown hK hP 0 rfl rfl 0 (by decide) fl10_ (fun _ h9 => h9) rfl dX5_addFact_30 ?_
        refine va_get (D := (dC, dI)) (ci := 4) (v := .ref v0) (C := RX2) (T := TX2) (N := 3) hx hb hts inX2_ hown hK hP 1 rfl rfl 0 (by decide) fl51_ (fun _ h9 => h9) rfl dX5_addFact_33 ?_
        refine lv_iload_n hx hb dX5_addFact_36 rfl (lv_at hl 1 rfl) ?_
        refine lv_iload_n hx hb dX5_addFact_37 rfl (lv_at hl 2 rfl) ?_
        obtain ⟨R33, g34, hf⟩ := bd_B hf
        obtain ⟨r25, ⟨vk26, vf27, ve28, vv29, vi30, vg31, vm32⟩⟩ := R33
        dsimp only at hf
        have hPc := hP.sub (ws' := wV_ v0 v_keys v_firsts v_ends v_values v_inferred v_gone cI cZ vkeys vfirsts vends vvalues vinferred vgone vmade) [2, 3, 4, 5, 6, 7, 8] rfl
        have hDc := hD.sub (ws' := wV_ v0 v_keys v_firsts v_ends v_values v_inferred v_gone cI cZ vkeys vfirsts vends vvalues vinferred vgone vmade) [2, 3, 4, 5, 6, 7, 8] (by decide) rfl
        have hFc := va_free (wc := wV_ v0 v_keys v_firsts v_ends v_values v_inferred v_gone cI cZ vkeys vfirsts vends vvalues vinferred vgone vmade) hD hS hA [2, 3, 4, 5, 6, 7, 8] rfl
        refine va_calli (va_runV (As := [.int a1, .int a2]) (rest := []) ⟨hx, hb, hml, hown, hts⟩ (c_X4_cover l dC dI cI cZ cC cJ cD v0 v_keys v_firsts v_ends v_values v_inferred v_gone H22.size vkeys vfirsts vends vvalues vinferred vgone vmade a1 a2 (r25, (vk26, vf27, ve28, vv29, vi30, vg31, vm32)) g34) (cwV 2 hts gX5_addFact_X4_cover rfl rfl rfl hs_X4_cover ⟨Nat.le_of_ble_eq_true rfl, Nat.le_of_ble_eq_true rfl⟩) (preV_ (ci := 6) (q0 := 0) hPc hK hDc rfl rfl rfl rfl) rfl rfl hl.1 rfl (lv_room (Nat.le_of_ble_eq_true rfl)) dX5_addFact_38 ⟨Nat.le_of_ble_eq_true rfl, Nat.le_of_ble_eq_true rfl⟩) hS (fun q _ h => hFc q h) hFc (fun z36 u t H35 locs ht hvm hw hB hz1 hk1 hS => ?_)
        have hw : r25 = z36 := hw.symm
        subst hw
        obtain ⟨hP, hD⟩ := aft_ (Wr := wD_ d0 s0 z0 b0 q0 t0 dhasSaved dkeptError dmoved ++ wS_ s0 v0 f0 r0 ++ wF_ f0 f_keys f_days f_amounts f_versions cI fkeys fdays famounts fversions fcount ++ wR_ r0 r_keys r_days r_values cI rkeys rdays rvalues rcount) (Wc' := wV_ v0 v_keys v_firsts v_ends v_values v_inferred v_gone cI cZ vk26 vf27 ve28 vv29 vi30 vg31 vm32) (W2 := wD_ d0 s0 z0 b0 q0 t0 dhasSaved dkeptError dmoved ++ wS_ s0 v0 f0 r0 ++ wV_ v0 v_keys v_firsts v_ends v_values v_inferred v_gone cI cZ vk26 vf27 ve28 vv29 vi30 vg31 vm32 ++ wF_ f0 f_keys f_days f_amounts f_versions cI fkeys fdays famounts fversions fcount ++ wR_ r0 r_keys r_days r_values cI rkeys rdays rvalues rcount) hP hD [2, 3, 4, 5, 6, 7, 8] [0, 1, 9, 10, 11, 12, 13, 14, 15, 16, 17] [0, 1, 11, 12, 13, 14, 15, 16, 17, 2, 3, 4, 5, 6, 7, 8, 9, 10] rfl rfl (by decide) (by decide) (by decide) hk1 hFc hB ht rfl
        refine lv_istore (lv' := [(4, .int r25), (0, .ref d0), (1, .int a1), (2, .int a2), (3, .int a3)]) hx hb dX5_addFact_41 hl (by decide) rfl (fun ls hl => ?_)
        refine lv_iload hx hb dX5_addFact_43 (lv_at hl 0 rfl) ?_
        refine lv_iconst (v := (-1)) hx hb dX5_addFact_45 (by decide) ?_
        refine lv_icmp_ne (tgt := 57) hx hb dX5_addFact_46 (by decide) (fun c37 => ?_) (fun c37 => ?_)
        · have hf := ite_F c37 hf
          refine lv_aload_n hx hb dX5_addFact_57 rfl (lv_at hl 1 rfl) ?_
          obtain ⟨R46, g47, hf⟩ := bd_B hf
          obtain ⟨⟨dh38, dk39, dm40⟩, ⟨fk41, fd42, fa43, fv44, fc45⟩⟩ := R46
          dsimp only at hf
          have hPc := hP
          have hDc := hD
          have hFc := va_free (wc := wD_ d0 s0 z0 b0 q0 t0 dhasSaved dkeptError dmoved ++ wS_ s0 v0 f0 r0 ++ wV_ v0 v_keys v_firsts v_ends v_values v_inferred v_gone cI cZ vk26 vf27 ve28 vv29 vi30 vg31 vm32 ++ wF_ f0 f_keys f_days f_amounts f_versions cI fkeys fdays famounts fversions fcount ++ wR_ r0 r_keys r_days r_values cI rkeys rdays rvalues rcount) hD hS hA [0, 1, 2, 3, 4, 5, 6, 7, 8, 9, 10, 11, 12, 13, 14, 15, 16, 17] rfl
          refine va_callv (va_runV (As := []) (rest := []) ⟨hx, hb, hml, hown, hts⟩ (c_X5_pointFacts l dC dI cI cZ cC cJ cD d0 s0 z0 b0 q0 t0 v0 f0 r0 v_keys v_firsts v_ends v_values v_inferred v_gone f_keys f_days f_amounts f_versions r_keys r_days r_values H35.size dhasSaved dkeptError dmoved vk26 vf27 ve28 vv29 vi30 vg31 vm32 fkeys fdays famounts fversions fcount rkeys rdays rvalues rcount ((dh38, dk39, dm40), (fk41, fd42, fa43, fv44, fc45)) g47) (cwV 0 hts gX5_addFact_X5_pointFacts rfl rfl rfl hs_X5_pointFacts ⟨Nat.le_of_ble_eq_true rfl, Nat.le_of_ble_eq_true rfl⟩) (preV_ (ci := 7) (q0 := 0) hPc hK hDc rfl rfl rfl rfl) rfl rfl hl.1 rfl (lv_room (Nat.le_of_ble_eq_true rfl)) dX5_addFact_58 ⟨Nat.le_of_ble_eq_true rfl, Nat.le_of_ble_eq_true rfl⟩) hS (fun q _ h => hFc q h) hFc (fun u t H48 locs ht hvm hw hB hz1 hk1 hS => ?_)
          obtain ⟨hP, hD⟩ := aft_ (Wr := []) (Wc' := wD_ d0 s0 z0 b0 q0 t0 dh38 dk39 dm40 ++ wS_ s0 v0 f0 r0 ++ wV_ v0 v_keys v_firsts v_ends v_values v_inferred v_gone cI cZ vk26 vf27 ve28 vv29 vi30 vg31 vm32 ++ wF_ f0 f_keys f_days f_amounts f_versions cI fk41 fd42 fa43 fv44 fc45 ++ wR_ r0 r_keys r_days r_values cI rkeys rdays rvalues rcount) (W2 := wD_ d0 s0 z0 b0 q0 t0 dh38 dk39 dm40 ++ wS_ s0 v0 f0 r0 ++ wV_ v0 v_keys v_firsts v_ends v_values v_inferred v_gone cI cZ vk26 vf27 ve28 vv29 vi30 vg31 vm32 ++ wF_ f0 f_keys f_days f_amounts f_versions cI fk41 fd42 fa43 fv44 fc45 ++ wR_ r0 r_keys r_days r_values cI rkeys rdays rvalues rcount) hP hD [0, 1, 2, 3, 4, 5, 6, 7, 8, 9, 10, 11, 12, 13, 14, 15, 16, 17] [] [0, 1, 2, 3, 4, 5, 6, 7, 8, 9, 10, 11, 12, 13, 14, 15, 16, 17] rfl rfl (by decide) (by decide) (by decide) hk1 hFc hB ht rfl
          refine lv_aload_n hx hb dX5_addFact_61 rfl (lv_at hl 1 rfl) ?_
          refine va_get (D := (dC, dI)) (ci := 7) (v := .ref s0) (C := RX5) (T := TX5) (N := 8) hx hb hts inX5_ hown hK hP 0 rfl rfl 0 (by decide) fl10_ (fun _ h9 => h9) rfl dX5_addFact_62 ?_
          refine va_get (D := (dC, dI)) (ci := 4) (v := .ref f0) (C := RX2) (T := TX2) (N := 3) hx hb hts inX2_ hown hK hP 1 rfl rfl 1 (by decide) fl64_ (fun _ h9 => h9) rfl dX5_addFact_65 ?_
          refine lv_iload_n hx hb dX5_addFact_68 rfl (lv_at hl 2 rfl) ?_
          refine lv_iload_n hx hb dX5_addFact_69 rfl (lv_at hl 3 rfl) ?_
          refine lv_iload_n hx hb dX5_addFact_70 rfl (lv_at hl 4 rfl) ?_
          refine lv_iload hx hb dX5_addFact_71 (lv_at hl 0 rfl) ?_
          obtain ⟨R55, g56, hf⟩ := bd_B hf
          obtain ⟨fk50, fd51, fa52, fv53, fc54⟩ := R55
          dsimp only at hf
          have hPc := hP.sub (ws' := wF_ f0 f_keys f_days f_amounts f_versions cI fk41 fd42 fa43 fv44 fc45) [9, 10, 11, 12, 13] rfl
          have hDc := hD.sub (ws' := wF_ f0 f_keys f_days f_amounts f_versions cI fk41 fd42 fa43 fv44 fc45) [9, 10, 11, 12, 13] (by decide) rfl
          have hFc := va_free (wc := wF_ f0 f_keys f_days f_amounts f_versions cI fk41 fd42 fa43 fv44 fc45) hD hS hA [9, 10, 11, 12, 13] rfl
          refine va_callv (va_runV (As := [.int a1, .int a2, .int a3, .int r25]) (rest := []) ⟨hx, hb, hml, hown, hts⟩ (c_X0_add l dC dI cI cZ cC cJ cD f0 f_keys f_days f_amounts f_versions H48.size fk41 fd42 fa43 fv44 fc45 a1 a2 a3 r25 (fk50, fd51, fa52, fv53, fc54) g56) (cwV 4 hts gX5_addFact_X0_add rfl rfl rfl hs_X0_add ⟨Nat.le_of_ble_eq_true rfl, Nat.le_of_ble_eq_true rfl⟩) (preV_ (ci := 2) (q0 := 0) hPc hK hDc rfl rfl rfl rfl) rfl rfl hl.1 rfl (lv_room (Nat.le_of_ble_eq_true rfl)) dX5_addFact_73 ⟨Nat.le_of_ble_eq_true rfl, Nat.le_of_ble_eq_true rfl⟩) hS (fun q _ h => hFc q h) hFc (fun u t H57 locs ht hvm hw hB hz1 hk1 hS => ?_)
          obtain ⟨hP, hD⟩ := aft_ (Wr := wD_ d0 s0 z0 b0 q0 t0 dh38 dk39 dm40 ++ wS_ s0 v0 f0 r0 ++ wV_ v0 v_keys v_firsts v_ends v_values v_inferred v_gone cI cZ vk26 vf27 ve28 vv29 vi30 vg31 vm32 ++ wR_ r0 r_keys r_days r_values cI rkeys rdays rvalues rcount) (Wc' := wF_ f0 f_keys f_days f_amounts f_versions cI fk50 fd51 fa52 fv53 fc54) (W2 := wD_ d0 s0 z0 b0 q0 t0 dh38 dk39 dm40 ++ wS_ s0 v0 f0 r0 ++ wV_ v0 v_keys v_firsts v_ends v_values v_inferred v_gone cI cZ vk26 vf27 ve28 vv29 vi30 vg31 vm32 ++ wF_ f0 f_keys f_days f_amounts f_versions cI fk50 fd51 fa52 fv53 fc54 ++ wR_ r0 r_keys r_days r_values cI rkeys rdays rvalues rcount) hP hD [9, 10, 11, 12, 13] [0, 1, 2, 3, 4, 5, 6, 7, 8, 14, 15, 16, 17] [0, 1, 2, 3, 4, 5, 6, 7, 8, 13, 14, 15, 16, 17, 9, 10, 11, 12] rfl rfl (by decide) (by decide) (by decide) hk1 hFc hB ht rfl
          refine lv_iload hx hb dX5_addFact_76 (lv_at hl 0 rfl) ?_
          have hR := Option.some.inj hf
          subst hR
          have hv := Except.ok.inj hok
          subst hv
          exact W.iret (v := r25) hx hb hr (fun t ht hW => ⟨⟨r25, (), rfl, rfl, by rw [ht]; exact hP, va_K.moved hW.alike hK, hD⟩, hS.F ht⟩) hS.2.2 dX5_addFact_78
        · have hf := ite_T c37 hf
          have hR := Option.some.inj hf
          subst hR
          exact absurd hok (fun h => nomatch h)
      · have hf := ite_F c24 hf
        have hR := Option.some.inj hf
        subst hR
        exact absurd hok (fun h => nomatch h)
abbrev rmn_X5_join : Room := { frames := 7, cells := 0, slots := 0, locals := 110 }
set_option maxHeartbeats 4000000 in
set_option maxRecDepth 100000 in
theorem cn_X5_join (l : Launch) (dC : Nat → ClassId) (dI : Nat → Nat → Nat) (cI cZ cC cJ cD : ClassId) (d0 s0 z0 b0 q0 t0 v0 f0 r0 v_keys v_firsts v_ends v_values v_inferred v_gone f_keys f_days f_amounts f_versions r_keys r_days r_values : Nat) (sz : Nat) (dhasSaved : Int32) (dkeptError : Int32) (dmoved : Int32) (vkeys : Nat → Int32) (vfirsts : Nat → Int32) (vends : Nat → Int32) (vvalues : Nat → Int32) (vinferred : Nat → Int32) (vgone : Nat → Int32) (vmade : Int32) (fkeys : Nat → Int32) (fdays : Nat → Int32) (famounts : Nat → Int32) (fversions : Nat → Int32) (fcount : Int32) (rkeys : Nat → Int32) (rdays : Nat → Int32) (rvalues : Nat → Int32) (rcount : Int32) (a1 : Int32) (R : Except String Int32 × tD_ × tV_ × tF_) (hf : f_X5_join a1 (dhasSaved, dkeptError, dmoved) () (vkeys, vfirsts, vends, vvalues, vinferred, vgone, vmade) (fkeys, fdays, famounts, fversions, fcount) (rkeys, rdays, rvalues, rcount) = some R) (r : Int32) (hok : R.1 = Except.ok r) : Met l yX5_join wsX5_join rmn_X5_join (Pc_ (dC, dI) (ty_ cI cZ cC cJ cD) (wD_ d0 s0 z0 b0 q0 t0 dhasSaved dkeptError dmoved ++ wS_ s0 v0 f0 r0 ++ wV_ v0 v_keys v_firsts v_ends v_values v_inferred v_gone cI cZ vkeys vfirsts vends vvalues vinferred vgone vmade ++ wF_ f0 f_keys f_days f_amounts f_versions cI fkeys fdays famounts fversions fcount ++ wR_ r0 r_keys r_days r_values cI rkeys rdays rvalues rcount) sz [.ref d0, .int a1]) (Qi_ (dC, dI) (ty_ cI cZ cC cJ cD) r (wD_ d0 s0 z0 b0 q0 t0 R.2.1.1 R.2.1.2.1 R.2.1.2.2 ++ wS_ s0 v0 f0 r0 ++ wV_ v0 v_keys v_firsts v_ends v_values v_inferred v_gone cI cZ R.2.2.1.1 R.2.2.1.2.1 R.2.2.1.2.2.1 R.2.2.1.2.2.2.1 R.2.2.1.2.2.2.2.1 R.2.2.1.2.2.2.2.2.1 R.2.2.1.2.2.2.2.2.2 ++ wF_ f0 f_keys f_days f_amounts f_versions cI R.2.2.2.1 R.2.2.2.2.1 R.2.2.2.2.2.1 R.2.2.2.2.2.2.1 R.2.2.2.2.2.2.2 ++ wR_ r0 r_keys r_days r_values cI rkeys rdays rvalues rcount) (va_A (wD_ d0 s0 z0 b0 q0 t0 dhasSaved dkeptError dmoved ++ wS_ s0 v0 f0 r0 ++ wV_ v0 v_keys v_firsts v_ends v_values v_inferred v_gone cI cZ vkeys vfirsts vends vvalues vinferred vgone vmade ++ wF_ f0 f_keys f_days f_amounts f_versions cI fkeys fdays famounts fversions fcount ++ wR_ r0 r_keys r_days r_values cI rkeys rdays rvalues rcount) sz)) 0 0 (va_A (wD_ d0 s0 z0 b0 q0 t0 dhasSaved dkeptError dmoved ++ wS_ s0 v0 f0 r0 ++ wV_ v0 v_keys v_firsts v_ends v_values v_inferred v_gone cI cZ vkeys vfirsts vends vvalues vinferred vgone vmade ++ wF_ f0 f_keys f_days f_amounts f_versions cI fkeys fdays famounts fversions fcount ++ wR_ r0 r_keys r_days r_values cI rkeys rdays rvalues rcount) sz) := by
  refine met_ (cc := cX5_join) (maxL := 3) (ret := (some .int)) (Qcf := fun A => Qi_ (dC, dI) (ty_ cI cZ cC cJ cD) r (wD_ d0 s0 z0 b0 q0 t0 R.2.1.1 R.2.1.2.1 R.2.1.2.2 ++ wS_ s0 v0 f0 r0 ++ wV_ v0 v_keys v_firsts v_ends v_values v_inferred v_gone cI cZ R.2.2.1.1 R.2.2.1.2.1 R.2.2.1.2.2.1 R.2.2.1.2.2.2.1 R.2.2.1.2.2.2.2.1 R.2.2.1.2.2.2.2.2.1 R.2.2.1.2.2.2.2.2.2 ++ wF_ f0 f_keys f_days f_amounts f_versions cI R.2.2.2.1 R.2.2.2.2.1 R.2.2.2.2.2.1 R.2.2.2.2.2.2.1 R.2.2.2.2.2.2.2 ++ wR_ r0 r_keys r_days r_values cI rkeys rdays rvalues rcount) A) (by decide) rfl (Nat.le_of_ble_eq_true rfl) ?_
  intro p e s m args below meth c A ls hx hb hr hts hown hlocks hml hA hP hK hD hl
  have hown : s.vm.findClass RX5 = some m.cls := hown
  have hl : lv_has ls 3 [(0, .ref d0), (1, .int a1)] := hl
  have hS : va_S A s.heap s.heap [] := va_S.rf
  have fl10_ : (Cond.fieldLink RX5 10 "DimensionLoader" "live" "LDimensionLoader$Store;").before args s = true := hts _ (List.mem_of_getElem? (i := 1) rfl)
  have fl51_ : (Cond.fieldLink RX5 51 "DimensionLoader$Store" "versions" "LDimensionLoader$Versions;").before args s = true := hts _ (List.mem_of_getElem? (i := 2) rfl)
  have inX2_ : ∀ w ∈ wsX20, w ∈ wsX5_join := in_X5_join_X2
  have inX5_ : ∀ w ∈ wsX50, w ∈ wsX5_join := in_X5_join_X5
  unfold f_X5_join at hf
  dsimp only at hf
  refine lv_iload_n hx hb dX5_join_0 rfl (lv_at hl 1 rfl) ?_
  obtain ⟨R3, g4, hf⟩ := bd_B hf
  obtain ⟨x1, rfl⟩ : ∃ z, z = R3 := ⟨_, rfl⟩
  have hPc := hP.sub (ws' := []) [] rfl
  have hDc := hD.sub (ws' := []) [] (by decide) rfl
  have hFc := va_free (wc := []) hD hS hA [] rfl
  cases x1 with
  | error E9 =>
    have hR := Option.some.inj hf
    subst hR
    exact absurd hok (fun h => nomatch h)
  | ok _ =>
    refine va_callv (va_runS (As := [.int a1]) (rest := []) ⟨hx, hb, hml, hown, hts⟩ (cn_X5_checkKey l dC dI cI cZ cC cJ cD s.heap.size a1 (Except.ok ()) g4 rfl) (cwS 1 hts gX5_join_X5_checkKey rfl rfl rfl hs_X5_checkKey ⟨Nat.le_of_ble_eq_true rfl, Nat.le_of_ble_eq_true rfl⟩) (preS_ hPc hK hDc rfl) rfl rfl hl.1 rfl (lv_room (Nat.le_of_ble_eq_true rfl)) dX5_join_1 ⟨Nat.le_of_ble_eq_true rfl, Nat.le_of_ble_eq_true rfl⟩) hS (fun q _ h => hFc q h) hFc (fun u t H7 locs ht hvm hw hB hz1 hk1 hS => ?_)
    obtain ⟨hP, hD⟩ := aft_ (Wr := wD_ d0 s0 z0 b0 q0 t0 dhasSaved dkeptError dmoved ++ wS_ s0 v0 f0 r0 ++ wV_ v0 v_keys v_firsts v_ends v_values v_inferred v_gone cI cZ vkeys vfirsts vends vvalues vinferred vgone vmade ++ wF_ f0 f_keys f_days f_amounts f_versions cI fkeys fdays famounts fversions fcount ++ wR_ r0 r_keys r_days r_values cI rkeys rdays rvalues rcount) (Wc' := []) (W2 := wD_ d0 s0 z0 b0 q0 t0 dhasSaved dkeptError dmoved ++ wS_ s0 v0 f0 r0 ++ wV_ v0 v_keys v_firsts v_ends v_values v_inferred v_gone cI cZ vkeys vfirsts vends vvalues vinferred vgone vmade ++ wF_ f0 f_keys f_days f_amounts f_versions cI fkeys fdays famounts fversions fcount ++ wR_ r0 r_keys r_days r_values cI rkeys rdays rvalues rcount) hP hD [] [0, 1, 2, 3, 4, 5, 6, 7, 8, 9, 10, 11, 12, 13, 14, 15, 16, 17] [0, 1, 2, 3, 4, 5, 6, 7, 8, 9, 10, 11, 12, 13, 14, 15, 16, 17] rfl rfl (by decide) (by decide) (by decide) hk1 hFc hB ht rfl
    refine lv_aload_n hx hb dX5_join_4 rfl (lv_at hl 0 rfl) ?_
    refine va_get (D := (dC, dI)) (ci := 7) (v := .ref s0) (C := RX5) (T := TX5) (N := 8) hx hb hts inX5_ hown hK hP 0 rfl rfl 0 (by decide) fl10_ (fun _ h9 => h9) rfl dX5_join_5 ?_
    refine va_get (D := (dC, dI)) (ci := 4) (v := .ref v0) (C := RX2) (T := TX2) (N := 3) hx hb hts inX2_ hown hK hP 1 rfl rfl 0 (by decide) fl51_ (fun _ h9 => h9) rfl dX5_join_8 ?_
    refine lv_iload_n hx hb dX5_join_11 rfl (lv_at hl 1 rfl) ?_
    obtain ⟨R18, g19, hf⟩ := bd_B hf
    obtain ⟨r10, ⟨vk11, vf12, ve13, vv14, vi15, vg16, vm17⟩⟩ := R18
    dsimp only at hf
    have hPc := hP.sub (ws' := wV_ v0 v_keys v_firsts v_ends v_values v_inferred v_gone cI cZ vkeys vfirsts vends vvalues vinferred vgone vmade) [2, 3, 4, 5, 6, 7, 8] rfl
    have hDc := hD.sub (ws' := wV_ v0 v_keys v_firsts v_ends v_values v_inferred v_gone cI cZ vkeys vfirsts vends vvalues vinferred vgone vmade) [2, 3, 4, 5, 6, 7, 8] (by decide) rfl
    have hFc := va_free (wc := wV_ v0 v_keys v_firsts v_ends v_values v_inferred v_gone cI cZ vkeys vfirsts vends vvalues vinferred vgone vmade) hD hS hA [2, 3, 4, 5, 6, 7, 8] rfl
    refine va_calli (va_runV (As := [.int a1]) (rest := []) ⟨hx, hb, hml, hown, hts⟩ (c_X4_joinAlike l dC dI cI cZ cC cJ cD v0 v_keys v_firsts v_ends v_values v_inferred v_gone H7.size vkeys vfirsts vends vvalues vinferred vgone vmade a1 (r10, (vk11, vf12, ve13, vv14, vi15, vg16, vm17)) g19) (cwV 1 hts gX5_join_X4_joinAlike rfl rfl rfl hs_X4_joinAlike ⟨Nat.le_of_ble_eq_true rfl, Nat.le_of_ble_eq_true rfl⟩) (preV_ (ci := 6) (q0 := 0) hPc hK hDc rfl rfl rfl rfl) rfl rfl hl.1 rfl (lv_room (Nat.le_of_ble_eq_true rfl)) dX5_join_12 ⟨Nat.le_of_ble_eq_true rfl, Nat.le_of_ble_eq_true rfl⟩) hS (fun q _ h => hFc q h) hFc (fun z21 u t H20 locs ht hvm hw hB hz1 hk1 hS => ?_)
    have hw : r10 = z21 := hw.symm
    subst hw
    obtain ⟨hP, hD⟩ := aft_ (Wr := wD_ d0 s0 z0 b0 q0 t0 dhasSaved dkeptError dmoved ++ wS_ s0 v0 f0 r0 ++ wF_ f0 f_keys f_days f_amounts f_versions cI fkeys fdays famounts fversions fcount ++ wR_ r0 r_keys r_days r_values cI rkeys rdays rvalues rcount) (Wc' := wV_ v0 v_keys v_firsts v_ends v_values v_inferred v_gone cI cZ vk11 vf12 ve13 vv14 vi15 vg16 vm17) (W2 := wD_ d0 s0 z0 b0 q0 t0 dhasSaved dkeptError dmoved ++ wS_ s0 v0 f0 r0 ++ wV_ v0 v_keys v_firsts v_ends v_values v_inferred v_gone cI cZ vk11 vf12 ve13 vv14 vi15 vg16 vm17 ++ wF_ f0 f_keys f_days f_amounts f_versions cI fkeys fdays famounts fversions fcount ++ wR_ r0 r_keys r_days r_values cI rkeys rdays rvalues rcount) hP hD [2, 3, 4, 5, 6, 7, 8] [0, 1, 9, 10, 11, 12, 13, 14, 15, 16, 17] [0, 1, 11, 12, 13, 14, 15, 16, 17, 2, 3, 4, 5, 6, 7, 8, 9, 10] rfl rfl (by decide) (by decide) (by decide) hk1 hFc hB ht rfl
    refine lv_istore_n (lv' := [(2, .int r10), (0, .ref d0), (1, .int a1)]) hx hb dX5_join_15 rfl hl (by decide) rfl (fun ls hl => ?_)
    refine lv_aload_n hx hb dX5_join_16 rfl (lv_at hl 1 rfl) ?_
    obtain ⟨R30, g31, hf⟩ := bd_B hf
    obtain ⟨⟨dh22, dk23, dm24⟩, ⟨fk25, fd26, fa27, fv28, fc29⟩⟩ := R30
    dsimp only at hf
    have hPc := hP
    have hDc := hD
    have hFc := va_free (wc := wD_ d0 s0 z0 b0 q0 t0 dhasSaved dkeptError dmoved ++ wS_ s0 v0 f0 r0 ++ wV_ v0 v_keys v_firsts v_ends v_values v_inferred v_gone cI cZ vk11 vf12 ve13 vv14 vi15 vg16 vm17 ++ wF_ f0 f_keys f_days f_amounts f_versions cI fkeys fdays famounts fversions fcount ++ wR_ r0 r_keys r_days r_values cI rkeys rdays rvalues rcount) hD hS hA [0, 1, 2, 3, 4, 5, 6, 7, 8, 9, 10, 11, 12, 13, 14, 15, 16, 17] rfl
    refine va_callv (va_runV (As := []) (rest := []) ⟨hx, hb, hml, hown, hts⟩ (c_X5_pointFacts l dC dI cI cZ cC cJ cD d0 s0 z0 b0 q0 t0 v0 f0 r0 v_keys v_firsts v_ends v_values v_inferred v_gone f_keys f_days f_amounts f_versions r_keys r_days r_values H20.size dhasSaved dkeptError dmoved vk11 vf12 ve13 vv14 vi15 vg16 vm17 fkeys fdays famounts fversions fcount rkeys rdays rvalues rcount ((dh22, dk23, dm24), (fk25, fd26, fa27, fv28, fc29)) g31) (cwV 0 hts gX5_join_X5_pointFacts rfl rfl rfl hs_X5_pointFacts ⟨Nat.le_of_ble_eq_true rfl, Nat.le_of_ble_eq_true rfl⟩) (preV_ (ci := 7) (q0 := 0) hPc hK hDc rfl rfl rfl rfl) rfl rfl hl.1 rfl (lv_room (Nat.le_of_ble_eq_true rfl)) dX5_join_17 ⟨Nat.le_of_ble_eq_true rfl, Nat.le_of_ble_eq_true rfl⟩) hS (fun q _ h => hFc q h) hFc (fun u t H32 locs ht hvm hw hB hz1 hk1 hS => ?_)
    obtain ⟨hP, hD⟩ := aft_ (Wr := []) (Wc' := wD_ d0 s0 z0 b0 q0 t0 dh22 dk23 dm24 ++ wS_ s0 v0 f0 r0 ++ wV_ v0 v_keys v_firsts v_ends v_values v_inferred v_gone cI cZ vk11 vf12 ve13 vv14 vi15 vg16 vm17 ++ wF_ f0 f_keys f_days f_amounts f_versions cI fk25 fd26 fa27 fv28 fc29 ++ wR_ r0 r_keys r_days r_values cI rkeys rdays rvalues rcount) (W2 := wD_ d0 s0 z0 b0 q0 t0 dh22 dk23 dm24 ++ wS_ s0 v0 f0 r0 ++ wV_ v0 v_keys v_firsts v_ends v_values v_inferred v_gone cI cZ vk11 vf12 ve13 vv14 vi15 vg16 vm17 ++ wF_ f0 f_keys f_days f_amounts f_versions cI fk25 fd26 fa27 fv28 fc29 ++ wR_ r0 r_keys r_days r_values cI rkeys rdays rvalues rcount) hP hD [0, 1, 2, 3, 4, 5, 6, 7, 8, 9, 10, 11, 12, 13, 14, 15, 16, 17] [] [0, 1, 2, 3, 4, 5, 6, 7, 8, 9, 10, 11, 12, 13, 14, 15, 16, 17] rfl rfl (by decide) (by decide) (by decide) hk1 hFc hB ht rfl
    refine lv_iload_n hx hb dX5_join_20 rfl (lv_at hl 0 rfl) ?_
    have hR := Option.some.inj hf
    subst hR
    have hv := Except.ok.inj hok
    subst hv
    exact W.iret (v := r10) hx hb hr (fun t ht hW => ⟨⟨r10, (), rfl, rfl, by rw [ht]; exact hP, va_K.moved hW.alike hK, hD⟩, hS.F ht⟩) hS.2.2 dX5_join_21
abbrev rmn_X5_versionsOf : Room := { frames := 7, cells := 0, slots := 0, locals := 109 }
set_option maxHeartbeats 4000000 in
set_option maxRecDepth 100000 in
theorem cn_X5_versionsOf (l : Launch) (dC : Nat → ClassId) (dI : Nat → Nat → Nat) (cI cZ cC cJ cD : ClassId) (d0 s0 z0 b0 q0 t0 v0 f0 r0 v_keys v_firsts v_ends v_values v_inferred v_gone f_keys f_days f_amounts f_versions r_keys r_days r_values : Nat) (sz : Nat) (dhasSaved : Int32) (dkeptError : Int32) (dmoved : Int32) (vkeys : Nat → Int32) (vfirsts : Nat → Int32) (vends : Nat → Int32) (vvalues : Nat → Int32) (vinferred : Nat → Int32) (vgone : Nat → Int32) (vmade : Int32) (fkeys : Nat → Int32) (fdays : Nat → Int32) (famounts : Nat → Int32) (fversions : Nat → Int32) (fcount : Int32) (rkeys : Nat → Int32) (rdays : Nat → Int32) (rvalues : Nat → Int32) (rcount : Int32) (a1 : Int32) (R : Except String Int32) (hf : f_X5_versionsOf a1 (dhasSaved, dkeptError, dmoved) () (vkeys, vfirsts, vends, vvalues, vinferred, vgone, vmade) (fkeys, fdays, famounts, fversions, fcount) (rkeys, rdays, rvalues, rcount) = some R) (r : Int32) (hok : R = Except.ok r) : Met l yX5_versionsOf wsX5_versionsOf rmn_X5_versionsOf (Pc_ (dC, dI) (ty_ cI cZ cC cJ cD) (wD_ d0 s0 z0 b0 q0 t0 dhasSaved dkeptError dmoved ++ wS_ s0 v0 f0 r0 ++ wV_ v0 v_keys v_firsts v_ends v_values v_inferred v_gone cI cZ vkeys vfirsts vends vvalues vinferred vgone vmade ++ wF_ f0 f_keys f_days f_amounts f_versions cI fkeys fdays famounts fversions fcount ++ wR_ r0 r_keys r_days r_values cI rkeys rdays rvalues rcount) sz [.ref d0, .int a1]) (Qi_ (dC, dI) (ty_ cI cZ cC cJ cD) r (wD_ d0 s0 z0 b0 q0 t0 dhasSaved dkeptError dmoved ++ wS_ s0 v0 f0 r0 ++ wV_ v0 v_keys v_firsts v_ends v_values v_inferred v_gone cI cZ vkeys vfirsts vends vvalues vinferred vgone vmade ++ wF_ f0 f_keys f_days f_amounts f_versions cI fkeys fdays famounts fversions fcount ++ wR_ r0 r_keys r_days r_values cI rkeys rdays rvalues rcount) (va_A (wD_ d0 s0 z0 b0 q0 t0 dhasSaved dkeptError dmoved ++ wS_ s0 v0 f0 r0 ++ wV_ v0 v_keys v_firsts v_ends v_values v_inferred v_gone cI cZ vkeys vfirsts vends vvalues vinferred vgone vmade ++ wF_ f0 f_keys f_days f_amounts f_versions cI fkeys fdays famounts fversions fcount ++ wR_ r0 r_keys r_days r_values cI rkeys rdays rvalues rcount) sz)) 0 0 (va_A (wD_ d0 s0 z0 b0 q0 t0 dhasSaved dkeptError dmoved ++ wS_ s0 v0 f0 r0 ++ wV_ v0 v_keys v_firsts v_ends v_values v_inferred v_gone cI cZ vkeys vfirsts vends vvalues vinferred vgone vmade ++ wF_ f0 f_keys f_days f_amounts f_versions cI fkeys fdays famounts fversions fcount ++ wR_ r0 r_keys r_days r_values cI rkeys rdays rvalues rcount) sz) := by
  refine met_ (cc := cX5_versionsOf) (maxL := 2) (ret := (some .int)) (Qcf := fun A => Qi_ (dC, dI) (ty_ cI cZ cC cJ cD) r (wD_ d0 s0 z0 b0 q0 t0 dhasSaved dkeptError dmoved ++ wS_ s0 v0 f0 r0 ++ wV_ v0 v_keys v_firsts v_ends v_values v_inferred v_gone cI cZ vkeys vfirsts vends vvalues vinferred vgone vmade ++ wF_ f0 f_keys f_days f_amounts f_versions cI fkeys fdays famounts fversions fcount ++ wR_ r0 r_keys r_days r_values cI rkeys rdays rvalues rcount) A) (by decide) rfl (Nat.le_of_ble_eq_true rfl) ?_
  intro p e s m args below meth c A ls hx hb hr hts hown hlocks hml hA hP hK hD hl
  have hown : s.vm.findClass RX5 = some m.cls := hown
  have hl : lv_has ls 2 [(0, .ref d0), (1, .int a1)] := hl
  have hS : va_S A s.heap s.heap [] := va_S.rf
  have fl10_ : (Cond.fieldLink RX5 10 "DimensionLoader" "live" "LDimensionLoader$Store;").before args s = true := hts _ (List.mem_of_getElem? (i := 1) rfl)
  have fl51_ : (Cond.fieldLink RX5 51 "DimensionLoader$Store" "versions" "LDimensionLoader$Versions;").before args s = true := hts _ (List.mem_of_getElem? (i := 2) rfl)
  have inX2_ : ∀ w ∈ wsX20, w ∈ wsX5_versionsOf := in_X5_versionsOf_X2
  have inX5_ : ∀ w ∈ wsX50, w ∈ wsX5_versionsOf := in_X5_versionsOf_X5
  unfold f_X5_versionsOf at hf
  dsimp only at hf
  refine lv_iload_n hx hb dX5_versionsOf_0 rfl (lv_at hl 1 rfl) ?_
  obtain ⟨R3, g4, hf⟩ := bd_B hf
  obtain ⟨x1, rfl⟩ : ∃ z, z = R3 := ⟨_, rfl⟩
  have hPc := hP.sub (ws' := []) [] rfl
  have hDc := hD.sub (ws' := []) [] (by decide) rfl
  have hFc := va_free (wc := []) hD hS hA [] rfl
  cases x1 with
  | error E9 =>
    have hR := Option.some.inj hf
    subst hR
    exact absurd hok (fun h => nomatch h)
  | ok _ =>
    refine va_callv (va_runS (As := [.int a1]) (rest := []) ⟨hx, hb, hml, hown, hts⟩ (cn_X5_checkKey l dC dI cI cZ cC cJ cD s.heap.size a1 (Except.ok ()) g4 rfl) (cwS 1 hts gX5_versionsOf_X5_checkKey rfl rfl rfl hs_X5_checkKey ⟨Nat.le_of_ble_eq_true rfl, Nat.le_of_ble_eq_true rfl⟩) (preS_ hPc hK hDc rfl) rfl rfl hl.1 rfl (lv_room (Nat.le_of_ble_eq_true rfl)) dX5_versionsOf_1 ⟨Nat.le_of_ble_eq_true rfl, Nat.le_of_ble_eq_true rfl⟩) hS (fun q _ h => hFc q h) hFc (fun u t H7 locs ht hvm hw hB hz1 hk1 hS => ?_)
    obtain ⟨hP, hD⟩ := aft_ (Wr := wD_ d0 s0 z0 b0 q0 t0 dhasSaved dkeptError dmoved ++ wS_ s0 v0 f0 r0 ++ wV_ v0 v_keys v_firsts v_ends v_values v_inferred v_gone cI cZ vkeys vfirsts vends vvalues vinferred vgone vmade ++ wF_ f0 f_keys f_days f_amounts f_versions cI fkeys fdays famounts fversions fcount ++ wR_ r0 r_keys r_days r_values cI rkeys rdays rvalues rcount) (Wc' := []) (W2 := wD_ d0 s0 z0 b0 q0 t0 dhasSaved dkeptError dmoved ++ wS_ s0 v0 f0 r0 ++ wV_ v0 v_keys v_firsts v_ends v_values v_inferred v_gone cI cZ vkeys vfirsts vends vvalues vinferred vgone vmade ++ wF_ f0 f_keys f_days f_amounts f_versions cI fkeys fdays famounts fversions fcount ++ wR_ r0 r_keys r_days r_values cI rkeys rdays rvalues rcount) hP hD [] [0, 1, 2, 3, 4, 5, 6, 7, 8, 9, 10, 11, 12, 13, 14, 15, 16, 17] [0, 1, 2, 3, 4, 5, 6, 7, 8, 9, 10, 11, 12, 13, 14, 15, 16, 17] rfl rfl (by decide) (by decide) (by decide) hk1 hFc hB ht rfl
    refine lv_aload_n hx hb dX5_versionsOf_4 rfl (lv_at hl 0 rfl) ?_
    refine va_get (D := (dC, dI)) (ci := 7) (v := .ref s0) (C := RX5) (T := TX5) (N := 8) hx hb hts inX5_ hown hK hP 0 rfl rfl 0 (by decide) fl10_ (fun _ h9 => h9) rfl dX5_versionsOf_5 ?_
    refine va_get (D := (dC, dI)) (ci := 4) (v := .ref v0) (C := RX2) (T := TX2) (N := 3) hx hb hts inX2_ hown hK hP 1 rfl rfl 0 (by decide) fl51_ (fun _ h9 => h9) rfl dX5_versionsOf_8 ?_
    refine lv_iload_n hx hb dX5_versionsOf_11 rfl (lv_at hl 1 rfl) ?_
    obtain ⟨R11, g12, hf⟩ := bd_B hf
    obtain ⟨r10, rfl⟩ : ∃ z, z = R11 := ⟨_, rfl⟩
    have hPc := hP.sub (ws' := wV_ v0 v_keys v_firsts v_ends v_values v_inferred v_gone cI cZ vkeys vfirsts vends vvalues vinferred vgone vmade) [2, 3, 4, 5, 6, 7, 8] rfl
    have hDc := hD.sub (ws' := wV_ v0 v_keys v_firsts v_ends v_values v_inferred v_gone cI cZ vkeys vfirsts vends vvalues vinferred vgone vmade) [2, 3, 4, 5, 6, 7, 8] (by decide) rfl
    have hFc := va_free (wc := wV_ v0 v_keys v_firsts v_ends v_values v_inferred v_gone cI cZ vkeys vfirsts vends vvalues vinferred vgone vmade) hD hS hA [2, 3, 4, 5, 6, 7, 8] rfl
    refine va_calli (va_runV (As := [.int a1]) (rest := []) ⟨hx, hb, hml, hown, hts⟩ (c_X4_countOf l dC dI cI cZ cC cJ cD v0 v_keys v_firsts v_ends v_values v_inferred v_gone H7.size vkeys vfirsts vends vvalues vinferred vgone vmade a1 r10 g12) (cwV 1 hts gX5_versionsOf_X4_countOf rfl rfl rfl hs_X4_countOf ⟨Nat.le_of_ble_eq_true rfl, Nat.le_of_ble_eq_true rfl⟩) (preV_ (ci := 6) (q0 := 0) hPc hK hDc rfl rfl rfl rfl) rfl rfl hl.1 rfl (lv_room (Nat.le_of_ble_eq_true rfl)) dX5_versionsOf_12 ⟨Nat.le_of_ble_eq_true rfl, Nat.le_of_ble_eq_true rfl⟩) hS (fun q _ h => hFc q h) hFc (fun z14 u t H13 locs ht hvm hw hB hz1 hk1 hS => ?_)
    have hw : r10 = z14 := hw.symm
    subst hw
    obtain ⟨hP, hD⟩ := aft_ (Wr := wD_ d0 s0 z0 b0 q0 t0 dhasSaved dkeptError dmoved ++ wS_ s0 v0 f0 r0 ++ wF_ f0 f_keys f_days f_amounts f_versions cI fkeys fdays famounts fversions fcount ++ wR_ r0 r_keys r_days r_values cI rkeys rdays rvalues rcount) (Wc' := wV_ v0 v_keys v_firsts v_ends v_values v_inferred v_gone cI cZ vkeys vfirsts vends vvalues vinferred vgone vmade) (W2 := wD_ d0 s0 z0 b0 q0 t0 dhasSaved dkeptError dmoved ++ wS_ s0 v0 f0 r0 ++ wV_ v0 v_keys v_firsts v_ends v_values v_inferred v_gone cI cZ vkeys vfirsts vends vvalues vinferred vgone vmade ++ wF_ f0 f_keys f_days f_amounts f_versions cI fkeys fdays famounts fversions fcount ++ wR_ r0 r_keys r_days r_values cI rkeys rdays rvalues rcount) hP hD [2, 3, 4, 5, 6, 7, 8] [0, 1, 9, 10, 11, 12, 13, 14, 15, 16, 17] [0, 1, 11, 12, 13, 14, 15, 16, 17, 2, 3, 4, 5, 6, 7, 8, 9, 10] rfl rfl (by decide) (by decide) (by decide) hk1 hFc hB ht rfl
    have hR := Option.some.inj hf
    subst hR
    have hv := Except.ok.inj hok
    subst hv
    exact W.iret (v := r10) hx hb hr (fun t ht hW => ⟨⟨r10, (), rfl, rfl, by rw [ht]; exact hP, va_K.moved hW.alike hK, hD⟩, hS.F ht⟩) hS.2.2 dX5_versionsOf_15
abbrev rmn_X5_versionAt : Room := { frames := 7, cells := 0, slots := 0, locals := 109 }
set_option maxHeartbeats 4000000 in
set_option maxRecDepth 100000 in
theorem cn_X5_versionAt (l : Launch) (dC : Nat → ClassId) (dI : Nat → Nat → Nat) (cI cZ cC cJ cD : ClassId) (d0 s0 z0 b0 q0 t0 v0 f0 r0 v_keys v_firsts v_ends v_values v_inferred v_gone f_keys f_days f_amounts f_versions r_keys r_days r_values : Nat) (sz : Nat) (dhasSaved : Int32) (dkeptError : Int32) (dmoved : Int32) (vkeys : Nat → Int32) (vfirsts : Nat → Int32) (vends : Nat → Int32) (vvalues : Nat → Int32) (vinferred : Nat → Int32) (vgone : Nat → Int32) (vmade : Int32) (fkeys : Nat → Int32) (fdays : Nat → Int32) (famounts : Nat → Int32) (fversions : Nat → Int32) (fcount : Int32) (rkeys : Nat → Int32) (rdays : Nat → Int32) (rvalues : Nat → Int32) (rcount : Int32) (a1 : Int32) (a2 : Int32) (R : Except String Int32) (hf : f_X5_versionAt a1 a2 (dhasSaved, dkeptError, dmoved) () (vkeys, vfirsts, vends, vvalues, vinferred, vgone, vmade) (fkeys, fdays, famounts, fversions, fcount) (rkeys, rdays, rvalues, rcount) = some R) (r : Int32) (hok : R = Except.ok r) : Met l yX5_versionAt wsX5_versionAt rmn_X5_versionAt (Pc_ (dC, dI) (ty_ cI cZ cC cJ cD) (wD_ d0 s0 z0 b0 q0 t0 dhasSaved dkeptError dmoved ++ wS_ s0 v0 f0 r0 ++ wV_ v0 v_keys v_firsts v_ends v_values v_inferred v_gone cI cZ vkeys vfirsts vends vvalues vinferred vgone vmade ++ wF_ f0 f_keys f_days f_amounts f_versions cI fkeys fdays famounts fversions fcount ++ wR_ r0 r_keys r_days r_values cI rkeys rdays rvalues rcount) sz [.ref d0, .int a1, .int a2]) (Qi_ (dC, dI) (ty_ cI cZ cC cJ cD) r (wD_ d0 s0 z0 b0 q0 t0 dhasSaved dkeptError dmoved ++ wS_ s0 v0 f0 r0 ++ wV_ v0 v_keys v_firsts v_ends v_values v_inferred v_gone cI cZ vkeys vfirsts vends vvalues vinferred vgone vmade ++ wF_ f0 f_keys f_days f_amounts f_versions cI fkeys fdays famounts fversions fcount ++ wR_ r0 r_keys r_days r_values cI rkeys rdays rvalues rcount) (va_A (wD_ d0 s0 z0 b0 q0 t0 dhasSaved dkeptError dmoved ++ wS_ s0 v0 f0 r0 ++ wV_ v0 v_keys v_firsts v_ends v_values v_inferred v_gone cI cZ vkeys vfirsts vends vvalues vinferred vgone vmade ++ wF_ f0 f_keys f_days f_amounts f_versions cI fkeys fdays famounts fversions fcount ++ wR_ r0 r_keys r_days r_values cI rkeys rdays rvalues rcount) sz)) 0 0 (va_A (wD_ d0 s0 z0 b0 q0 t0 dhasSaved dkeptError dmoved ++ wS_ s0 v0 f0 r0 ++ wV_ v0 v_keys v_firsts v_ends v_values v_inferred v_gone cI cZ vkeys vfirsts vends vvalues vinferred vgone vmade ++ wF_ f0 f_keys f_days f_amounts f_versions cI fkeys fdays famounts fversions fcount ++ wR_ r0 r_keys r_days r_values cI rkeys rdays rvalues rcount) sz) := by
  refine met_ (cc := cX5_versionAt) (maxL := 3) (ret := (some .int)) (Qcf := fun A => Qi_ (dC, dI) (ty_ cI cZ cC cJ cD) r (wD_ d0 s0 z0 b0 q0 t0 dhasSaved dkeptError dmoved ++ wS_ s0 v0 f0 r0 ++ wV_ v0 v_keys v_firsts v_ends v_values v_inferred v_gone cI cZ vkeys vfirsts vends vvalues vinferred vgone vmade ++ wF_ f0 f_keys f_days f_amounts f_versions cI fkeys fdays famounts fversions fcount ++ wR_ r0 r_keys r_days r_values cI rkeys rdays rvalues rcount) A) (by decide) rfl (Nat.le_of_ble_eq_true rfl) ?_
  intro p e s m args below meth c A ls hx hb hr hts hown hlocks hml hA hP hK hD hl
  have hown : s.vm.findClass RX5 = some m.cls := hown
  have hl : lv_has ls 3 [(0, .ref d0), (1, .int a1), (2, .int a2)] := hl
  have hS : va_S A s.heap s.heap [] := va_S.rf
  have fl10_ : (Cond.fieldLink RX5 10 "DimensionLoader" "live" "LDimensionLoader$Store;").before args s = true := hts _ (List.mem_of_getElem? (i := 1) rfl)
  have fl51_ : (Cond.fieldLink RX5 51 "DimensionLoader$Store" "versions" "LDimensionLoader$Versions;").before args s = true := hts _ (List.mem_of_getElem? (i := 2) rfl)
  have inX2_ : ∀ w ∈ wsX20, w ∈ wsX5_versionAt := in_X5_versionAt_X2
  have inX5_ : ∀ w ∈ wsX50, w ∈ wsX5_versionAt := in_X5_versionAt_X5
  unfold f_X5_versionAt at hf
  dsimp only at hf
  refine lv_iload_n hx hb dX5_versionAt_0 rfl (lv_at hl 1 rfl) ?_
  obtain ⟨R3, g4, hf⟩ := bd_B hf
  obtain ⟨x1, rfl⟩ : ∃ z, z = R3 := ⟨_, rfl⟩
  have hPc := hP.sub (ws' := []) [] rfl
  have hDc := hD.sub (ws' := []) [] (by decide) rfl
  have hFc := va_free (wc := []) hD hS hA [] rfl
  cases x1 with
  | error E9 =>
    have hR := Option.some.inj hf
    subst hR
    exact absurd hok (fun h => nomatch h)
  | ok _ =>
    refine va_callv (va_runS (As := [.int a1]) (rest := []) ⟨hx, hb, hml, hown, hts⟩ (cn_X5_checkKey l dC dI cI cZ cC cJ cD s.heap.size a1 (Except.ok ()) g4 rfl) (cwS 1 hts gX5_versionAt_X5_checkKey rfl rfl rfl hs_X5_checkKey ⟨Nat.le_of_ble_eq_true rfl, Nat.le_of_ble_eq_true rfl⟩) (preS_ hPc hK hDc rfl) rfl rfl hl.1 rfl (lv_room (Nat.le_of_ble_eq_true rfl)) dX5_versionAt_1 ⟨Nat.le_of_ble_eq_true rfl, Nat.le_of_ble_eq_true rfl⟩) hS (fun q _ h => hFc q h) hFc (fun u t H7 locs ht hvm hw hB hz1 hk1 hS => ?_)
    obtain ⟨hP, hD⟩ := aft_ (Wr := wD_ d0 s0 z0 b0 q0 t0 dhasSaved dkeptError dmoved ++ wS_ s0 v0 f0 r0 ++ wV_ v0 v_keys v_firsts v_ends v_values v_inferred v_gone cI cZ vkeys vfirsts vends vvalues vinferred vgone vmade ++ wF_ f0 f_keys f_days f_amounts f_versions cI fkeys fdays famounts fversions fcount ++ wR_ r0 r_keys r_days r_values cI rkeys rdays rvalues rcount) (Wc' := []) (W2 := wD_ d0 s0 z0 b0 q0 t0 dhasSaved dkeptError dmoved ++ wS_ s0 v0 f0 r0 ++ wV_ v0 v_keys v_firsts v_ends v_values v_inferred v_gone cI cZ vkeys vfirsts vends vvalues vinferred vgone vmade ++ wF_ f0 f_keys f_days f_amounts f_versions cI fkeys fdays famounts fversions fcount ++ wR_ r0 r_keys r_days r_values cI rkeys rdays rvalues rcount) hP hD [] [0, 1, 2, 3, 4, 5, 6, 7, 8, 9, 10, 11, 12, 13, 14, 15, 16, 17] [0, 1, 2, 3, 4, 5, 6, 7, 8, 9, 10, 11, 12, 13, 14, 15, 16, 17] rfl rfl (by decide) (by decide) (by decide) hk1 hFc hB ht rfl
    refine lv_aload_n hx hb dX5_versionAt_4 rfl (lv_at hl 0 rfl) ?_
    refine va_get (D := (dC, dI)) (ci := 7) (v := .ref s0) (C := RX5) (T := TX5) (N := 8) hx hb hts inX5_ hown hK hP 0 rfl rfl 0 (by decide) fl10_ (fun _ h9 => h9) rfl dX5_versionAt_5 ?_
    refine va_get (D := (dC, dI)) (ci := 4) (v := .ref v0) (C := RX2) (T := TX2) (N := 3) hx hb hts inX2_ hown hK hP 1 rfl rfl 0 (by decide) fl51_ (fun _ h9 => h9) rfl dX5_versionAt_8 ?_
    refine lv_iload_n hx hb dX5_versionAt_11 rfl (lv_at hl 1 rfl) ?_
    refine lv_iload_n hx hb dX5_versionAt_12 rfl (lv_at hl 2 rfl) ?_
    obtain ⟨R11, g12, hf⟩ := bd_B hf
    obtain ⟨r10, rfl⟩ : ∃ z, z = R11 := ⟨_, rfl⟩
    have hPc := hP.sub (ws' := wV_ v0 v_keys v_firsts v_ends v_values v_inferred v_gone cI cZ vkeys vfirsts vends vvalues vinferred vgone vmade) [2, 3, 4, 5, 6, 7, 8] rfl
    have hDc := hD.sub (ws' := wV_ v0 v_keys v_firsts v_ends v_values v_inferred v_gone cI cZ vkeys vfirsts vends vvalues vinferred vgone vmade) [2, 3, 4, 5, 6, 7, 8] (by decide) rfl
    have hFc := va_free (wc := wV_ v0 v_keys v_firsts v_ends v_values v_inferred v_gone cI cZ vkeys vfirsts vends vvalues vinferred vgone vmade) hD hS hA [2, 3, 4, 5, 6, 7, 8] rfl
    refine va_calli (va_runV (As := [.int a1, .int a2]) (rest := []) ⟨hx, hb, hml, hown, hts⟩ (c_X4_atPlace l dC dI cI cZ cC cJ cD v0 v_keys v_firsts v_ends v_values v_inferred v_gone H7.size vkeys vfirsts vends vvalues vinferred vgone vmade a1 a2 r10 g12) (cwV 2 hts gX5_versionAt_X4_atPlace rfl rfl rfl hs_X4_atPlace ⟨Nat.le_of_ble_eq_true rfl, Nat.le_of_ble_eq_true rfl⟩) (preV_ (ci := 6) (q0 := 0) hPc hK hDc rfl rfl rfl rfl) rfl rfl hl.1 rfl (lv_room (Nat.le_of_ble_eq_true rfl)) dX5_versionAt_13 ⟨Nat.le_of_ble_eq_true rfl, Nat.le_of_ble_eq_true rfl⟩) hS (fun q _ h => hFc q h) hFc (fun z14 u t H13 locs ht hvm hw hB hz1 hk1 hS => ?_)
    have hw : r10 = z14 := hw.symm
    subst hw
    obtain ⟨hP, hD⟩ := aft_ (Wr := wD_ d0 s0 z0 b0 q0 t0 dhasSaved dkeptError dmoved ++ wS_ s0 v0 f0 r0 ++ wF_ f0 f_keys f_days f_amounts f_versions cI fkeys fdays famounts fversions fcount ++ wR_ r0 r_keys r_days r_values cI rkeys rdays rvalues rcount) (Wc' := wV_ v0 v_keys v_firsts v_ends v_values v_inferred v_gone cI cZ vkeys vfirsts vends vvalues vinferred vgone vmade) (W2 := wD_ d0 s0 z0 b0 q0 t0 dhasSaved dkeptError dmoved ++ wS_ s0 v0 f0 r0 ++ wV_ v0 v_keys v_firsts v_ends v_values v_inferred v_gone cI cZ vkeys vfirsts vends vvalues vinferred vgone vmade ++ wF_ f0 f_keys f_days f_amounts f_versions cI fkeys fdays famounts fversions fcount ++ wR_ r0 r_keys r_days r_values cI rkeys rdays rvalues rcount) hP hD [2, 3, 4, 5, 6, 7, 8] [0, 1, 9, 10, 11, 12, 13, 14, 15, 16, 17] [0, 1, 11, 12, 13, 14, 15, 16, 17, 2, 3, 4, 5, 6, 7, 8, 9, 10] rfl rfl (by decide) (by decide) (by decide) hk1 hFc hB ht rfl
    obtain ⟨R17, g18, hf⟩ := bd_B hf
    obtain ⟨x15, rfl⟩ : ∃ z, z = R17 := ⟨_, rfl⟩
    have hPc := hP.sub (ws' := []) [] rfl
    have hDc := hD.sub (ws' := []) [] (by decide) rfl
    have hFc := va_free (wc := []) hD hS hA [] rfl
    cases x15 with
    | error E23 =>
      have hR := Option.some.inj hf
      subst hR
      exact absurd hok (fun h => nomatch h)
    | ok r16 =>
      refine va_calli (va_runS (As := [.int r10]) (rest := []) ⟨hx, hb, hml, hown, hts⟩ (cn_X5_found l dC dI cI cZ cC cJ cD H13.size r10 (Except.ok r16) g18 r16 rfl) (cwS 1 hts gX5_versionAt_X5_found rfl rfl rfl hs_X5_found ⟨Nat.le_of_ble_eq_true rfl, Nat.le_of_ble_eq_true rfl⟩) (preS_ hPc hK hDc rfl) rfl rfl hl.1 rfl (lv_room (Nat.le_of_ble_eq_true rfl)) dX5_versionAt_16 ⟨Nat.le_of_ble_eq_true rfl, Nat.le_of_ble_eq_true rfl⟩) hS (fun q _ h => hFc q h) hFc (fun z22 u t H21 locs ht hvm hw hB hz1 hk1 hS => ?_)
      have hw : r16 = z22 := hw.symm
      subst hw
      obtain ⟨hP, hD⟩ := aft_ (Wr := wD_ d0 s0 z0 b0 q0 t0 dhasSaved dkeptError dmoved ++ wS_ s0 v0 f0 r0 ++ wV_ v0 v_keys v_firsts v_ends v_values v_inferred v_gone cI cZ vkeys vfirsts vends vvalues vinferred vgone vmade ++ wF_ f0 f_keys f_days f_amounts f_versions cI fkeys fdays famounts fversions fcount ++ wR_ r0 r_keys r_days r_values cI rkeys rdays rvalues rcount) (Wc' := []) (W2 := wD_ d0 s0 z0 b0 q0 t0 dhasSaved dkeptError dmoved ++ wS_ s0 v0 f0 r0 ++ wV_ v0 v_keys v_firsts v_ends v_values v_inferred v_gone cI cZ vkeys vfirsts vends vvalues vinferred vgone vmade ++ wF_ f0 f_keys f_days f_amounts f_versions cI fkeys fdays famounts fversions fcount ++ wR_ r0 r_keys r_days r_values cI rkeys rdays rvalues rcount) hP hD [] [0, 1, 2, 3, 4, 5, 6, 7, 8, 9, 10, 11, 12, 13, 14, 15, 16, 17] [0, 1, 2, 3, 4, 5, 6, 7, 8, 9, 10, 11, 12, 13, 14, 15, 16, 17] rfl rfl (by decide) (by decide) (by decide) hk1 hFc hB ht rfl
      have hR := Option.some.inj hf
      subst hR
      have hv := Except.ok.inj hok
      subst hv
      exact W.iret (v := r16) hx hb hr (fun t ht hW => ⟨⟨r16, (), rfl, rfl, by rw [ht]; exact hP, va_K.moved hW.alike hK, hD⟩, hS.F ht⟩) hS.2.2 dX5_versionAt_19
abbrev rmn_X5_validOn : Room := { frames := 7, cells := 0, slots := 0, locals := 109 }
set_option maxHeartbeats 4000000 in
set_option maxRecDepth 100000 in
theorem cn_X5_validOn (l : Launch) (dC : Nat → ClassId) (dI : Nat → Nat → Nat) (cI cZ cC cJ cD : ClassId) (d0 s0 z0 b0 q0 t0 v0 f0 r0 v_keys v_firsts v_ends v_values v_inferred v_gone f_keys f_days f_amounts f_versions r_keys r_days r_values : Nat) (sz : Nat) (dhasSaved : Int32) (dkeptError : Int32) (dmoved : Int32) (vkeys : Nat → Int32) (vfirsts : Nat → Int32) (vends : Nat → Int32) (vvalues : Nat → Int32) (vinferred : Nat → Int32) (vgone : Nat → Int32) (vmade : Int32) (fkeys : Nat → Int32) (fdays : Nat → Int32) (famounts : Nat → Int32) (fversions : Nat → Int32) (fcount : Int32) (rkeys : Nat → Int32) (rdays : Nat → Int32) (rvalues : Nat → Int32) (rcount : Int32) (a1 : Int32) (a2 : Int32) (R : Except String Int32) (hf : f_X5_validOn a1 a2 (dhasSaved, dkeptError, dmoved) () (vkeys, vfirsts, vends, vvalues, vinferred, vgone, vmade) (fkeys, fdays, famounts, fversions, fcount) (rkeys, rdays, rvalues, rcount) = some R) (r : Int32) (hok : R = Except.ok r) : Met l yX5_validOn wsX5_validOn rmn_X5_validOn (Pc_ (dC, dI) (ty_ cI cZ cC cJ cD) (wD_ d0 s0 z0 b0 q0 t0 dhasSaved dkeptError dmoved ++ wS_ s0 v0 f0 r0 ++ wV_ v0 v_keys v_firsts v_ends v_values v_inferred v_gone cI cZ vkeys vfirsts vends vvalues vinferred vgone vmade ++ wF_ f0 f_keys f_days f_amounts f_versions cI fkeys fdays famounts fversions fcount ++ wR_ r0 r_keys r_days r_values cI rkeys rdays rvalues rcount) sz [.ref d0, .int a1, .int a2]) (Qi_ (dC, dI) (ty_ cI cZ cC cJ cD) r (wD_ d0 s0 z0 b0 q0 t0 dhasSaved dkeptError dmoved ++ wS_ s0 v0 f0 r0 ++ wV_ v0 v_keys v_firsts v_ends v_values v_inferred v_gone cI cZ vkeys vfirsts vends vvalues vinferred vgone vmade ++ wF_ f0 f_keys f_days f_amounts f_versions cI fkeys fdays famounts fversions fcount ++ wR_ r0 r_keys r_days r_values cI rkeys rdays rvalues rcount) (va_A (wD_ d0 s0 z0 b0 q0 t0 dhasSaved dkeptError dmoved ++ wS_ s0 v0 f0 r0 ++ wV_ v0 v_keys v_firsts v_ends v_values v_inferred v_gone cI cZ vkeys vfirsts vends vvalues vinferred vgone vmade ++ wF_ f0 f_keys f_days f_amounts f_versions cI fkeys fdays famounts fversions fcount ++ wR_ r0 r_keys r_days r_values cI rkeys rdays rvalues rcount) sz)) 0 0 (va_A (wD_ d0 s0 z0 b0 q0 t0 dhasSaved dkeptError dmoved ++ wS_ s0 v0 f0 r0 ++ wV_ v0 v_keys v_firsts v_ends v_values v_inferred v_gone cI cZ vkeys vfirsts vends vvalues vinferred vgone vmade ++ wF_ f0 f_keys f_days f_amounts f_versions cI fkeys fdays famounts fversions fcount ++ wR_ r0 r_keys r_days r_values cI rkeys rdays rvalues rcount) sz) := by
  refine met_ (cc := cX5_validOn) (maxL := 3) (ret := (some .int)) (Qcf := fun A => Qi_ (dC, dI) (ty_ cI cZ cC cJ cD) r (wD_ d0 s0 z0 b0 q0 t0 dhasSaved dkeptError dmoved ++ wS_ s0 v0 f0 r0 ++ wV_ v0 v_keys v_firsts v_ends v_values v_inferred v_gone cI cZ vkeys vfirsts vends vvalues vinferred vgone vmade ++ wF_ f0 f_keys f_days f_amounts f_versions cI fkeys fdays famounts fversions fcount ++ wR_ r0 r_keys r_days r_values cI rkeys rdays rvalues rcount) A) (by decide) rfl (Nat.le_of_ble_eq_true rfl) ?_
  intro p e s m args below meth c A ls hx hb hr hts hown hlocks hml hA hP hK hD hl
  have hown : s.vm.findClass RX5 = some m.cls := hown
  have hl : lv_has ls 3 [(0, .ref d0), (1, .int a1), (2, .int a2)] := hl
  have hS : va_S A s.heap s.heap [] := va_S.rf
  have fl10_ : (Cond.fieldLink RX5 10 "DimensionLoader" "live" "LDimensionLoader$Store;").before args s = true := hts _ (List.mem_of_getElem? (i := 1) rfl)
  have fl51_ : (Cond.fieldLink RX5 51 "DimensionLoader$Store" "versions" "LDimensionLoader$Versions;").before args s = true := hts _ (List.mem_of_getElem? (i := 2) rfl)
  have inX2_ : ∀ w ∈ wsX20, w ∈ wsX5_validOn := in_X5_validOn_X2
  have inX5_ : ∀ w ∈ wsX50, w ∈ wsX5_validOn := in_X5_validOn_X5
  unfold f_X5_validOn at hf
  dsimp only at hf
  refine lv_iload_n hx hb dX5_validOn_0 rfl (lv_at hl 1 rfl) ?_
  obtain ⟨R3, g4, hf⟩ := bd_B hf
  obtain ⟨x1, rfl⟩ : ∃ z, z = R3 := ⟨_, rfl⟩
  have hPc := hP.sub (ws' := []) [] rfl
  have hDc := hD.sub (ws' := []) [] (by decide) rfl
  have hFc := va_free (wc := []) hD hS hA [] rfl
  cases x1 with
  | error E9 =>
    have hR := Option.some.inj hf
    subst hR
    exact absurd hok (fun h => nomatch h)
  | ok _ =>
    refine va_callv (va_runS (As := [.int a1]) (rest := []) ⟨hx, hb, hml, hown, hts⟩ (cn_X5_checkKey l dC dI cI cZ cC cJ cD s.heap.size a1 (Except.ok ()) g4 rfl) (cwS 1 hts gX5_validOn_X5_checkKey rfl rfl rfl hs_X5_checkKey ⟨Nat.le_of_ble_eq_true rfl, Nat.le_of_ble_eq_true rfl⟩) (preS_ hPc hK hDc rfl) rfl rfl hl.1 rfl (lv_room (Nat.le_of_ble_eq_true rfl)) dX5_validOn_1 ⟨Nat.le_of_ble_eq_true rfl, Nat.le_of_ble_eq_true rfl⟩) hS (fun q _ h => hFc q h) hFc (fun u t H7 locs ht hvm hw hB hz1 hk1 hS => ?_)
    obtain ⟨hP, hD⟩ := aft_ (Wr := wD_ d0 s0 z0 b0 q0 t0 dhasSaved dkeptError dmoved ++ wS_ s0 v0 f0 r0 ++ wV_ v0 v_keys v_firsts v_ends v_values v_inferred v_gone cI cZ vkeys vfirsts vends vvalues vinferred vgone vmade ++ wF_ f0 f_keys f_days f_amounts f_versions cI fkeys fdays famounts fversions fcount ++ wR_ r0 r_keys r_days r_values cI rkeys rdays rvalues rcount) (Wc' := []) (W2 := wD_ d0 s0 z0 b0 q0 t0 dhasSaved dkeptError dmoved ++ wS_ s0 v0 f0 r0 ++ wV_ v0 v_keys v_firsts v_ends v_values v_inferred v_gone cI cZ vkeys vfirsts vends vvalues vinferred vgone vmade ++ wF_ f0 f_keys f_days f_amounts f_versions cI fkeys fdays famounts fversions fcount ++ wR_ r0 r_keys r_days r_values cI rkeys rdays rvalues rcount) hP hD [] [0, 1, 2, 3, 4, 5, 6, 7, 8, 9, 10, 11, 12, 13, 14, 15, 16, 17] [0, 1, 2, 3, 4, 5, 6, 7, 8, 9, 10, 11, 12, 13, 14, 15, 16, 17] rfl rfl (by decide) (by decide) (by decide) hk1 hFc hB ht rfl
    refine lv_iload_n hx hb dX5_validOn_4 rfl (lv_at hl 2 rfl) ?_
    obtain ⟨R12, g13, hf⟩ := bd_B hf
    obtain ⟨x10, rfl⟩ : ∃ z, z = R12 := ⟨_, rfl⟩
    have hPc := hP.sub (ws' := []) [] rfl
    have hDc := hD.sub (ws' := []) [] (by decide) rfl
    have hFc := va_free (wc := []) hD hS hA [] rfl
    cases x10 with
    | error E18 =>
      have hR := Option.some.inj hf
      subst hR
      exact absurd hok (fun h => nomatch h)
    | ok _ =>
      refine va_callv (va_runS (As := [.int a2]) (rest := []) ⟨hx, hb, hml, hown, hts⟩ (cn_X5_checkDay l dC dI cI cZ cC cJ cD H7.size a2 (Except.ok ()) g13 rfl) (cwS 1 hts gX5_validOn_X5_checkDay rfl rfl rfl hs_X5_checkDay ⟨Nat.le_of_ble_eq_true rfl, Nat.le_of_ble_eq_true rfl⟩) (preS_ hPc hK hDc rfl) rfl rfl hl.1 rfl (lv_room (Nat.le_of_ble_eq_true rfl)) dX5_validOn_5 ⟨Nat.le_of_ble_eq_true rfl, Nat.le_of_ble_eq_true rfl⟩) hS (fun q _ h => hFc q h) hFc (fun u t H16 locs ht hvm hw hB hz1 hk1 hS => ?_)
      obtain ⟨hP, hD⟩ := aft_ (Wr := wD_ d0 s0 z0 b0 q0 t0 dhasSaved dkeptError dmoved ++ wS_ s0 v0 f0 r0 ++ wV_ v0 v_keys v_firsts v_ends v_values v_inferred v_gone cI cZ vkeys vfirsts vends vvalues vinferred vgone vmade ++ wF_ f0 f_keys f_days f_amounts f_versions cI fkeys fdays famounts fversions fcount ++ wR_ r0 r_keys r_days r_values cI rkeys rdays rvalues rcount) (Wc' := []) (W2 := wD_ d0 s0 z0 b0 q0 t0 dhasSaved dkeptError dmoved ++ wS_ s0 v0 f0 r0 ++ wV_ v0 v_keys v_firsts v_ends v_values v_inferred v_gone cI cZ vkeys vfirsts vends vvalues vinferred vgone vmade ++ wF_ f0 f_keys f_days f_amounts f_versions cI fkeys fdays famounts fversions fcount ++ wR_ r0 r_keys r_days r_values cI rkeys rdays rvalues rcount) hP hD [] [0, 1, 2, 3, 4, 5, 6, 7, 8, 9, 10, 11, 12, 13, 14, 15, 16, 17] [0, 1, 2, 3, 4, 5, 6, 7, 8, 9, 10, 11, 12, 13, 14, 15, 16, 17] rfl rfl (by decide) (by decide) (by decide) hk1 hFc hB ht rfl
      refine lv_aload_n hx hb dX5_validOn_8 rfl (lv_at hl 0 rfl) ?_
      refine va_get (D := (dC, dI)) (ci := 7) (v := .ref s0) (C := RX5) (T := TX5) (N := 8) hx hb hts inX5_ hown hK hP 0 rfl rfl 0 (by decide) fl10_ (fun _ h9 => h9) rfl dX5_validOn_9 ?_
      refine va_get (D := (dC, dI)) (ci := 4) (v := .ref v0) (C := RX2) (T := TX2) (N := 3) hx hb hts inX2_ hown hK hP 1 rfl rfl 0 (by decide) fl51_ (fun _ h9 => h9) rfl dX5_validOn_12 ?_
      refine lv_iload_n hx hb dX5_validOn_15 rfl (lv_at hl 1 rfl) ?_
      refine lv_iload_n hx hb dX5_validOn_16 rfl (lv_at hl 2 rfl) ?_
      obtain ⟨R20, g21, hf⟩ := bd_B hf
      obtain ⟨r19, rfl⟩ : ∃ z, z = R20 := ⟨_, rfl⟩
      have hPc := hP.sub (ws' := wV_ v0 v_keys v_firsts v_ends v_values v_inferred v_gone cI cZ vkeys vfirsts vends vvalues vinferred vgone vmade) [2, 3, 4, 5, 6, 7, 8] rfl
      have hDc := hD.sub (ws' := wV_ v0 v_keys v_firsts v_ends v_values v_inferred v_gone cI cZ vkeys vfirsts vends vvalues vinferred vgone vmade) [2, 3, 4, 5, 6, 7, 8] (by decide) rfl
      have hFc := va_free (wc := wV_ v0 v_keys v_firsts v_ends v_values v_inferred v_gone cI cZ vkeys vfirsts vends vvalues vinferred vgone vmade) hD hS hA [2, 3, 4, 5, 6, 7, 8] rfl
      refine va_calli (va_runV (As := [.int a1, .int a2]) (rest := []) ⟨hx, hb, hml, hown, hts⟩ (c_X4_onDay l dC dI cI cZ cC cJ cD v0 v_keys v_firsts v_ends v_values v_inferred v_gone H16.size vkeys vfirsts vends vvalues vinferred vgone vmade a1 a2 r19 g21) (cwV 2 hts gX5_validOn_X4_onDay rfl rfl rfl hs_X4_onDay ⟨Nat.le_of_ble_eq_true rfl, Nat.le_of_ble_eq_true rfl⟩) (preV_ (ci := 6) (q0 := 0) hPc hK hDc rfl rfl rfl rfl) rfl rfl hl.1 rfl (lv_room (Nat.le_of_ble_eq_true rfl)) dX5_validOn_17 ⟨Nat.le_of_ble_eq_true rfl, Nat.le_of_ble_eq_true rfl⟩) hS (fun q _ h => hFc q h) hFc (fun z23 u t H22 locs ht hvm hw hB hz1 hk1 hS => ?_)
      have hw : r19 = z23 := hw.symm
      subst hw
      obtain ⟨hP, hD⟩ := aft_ (Wr := wD_ d0 s0 z0 b0 q0 t0 dhasSaved dkeptError dmoved ++ wS_ s0 v0 f0 r0 ++ wF_ f0 f_keys f_days f_amounts f_versions cI fkeys fdays famounts fversions fcount ++ wR_ r0 r_keys r_days r_values cI rkeys rdays rvalues rcount) (Wc' := wV_ v0 v_keys v_firsts v_ends v_values v_inferred v_gone cI cZ vkeys vfirsts vends vvalues vinferred vgone vmade) (W2 := wD_ d0 s0 z0 b0 q0 t0 dhasSaved dkeptError dmoved ++ wS_ s0 v0 f0 r0 ++ wV_ v0 v_keys v_firsts v_ends v_values v_inferred v_gone cI cZ vkeys vfirsts vends vvalues vinferred vgone vmade ++ wF_ f0 f_keys f_days f_amounts f_versions cI fkeys fdays famounts fversions fcount ++ wR_ r0 r_keys r_days r_values cI rkeys rdays rvalues rcount) hP hD [2, 3, 4, 5, 6, 7, 8] [0, 1, 9, 10, 11, 12, 13, 14, 15, 16, 17] [0, 1, 11, 12, 13, 14, 15, 16, 17, 2, 3, 4, 5, 6, 7, 8, 9, 10] rfl rfl (by decide) (by decide) (by decide) hk1 hFc hB ht rfl
      obtain ⟨R26, g27, hf⟩ := bd_B hf
      obtain ⟨x24, rfl⟩ : ∃ z, z = R26 := ⟨_, rfl⟩
      have hPc := hP.sub (ws' := []) [] rfl
      have hDc := hD.sub (ws' := []) [] (by decide) rfl
      have hFc := va_free (wc := []) hD hS hA [] rfl
      cases x24 with
      | error E32 =>
        have hR := Option.some.inj hf
        subst hR
        exact absurd hok (fun h => nomatch h)
      | ok r25 =>
        refine va_calli (va_runS (As := [.int r19]) (rest := []) ⟨hx, hb, hml, hown, hts⟩ (cn_X5_found l dC dI cI cZ cC cJ cD H22.size r19 (Except.ok r25) g27 r25 rfl) (cwS 1 hts gX5_validOn_X5_found rfl rfl rfl hs_X5_found ⟨Nat.le_of_ble_eq_true rfl, Nat.le_of_ble_eq_true rfl⟩) (preS_ hPc hK hDc rfl) rfl rfl hl.1 rfl (lv_room (Nat.le_of_ble_eq_true rfl)) dX5_validOn_20 ⟨Nat.le_of_ble_eq_true rfl, Nat.le_of_ble_eq_true rfl⟩) hS (fun q _ h => hFc q h) hFc (fun z31 u t H30 locs ht hvm hw hB hz1 hk1 hS => ?_)
        have hw : r25 = z31 := hw.symm
        subst hw
        obtain ⟨hP, hD⟩ := aft_ (Wr := wD_ d0 s0 z0 b0 q0 t0 dhasSaved dkeptError dmoved ++ wS_ s0 v0 f0 r0 ++ wV_ v0 v_keys v_firsts v_ends v_values v_inferred v_gone cI cZ vkeys vfirsts vends vvalues vinferred vgone vmade ++ wF_ f0 f_keys f_days f_amounts f_versions cI fkeys fdays famounts fversions fcount ++ wR_ r0 r_keys r_days r_values cI rkeys rdays rvalues rcount) (Wc' := []) (W2 := wD_ d0 s0 z0 b0 q0 t0 dhasSaved dkeptError dmoved ++ wS_ s0 v0 f0 r0 ++ wV_ v0 v_keys v_firsts v_ends v_values v_inferred v_gone cI cZ vkeys vfirsts vends vvalues vinferred vgone vmade ++ wF_ f0 f_keys f_days f_amounts f_versions cI fkeys fdays famounts fversions fcount ++ wR_ r0 r_keys r_days r_values cI rkeys rdays rvalues rcount) hP hD [] [0, 1, 2, 3, 4, 5, 6, 7, 8, 9, 10, 11, 12, 13, 14, 15, 16, 17] [0, 1, 2, 3, 4, 5, 6, 7, 8, 9, 10, 11, 12, 13, 14, 15, 16, 17] rfl rfl (by decide) (by decide) (by decide) hk1 hFc hB ht rfl
        have hR := Option.some.inj hf
        subst hR
        have hv := Except.ok.inj hok
        subst hv
        exact W.iret (v := r25) hx hb hr (fun t ht hW => ⟨⟨r25, (), rfl, rfl, by rw [ht]; exact hP, va_K.moved hW.alike hK, hD⟩, hS.F ht⟩) hS.2.2 dX5_validOn_23
abbrev rmn_X5_version : Room := { frames := 7, cells := 0, slots := 0, locals := 110 }
set_option maxHeartbeats 4000000 in
set_option maxRecDepth 100000 in
theorem cn_X5_version (l : Launch) (dC : Nat → ClassId) (dI : Nat → Nat → Nat) (cI cZ cC cJ cD : ClassId) (d0 s0 z0 b0 q0 t0 v0 f0 r0 v_keys v_firsts v_ends v_values v_inferred v_gone f_keys f_days f_amounts f_versions r_keys r_days r_values : Nat) (sz : Nat) (dhasSaved : Int32) (dkeptError : Int32) (dmoved : Int32) (vkeys : Nat → Int32) (vfirsts : Nat → Int32) (vends : Nat → Int32) (vvalues : Nat → Int32) (vinferred : Nat → Int32) (vgone : Nat → Int32) (vmade : Int32) (fkeys : Nat → Int32) (fdays : Nat → Int32) (famounts : Nat → Int32) (fversions : Nat → Int32) (fcount : Int32) (rkeys : Nat → Int32) (rdays : Nat → Int32) (rvalues : Nat → Int32) (rcount : Int32) (a1 : Int32) (a2 : Int32) (R : Except String Int32) (hf : f_X5_version a1 a2 (dhasSaved, dkeptError, dmoved) () (vkeys, vfirsts, vends, vvalues, vinferred, vgone, vmade) (fkeys, fdays, famounts, fversions, fcount) (rkeys, rdays, rvalues, rcount) = some R) (r : Int32) (hok : R = Except.ok r) : Met l yX5_version wsX5_version rmn_X5_version (Pc_ (dC, dI) (ty_ cI cZ cC cJ cD) (wD_ d0 s0 z0 b0 q0 t0 dhasSaved dkeptError dmoved ++ wS_ s0 v0 f0 r0 ++ wV_ v0 v_keys v_firsts v_ends v_values v_inferred v_gone cI cZ vkeys vfirsts vends vvalues vinferred vgone vmade ++ wF_ f0 f_keys f_days f_amounts f_versions cI fkeys fdays famounts fversions fcount ++ wR_ r0 r_keys r_days r_values cI rkeys rdays rvalues rcount) sz [.ref d0, .int a1, .int a2]) (Qi_ (dC, dI) (ty_ cI cZ cC cJ cD) r (wD_ d0 s0 z0 b0 q0 t0 dhasSaved dkeptError dmoved ++ wS_ s0 v0 f0 r0 ++ wV_ v0 v_keys v_firsts v_ends v_values v_inferred v_gone cI cZ vkeys vfirsts vends vvalues vinferred vgone vmade ++ wF_ f0 f_keys f_days f_amounts f_versions cI fkeys fdays famounts fversions fcount ++ wR_ r0 r_keys r_days r_values cI rkeys rdays rvalues rcount) (va_A (wD_ d0 s0 z0 b0 q0 t0 dhasSaved dkeptError dmoved ++ wS_ s0 v0 f0 r0 ++ wV_ v0 v_keys v_firsts v_ends v_values v_inferred v_gone cI cZ vkeys vfirsts vends vvalues vinferred vgone vmade ++ wF_ f0 f_keys f_days f_amounts f_versions cI fkeys fdays famounts fversions fcount ++ wR_ r0 r_keys r_days r_values cI rkeys rdays rvalues rcount) sz)) 0 0 (va_A (wD_ d0 s0 z0 b0 q0 t0 dhasSaved dkeptError dmoved ++ wS_ s0 v0 f0 r0 ++ wV_ v0 v_keys v_firsts v_ends v_values v_inferred v_gone cI cZ vkeys vfirsts vends vvalues vinferred vgone vmade ++ wF_ f0 f_keys f_days f_amounts f_versions cI fkeys fdays famounts fversions fcount ++ wR_ r0 r_keys r_days r_values cI rkeys rdays rvalues rcount) sz) := by
  refine met_ (cc := cX5_version) (maxL := 3) (ret := (some .int)) (Qcf := fun A => Qi_ (dC, dI) (ty_ cI cZ cC cJ cD) r (wD_ d0 s0 z0 b0 q0 t0 dhasSaved dkeptError dmoved ++ wS_ s0 v0 f0 r0 ++ wV_ v0 v_keys v_firsts v_ends v_values v_inferred v_gone cI cZ vkeys vfirsts vends vvalues vinferred vgone vmade ++ wF_ f0 f_keys f_days f_amounts f_versions cI fkeys fdays famounts fversions fcount ++ wR_ r0 r_keys r_days r_values cI rkeys rdays rvalues rcount) A) (by decide) rfl (Nat.le_of_ble_eq_true rfl) ?_
  intro p e s m args below meth c A ls hx hb hr hts hown hlocks hml hA hP hK hD hl
  have hown : s.vm.findClass RX5 = some m.cls := hown
  have hl : lv_has ls 3 [(0, .ref d0), (1, .int a1), (2, .int a2)] := hl
  have hS : va_S A s.heap s.heap [] := va_S.rf
  have fl10_ : (Cond.fieldLink RX5 10 "DimensionLoader" "live" "LDimensionLoader$Store;").before args s = true := hts _ (List.mem_of_getElem? (i := 3) rfl)
  have fl51_ : (Cond.fieldLink RX5 51 "DimensionLoader$Store" "versions" "LDimensionLoader$Versions;").before args s = true := hts _ (List.mem_of_getElem? (i := 4) rfl)
  have fl64_ : (Cond.fieldLink RX5 64 "DimensionLoader$Store" "facts" "LDimensionLoader$Facts;").before args s = true := hts _ (List.mem_of_getElem? (i := 9) rfl)
  have fl88_ : (Cond.fieldLink RX5 88 "DimensionLoader$Versions" "firsts" "[I").before args s = true := hts _ (List.mem_of_getElem? (i := 6) rfl)
  have fl96_ : (Cond.fieldLink RX5 96 "DimensionLoader$Versions" "ends" "[I").before args s = true := hts _ (List.mem_of_getElem? (i := 7) rfl)
  have fl102_ : (Cond.fieldLink RX5 102 "DimensionLoader$Versions" "values" "[I").before args s = true := hts _ (List.mem_of_getElem? (i := 8) rfl)
  have fl145_ : (Cond.fieldLink RX5 145 "DimensionLoader$Versions" "keys" "[I").before args s = true := hts _ (List.mem_of_getElem? (i := 5) rfl)
  have inX2_ : ∀ w ∈ wsX20, w ∈ wsX5_version := in_X5_version_X2
  have inX4_ : ∀ w ∈ wsX40, w ∈ wsX5_version := in_X5_version_X4
  have inX5_ : ∀ w ∈ wsX50, w ∈ wsX5_version := in_X5_version_X5
  unfold f_X5_version at hf
  dsimp only at hf
  refine lv_aload_n hx hb dX5_version_0 rfl (lv_at hl 0 rfl) ?_
  refine lv_iload_n hx hb dX5_version_1 rfl (lv_at hl 1 rfl) ?_
  obtain ⟨R3, g4, hf⟩ := bd_B hf
  obtain ⟨x1, rfl⟩ : ∃ z, z = R3 := ⟨_, rfl⟩
  have hPc := hP
  have hDc := hD
  have hFc := va_free (wc := wD_ d0 s0 z0 b0 q0 t0 dhasSaved dkeptError dmoved ++ wS_ s0 v0 f0 r0 ++ wV_ v0 v_keys v_firsts v_ends v_values v_inferred v_gone cI cZ vkeys vfirsts vends vvalues vinferred vgone vmade ++ wF_ f0 f_keys f_days f_amounts f_versions cI fkeys fdays famounts fversions fcount ++ wR_ r0 r_keys r_days r_values cI rkeys rdays rvalues rcount) hD hS hA [0, 1, 2, 3, 4, 5, 6, 7, 8, 9, 10, 11, 12, 13, 14, 15, 16, 17] rfl
  cases x1 with
  | error E9 =>
    have hR := Option.some.inj hf
    subst hR
    exact absurd hok (fun h => nomatch h)
  | ok _ =>
    refine va_callv (va_runV (As := [.int a1]) (rest := []) ⟨hx, hb, hml, hown, hts⟩ (cn_X5_checkVersion l dC dI cI cZ cC cJ cD d0 s0 z0 b0 q0 t0 v0 f0 r0 v_keys v_firsts v_ends v_values v_inferred v_gone f_keys f_days f_amounts f_versions r_keys r_days r_values s.heap.size dhasSaved dkeptError dmoved vkeys vfirsts vends vvalues vinferred vgone vmade fkeys fdays famounts fversions fcount rkeys rdays rvalues rcount a1 (Except.ok ()) g4 rfl) (cwV 1 hts gX5_version_X5_checkVersion rfl rfl rfl hs_X5_checkVersion ⟨Nat.le_of_ble_eq_true rfl, Nat.le_of_ble_eq_true rfl⟩) (preV_ (ci := 7) (q0 := 0) hPc hK hDc rfl rfl rfl rfl) rfl rfl hl.1 rfl (lv_room (Nat.le_of_ble_eq_true rfl)) dX5_version_2 ⟨Nat.le_of_ble_eq_true rfl, Nat.le_of_ble_eq_true rfl⟩) hS (fun q _ h => hFc q h) hFc (fun u t H7 locs ht hvm hw hB hz1 hk1 hS => ?_)
    obtain ⟨hP, hD⟩ := aft_ (Wr := []) (Wc' := wD_ d0 s0 z0 b0 q0 t0 dhasSaved dkeptError dmoved ++ wS_ s0 v0 f0 r0 ++ wV_ v0 v_keys v_firsts v_ends v_values v_inferred v_gone cI cZ vkeys vfirsts vends vvalues vinferred vgone vmade ++ wF_ f0 f_keys f_days f_amounts f_versions cI fkeys fdays famounts fversions fcount ++ wR_ r0 r_keys r_days r_values cI rkeys rdays rvalues rcount) (W2 := wD_ d0 s0 z0 b0 q0 t0 dhasSaved dkeptError dmoved ++ wS_ s0 v0 f0 r0 ++ wV_ v0 v_keys v_firsts v_ends v_values v_inferred v_gone cI cZ vkeys vfirsts vends vvalues vinferred vgone vmade ++ wF_ f0 f_keys f_days f_amounts f_versions cI fkeys fdays famounts fversions fcount ++ wR_ r0 r_keys r_days r_values cI rkeys rdays rvalues rcount) hP hD [0, 1, 2, 3, 4, 5, 6, 7, 8, 9, 10, 11, 12, 13, 14, 15, 16, 17] [] [0, 1, 2, 3, 4, 5, 6, 7, 8, 9, 10, 11, 12, 13, 14, 15, 16, 17] rfl rfl (by decide) (by decide) (by decide) hk1 hFc hB ht rfl
    refine lv_iload_n hx hb dX5_version_5 rfl (lv_at hl 2 rfl) ?_
    by_cases c10 : a2 = 0
    · have hf := ite_T c10 hf
      refine lv_tableIn (tgt := 44) (off := 38) hx hb dX5_version_6 (by rw [c10]; decide) (by rw [c10]; decide) (by rw [c10]; rfl) (by decide) ?_
      refine lv_aload_n hx hb dX5_version_44 rfl (lv_at hl 0 rfl) ?_
      refine va_get (D := (dC, dI)) (ci := 7) (v := .ref s0) (C := RX5) (T := TX5) (N := 8) hx hb hts inX5_ hown hK hP 0 rfl rfl 0 (by decide) fl10_ (fun _ h9 => h9) rfl dX5_version_45 ?_
      refine va_get (D := (dC, dI)) (ci := 4) (v := .ref v0) (C := RX2) (T := TX2) (N := 3) hx hb hts inX2_ hown hK hP 1 rfl rfl 0 (by decide) fl51_ (fun _ h9 => h9) rfl dX5_version_48 ?_
      refine va_get (D := (dC, dI)) (ci := 6) (v := .ref v_keys) (C := RX4) (T := TX4) (N := 7) hx hb hts inX4_ hown hK hP 2 rfl rfl 0 (by decide) fl145_ (fun _ h9 => h9) rfl dX5_version_51 ?_
      refine lv_iload_n hx hb dX5_version_54 rfl (lv_at hl 1 rfl) ?_
      obtain ⟨h11, hf⟩ := gd_T hf
      refine va_iald hx hb hK hP 3 0 rfl rfl h11 dX5_version_55 ?_
      have hR := Option.some.inj hf
      subst hR
      have hv := Except.ok.inj hok
      subst hv
      exact W.iret (v := vkeys a1.toNatClampNeg) hx hb hr (fun t ht hW => ⟨⟨vkeys a1.toNatClampNeg, (), rfl, rfl, by rw [ht]; exact hP, va_K.moved hW.alike hK, hD⟩, hS.F ht⟩) hS.2.2 dX5_version_56
    · have hf := ite_F c10 hf
      by_cases c12 : a2 = 1
      · have hf := ite_T c12 hf
        refine lv_tableIn (tgt := 57) (off := 51) hx hb dX5_version_6 (by rw [c12]; decide) (by rw [c12]; decide) (by rw [c12]; rfl) (by decide) ?_
        refine lv_aload_n hx hb dX5_version_57 rfl (lv_at hl 0 rfl) ?_
        refine va_get (D := (dC, dI)) (ci := 7) (v := .ref s0) (C := RX5) (T := TX5) (N := 8) hx hb hts inX5_ hown hK hP 0 rfl rfl 0 (by decide) fl10_ (fun _ h9 => h9) rfl dX5_version_58 ?_
        refine va_get (D := (dC, dI)) (ci := 4) (v := .ref v0) (C := RX2) (T := TX2) (N := 3) hx hb hts inX2_ hown hK hP 1 rfl rfl 0 (by decide) fl51_ (fun _ h9 => h9) rfl dX5_version_61 ?_
        refine va_get (D := (dC, dI)) (ci := 6) (v := .ref v_firsts) (C := RX4) (T := TX4) (N := 7) hx hb hts inX4_ hown hK hP 2 rfl rfl 1 (by decide) fl88_ (fun _ h9 => h9) rfl dX5_version_64 ?_
        refine lv_iload_n hx hb dX5_version_67 rfl (lv_at hl 1 rfl) ?_
        obtain ⟨h13, hf⟩ := gd_T hf
        refine va_iald hx hb hK hP 4 0 rfl rfl h13 dX5_version_68 ?_
        have hR := Option.some.inj hf
        subst hR
        have hv := Except.ok.inj hok
        subst hv
        exact W.iret (v := vfirsts a1.toNatClampNeg) hx hb hr (fun t ht hW => ⟨⟨vfirsts a1.toNatClampNeg, (), rfl, rfl, by rw [ht]; exact hP, va_K.moved hW.alike hK, hD⟩, hS.F ht⟩) hS.2.2 dX5_version_69
      · have hf := ite_F c12 hf
        by_cases c14 : a2 = 2
        · have hf := ite_T c14 hf
          refine lv_tableIn (tgt := 70) (off := 64) hx hb dX5_version_6 (by rw [c14]; decide) (by rw [c14]; decide) (by rw [c14]; rfl) (by decide) ?_
          refine lv_aload_n hx hb dX5_version_70 rfl (lv_at hl 0 rfl) ?_
          refine va_get (D := (dC, dI)) (ci := 7) (v := .ref s0) (C := RX5) (T := TX5) (N := 8) hx hb hts inX5_ hown hK hP 0 rfl rfl 0 (by decide) fl10_ (fun _ h9 => h9) rfl dX5_version_71 ?_
          refine va_get (D := (dC, dI)) (ci := 4) (v := .ref v0) (C := RX2) (T := TX2) (N := 3) hx hb hts inX2_ hown hK hP 1 rfl rfl 0 (by decide) fl51_ (fun _ h9 => h9) rfl dX5_version_74 ?_
          refine va_get (D := (dC, dI)) (ci := 6) (v := .ref v_ends) (C := RX4) (T := TX4) (N := 7) hx hb hts inX4_ hown hK hP 2 rfl rfl 2 (by decide) fl96_ (fun _ h9 => h9) rfl dX5_version_77 ?_
          refine lv_iload_n hx hb dX5_version_80 rfl (lv_at hl 1 rfl) ?_
          obtain ⟨h15, hf⟩ := gd_T hf
          refine va_iald hx hb hK hP 5 0 rfl rfl h15 dX5_version_81 ?_
          have hR := Option.some.inj hf
          subst hR
          have hv := Except.ok.inj hok
          subst hv
          exact W.iret (v := vends a1.toNatClampNeg) hx hb hr (fun t ht hW => ⟨⟨vends a1.toNatClampNeg, (), rfl, rfl, by rw [ht]; exact hP, va_K.moved hW.alike hK, hD⟩, hS.F ht⟩) hS.2.2 dX5_version_82
        · have hf := ite_F c14 hf
          by_cases c16 : a2 = 3
          · have hf := ite_T c16 hf
            refine lv_tableIn (tgt := 83) (off := 77) hx hb dX5_version_6 (by rw [c16]; decide) (by rw [c16]; decide) (by rw [c16]; rfl) (by decide) ?_
            refine lv_aload_n hx hb dX5_version_83 rfl (lv_at hl 0 rfl) ?_
            refine va_get (D := (dC, dI)) (ci := 7) (v := .ref s0) (C := RX5) (T := TX5) (N := 8) hx hb hts inX5_ hown hK hP 0 rfl rfl 0 (by decide) fl10_ (fun _ h9 => h9) rfl dX5_version_84 ?_
            refine va_get (D := (dC, dI)) (ci := 4) (v := .ref v0) (C := RX2) (T := TX2) (N := 3) hx hb hts inX2_ hown hK hP 1 rfl rfl 0 (by decide) fl51_ (fun _ h9 => h9) rfl dX5_version_87 ?_
            refine va_get (D := (dC, dI)) (ci := 6) (v := .ref v_values) (C := RX4) (T := TX4) (N := 7) hx hb hts inX4_ hown hK hP 2 rfl rfl 3 (by decide) fl102_ (fun _ h9 => h9) rfl dX5_version_90 ?_
            refine lv_iload_n hx hb dX5_version_93 rfl (lv_at hl 1 rfl) ?_
            obtain ⟨h17, hf⟩ := gd_T hf
            refine va_iald hx hb hK hP 6 0 rfl rfl h17 dX5_version_94 ?_
            have hR := Option.some.inj hf
            subst hR
            have hv := Except.ok.inj hok
            subst hv
            exact W.iret (v := vvalues a1.toNatClampNeg) hx hb hr (fun t ht hW => ⟨⟨vvalues a1.toNatClampNeg, (), rfl, rfl, by rw [ht]; exact hP, va_K.moved hW.alike hK, hD⟩, hS.F ht⟩) hS.2.2 dX5_version_95
          · have hf := ite_F c16 hf
            by_cases c18 : a2 = 4
            · have hf := ite_T c18 hf
              refine lv_tableIn (tgt := 96) (off := 90) hx hb dX5_version_6 (by rw [c18]; decide) (by rw [c18]; decide) (by rw [c18]; rfl) (by decide) ?_
              refine lv_aload_n hx hb dX5_version_96 rfl (lv_at hl 0 rfl) ?_
              refine va_get (D := (dC, dI)) (ci := 7) (v := .ref s0) (C := RX5) (T := TX5) (N := 8) hx hb hts inX5_ hown hK hP 0 rfl rfl 0 (by decide) fl10_ (fun _ h9 => h9) rfl dX5_version_97 ?_
              refine va_get (D := (dC, dI)) (ci := 4) (v := .ref f0) (C := RX2) (T := TX2) (N := 3) hx hb hts inX2_ hown hK hP 1 rfl rfl 1 (by decide) fl64_ (fun _ h9 => h9) rfl dX5_version_100 ?_
              refine lv_iload_n hx hb dX5_version_103 rfl (lv_at hl 1 rfl) ?_
              obtain ⟨R20, g21, hf⟩ := bd_B hf
              obtain ⟨r19, rfl⟩ : ∃ z, z = R20 := ⟨_, rfl⟩
              have hPc := hP.sub (ws' := wF_ f0 f_keys f_days f_amounts f_versions cI fkeys fdays famounts fversions fcount) [9, 10, 11, 12, 13] rfl
              have hDc := hD.sub (ws' := wF_ f0 f_keys f_days f_amounts f_versions cI fkeys fdays famounts fversions fcount) [9, 10, 11, 12, 13] (by decide) rfl
              have hFc := va_free (wc := wF_ f0 f_keys f_days f_amounts f_versions cI fkeys fdays famounts fversions fcount) hD hS hA [9, 10, 11, 12, 13] rfl
              refine va_calli (va_runV (As := [.int a1]) (rest := []) ⟨hx, hb, hml, hown, hts⟩ (c_X0_countOf l dC dI cI cZ cC cJ cD f0 f_keys f_days f_amounts f_versions H7.size fkeys fdays famounts fversions fcount a1 r19 g21) (cwV 1 hts gX5_version_X0_countOf rfl rfl rfl hs_X0_countOf ⟨Nat.le_of_ble_eq_true rfl, Nat.le_of_ble_eq_true rfl⟩) (preV_ (ci := 2) (q0 := 0) hPc hK hDc rfl rfl rfl rfl) rfl rfl hl.1 rfl (lv_room (Nat.le_of_ble_eq_true rfl)) dX5_version_104 ⟨Nat.le_of_ble_eq_true rfl, Nat.le_of_ble_eq_true rfl⟩) hS (fun q _ h => hFc q h) hFc (fun z23 u t H22 locs ht hvm hw hB hz1 hk1 hS => ?_)
              have hw : r19 = z23 := hw.symm
              subst hw
              obtain ⟨hP, hD⟩ := aft_ (Wr := wD_ d0 s0 z0 b0 q0 t0 dhasSaved dkeptError dmoved ++ wS_ s0 v0 f0 r0 ++ wV_ v0 v_keys v_firsts v_ends v_values v_inferred v_gone cI cZ vkeys vfirsts vends vvalues vinferred vgone vmade ++ wR_ r0 r_keys r_days r_values cI rkeys rdays rvalues rcount) (Wc' := wF_ f0 f_keys f_days f_amounts f_versions cI fkeys fdays famounts fversions fcount) (W2 := wD_ d0 s0 z0 b0 q0 t0 dhasSaved dkeptError dmoved ++ wS_ s0 v0 f0 r0 ++ wV_ v0 v_keys v_firsts v_ends v_values v_inferred v_gone cI cZ vkeys vfirsts vends vvalues vinferred vgone vmade ++ wF_ f0 f_keys f_days f_amounts f_versions cI fkeys fdays famounts fversions fcount ++ wR_ r0 r_keys r_days r_values cI rkeys rdays rvalues rcount) hP hD [9, 10, 11, 12, 13] [0, 1, 2, 3, 4, 5, 6, 7, 8, 14, 15, 16, 17] [0, 1, 2, 3, 4, 5, 6, 7, 8, 13, 14, 15, 16, 17, 9, 10, 11, 12] rfl rfl (by decide) (by decide) (by decide) hk1 hFc hB ht rfl
              have hR := Option.some.inj hf
              subst hR
              have hv := Except.ok.inj hok
              subst hv
              exact W.iret (v := r19) hx hb hr (fun t ht hW => ⟨⟨r19, (), rfl, rfl, by rw [ht]; exact hP, va_K.moved hW.alike hK, hD⟩, hS.F ht⟩) hS.2.2 dX5_version_107
            · have hf := ite_F c18 hf
              by_cases c24 : a2 = 5
              · have hf := ite_T c24 hf
                refine lv_tableIn (tgt := 108) (off := 102) hx hb dX5_version_6 (by rw [c24]; decide) (by rw [c24]; decide) (by rw [c24]; rfl) (by decide) ?_
                refine lv_aload_n hx hb dX5_version_108 rfl (lv_at hl 0 rfl) ?_
                refine va_get (D := (dC, dI)) (ci := 7) (v := .ref s0) (C := RX5) (T := TX5) (N := 8) hx hb hts inX5_ hown hK hP 0 rfl rfl 0 (by decide) fl10_ (fun _ h9 => h9) rfl dX5_version_109 ?_
                refine va_get (D := (dC, dI)) (ci := 4) (v := .ref v0) (C := RX2) (T := TX2) (N := 3) hx hb hts inX2_ hown hK hP 1 rfl rfl 0 (by decide) fl51_ (fun _ h9 => h9) rfl dX5_version_112 ?_
                refine lv_iload_n hx hb dX5_version_115 rfl (lv_at hl 1 rfl) ?_
                obtain ⟨R26, g27, hf⟩ := bd_B hf
                obtain ⟨r25, rfl⟩ : ∃ z, z = R26 := ⟨_, rfl⟩
                have hPc := hP.sub (ws' := wV_ v0 v_keys v_firsts v_ends v_values v_inferred v_gone cI cZ vkeys vfirsts vends vvalues vinferred vgone vmade) [2, 3, 4, 5, 6, 7, 8] rfl
                have hDc := hD.sub (ws' := wV_ v0 v_keys v_firsts v_ends v_values v_inferred v_gone cI cZ vkeys vfirsts vends vvalues vinferred vgone vmade) [2, 3, 4, 5, 6, 7, 8] (by decide) rfl
                have hFc := va_free (wc := wV_ v0 v_keys v_firsts v_ends v_values v_inferred v_gone cI cZ vkeys vfirsts vends vvalues vinferred vgone vmade) hD hS hA [2, 3, 4, 5, 6, 7, 8] rfl
                refine va_calli (va_runV (As := [.int a1]) (rest := []) ⟨hx, hb, hml, hown, hts⟩ (c_X4_days l dC dI cI cZ cC cJ cD v0 v_keys v_firsts v_ends v_values v_inferred v_gone H7.size vkeys vfirsts vends vvalues vinferred vgone vmade a1 r25 g27) (cwV 1 hts gX5_version_X4_days rfl rfl rfl hs_X4_days ⟨Nat.le_of_ble_eq_true rfl, Nat.le_of_ble_eq_true rfl⟩) (preV_ (ci := 6) (q0 := 0) hPc hK hDc rfl rfl rfl rfl) rfl rfl hl.1 rfl (lv_room (Nat.le_of_ble_eq_true rfl)) dX5_version_116 ⟨Nat.le_of_ble_eq_true rfl, Nat.le_of_ble_eq_true rfl⟩) hS (fun q _ h => hFc q h) hFc (fun z29 u t H28 locs ht hvm hw hB hz1 hk1 hS => ?_)
                have hw : r25 = z29 := hw.symm
                subst hw
                obtain ⟨hP, hD⟩ := aft_ (Wr := wD_ d0 s0 z0 b0 q0 t0 dhasSaved dkeptError dmoved ++ wS_ s0 v0 f0 r0 ++ wF_ f0 f_keys f_days f_amounts f_versions cI fkeys fdays famounts fversions fcount ++ wR_ r0 r_keys r_days r_values cI rkeys rdays rvalues rcount) (Wc' := wV_ v0 v_keys v_firsts v_ends v_values v_inferred v_gone cI cZ vkeys vfirsts vends vvalues vinferred vgone vmade) (W2 := wD_ d0 s0 z0 b0 q0 t0 dhasSaved dkeptError dmoved ++ wS_ s0 v0 f0 r0 ++ wV_ v0 v_keys v_firsts v_ends v_values v_inferred v_gone cI cZ vkeys vfirsts vends vvalues vinferred vgone vmade ++ wF_ f0 f_keys f_days f_amounts f_versions cI fkeys fdays famounts fversions fcount ++ wR_ r0 r_keys r_days r_values cI rkeys rdays rvalues rcount) hP hD [2, 3, 4, 5, 6, 7, 8] [0, 1, 9, 10, 11, 12, 13, 14, 15, 16, 17] [0, 1, 11, 12, 13, 14, 15, 16, 17, 2, 3, 4, 5, 6, 7, 8, 9, 10] rfl rfl (by decide) (by decide) (by decide) hk1 hFc hB ht rfl
                have hR := Option.some.inj hf
                subst hR
                have hv := Except.ok.inj hok
                subst hv
                exact W.iret (v := r25) hx hb hr (fun t ht hW => ⟨⟨r25, (), rfl, rfl, by rw [ht]; exact hP, va_K.moved hW.alike hK, hD⟩, hS.F ht⟩) hS.2.2 dX5_version_119
              · have hf := ite_F c24 hf
                have t0_ := ne_L c10 (show (0 : Int32).toInt = 0 by decide)
                have t1_ := ne_L c12 (show (1 : Int32).toInt = 1 by decide)
                have t2_ := ne_L c14 (show (2 : Int32).toInt = 2 by decide)
                have t3_ := ne_L c16 (show (3 : Int32).toInt = 3 by decide)
                have t4_ := ne_L c18 (show (4 : Int32).toInt = 4 by decide)
                have t5_ := ne_L c24 (show (5 : Int32).toInt = 5 by decide)
                refine lv_tableOut (tgt := 120) hx hb dX5_version_6 (by omega) (by decide) ?_
                have hR := Option.some.inj hf
                subst hR
                exact absurd hok (fun h => nomatch h)
abbrev rmn_X5_isInferred : Room := { frames := 7, cells := 0, slots := 0, locals := 110 }
set_option maxHeartbeats 4000000 in
set_option maxRecDepth 100000 in
theorem cn_X5_isInferred (l : Launch) (dC : Nat → ClassId) (dI : Nat → Nat → Nat) (cI cZ cC cJ cD : ClassId) (d0 s0 z0 b0 q0 t0 v0 f0 r0 v_keys v_firsts v_ends v_values v_inferred v_gone f_keys f_days f_amounts f_versions r_keys r_days r_values : Nat) (sz : Nat) (dhasSaved : Int32) (dkeptError : Int32) (dmoved : Int32) (vkeys : Nat → Int32) (vfirsts : Nat → Int32) (vends : Nat → Int32) (vvalues : Nat → Int32) (vinferred : Nat → Int32) (vgone : Nat → Int32) (vmade : Int32) (fkeys : Nat → Int32) (fdays : Nat → Int32) (famounts : Nat → Int32) (fversions : Nat → Int32) (fcount : Int32) (rkeys : Nat → Int32) (rdays : Nat → Int32) (rvalues : Nat → Int32) (rcount : Int32) (a1 : Int32) (R : Except String Int32) (hf : f_X5_isInferred a1 (dhasSaved, dkeptError, dmoved) () (vkeys, vfirsts, vends, vvalues, vinferred, vgone, vmade) (fkeys, fdays, famounts, fversions, fcount) (rkeys, rdays, rvalues, rcount) = some R) (r : Int32) (hok : R = Except.ok r) : Met l yX5_isInferred wsX5_isInferred rmn_X5_isInferred (Pc_ (dC, dI) (ty_ cI cZ cC cJ cD) (wD_ d0 s0 z0 b0 q0 t0 dhasSaved dkeptError dmoved ++ wS_ s0 v0 f0 r0 ++ wV_ v0 v_keys v_firsts v_ends v_values v_inferred v_gone cI cZ vkeys vfirsts vends vvalues vinferred vgone vmade ++ wF_ f0 f_keys f_days f_amounts f_versions cI fkeys fdays famounts fversions fcount ++ wR_ r0 r_keys r_days r_values cI rkeys rdays rvalues rcount) sz [.ref d0, .int a1]) (Qi_ (dC, dI) (ty_ cI cZ cC cJ cD) r (wD_ d0 s0 z0 b0 q0 t0 dhasSaved dkeptError dmoved ++ wS_ s0 v0 f0 r0 ++ wV_ v0 v_keys v_firsts v_ends v_values v_inferred v_gone cI cZ vkeys vfirsts vends vvalues vinferred vgone vmade ++ wF_ f0 f_keys f_days f_amounts f_versions cI fkeys fdays famounts fversions fcount ++ wR_ r0 r_keys r_days r_values cI rkeys rdays rvalues rcount) (va_A (wD_ d0 s0 z0 b0 q0 t0 dhasSaved dkeptError dmoved ++ wS_ s0 v0 f0 r0 ++ wV_ v0 v_keys v_firsts v_ends v_values v_inferred v_gone cI cZ vkeys vfirsts vends vvalues vinferred vgone vmade ++ wF_ f0 f_keys f_days f_amounts f_versions cI fkeys fdays famounts fversions fcount ++ wR_ r0 r_keys r_days r_values cI rkeys rdays rvalues rcount) sz)) 0 0 (va_A (wD_ d0 s0 z0 b0 q0 t0 dhasSaved dkeptError dmoved ++ wS_ s0 v0 f0 r0 ++ wV_ v0 v_keys v_firsts v_ends v_values v_inferred v_gone cI cZ vkeys vfirsts vends vvalues vinferred vgone vmade ++ wF_ f0 f_keys f_days f_amounts f_versions cI fkeys fdays famounts fversions fcount ++ wR_ r0 r_keys r_days r_values cI rkeys rdays rvalues rcount) sz) := by
  refine met_ (cc := cX5_isInferred) (maxL := 2) (ret := (some .boolean)) (Qcf := fun A => Qi_ (dC, dI) (ty_ cI cZ cC cJ cD) r (wD_ d0 s0 z0 b0 q0 t0 dhasSaved dkeptError dmoved ++ wS_ s0 v0 f0 r0 ++ wV_ v0 v_keys v_firsts v_ends v_values v_inferred v_gone cI cZ vkeys vfirsts vends vvalues vinferred vgone vmade ++ wF_ f0 f_keys f_days f_amounts f_versions cI fkeys fdays famounts fversions fcount ++ wR_ r0 r_keys r_days r_values cI rkeys rdays rvalues rcount) A) (by decide) rfl (Nat.le_of_ble_eq_true rfl) ?_
  intro p e s m args below meth c A ls hx hb hr hts hown hlocks hml hA hP hK hD hl
  have hown : s.vm.findClass RX5 = some m.cls := hown
  have hl : lv_has ls 2 [(0, .ref d0), (1, .int a1)] := hl
  have hS : va_S A s.heap s.heap [] := va_S.rf
  have fl10_ : (Cond.fieldLink RX5 10 "DimensionLoader" "live" "LDimensionLoader$Store;").before args s = true := hts _ (List.mem_of_getElem? (i := 1) rfl)
  have fl51_ : (Cond.fieldLink RX5 51 "DimensionLoader$Store" "versions" "LDimensionLoader$Versions;").before args s = true := hts _ (List.mem_of_getElem? (i := 2) rfl)
  have fl154_ : (Cond.fieldLink RX5 154 "DimensionLoader$Versions" "inferred" "[Z").before args s = true := hts _ (List.mem_of_getElem? (i := 3) rfl)
  have inX2_ : ∀ w ∈ wsX20, w ∈ wsX5_isInferred := in_X5_isInferred_X2
  have inX4_ : ∀ w ∈ wsX40, w ∈ wsX5_isInferred := in_X5_isInferred_X4
  have inX5_ : ∀ w ∈ wsX50, w ∈ wsX5_isInferred := in_X5_isInferred_X5
  unfold f_X5_isInferred at hf
  dsimp only at hf
  refine lv_aload_n hx hb dX5_isInferred_0 rfl (lv_at hl 0 rfl) ?_
  refine lv_iload_n hx hb dX5_isInferred_1 rfl (lv_at hl 1 rfl) ?_
  obtain ⟨R3, g4, hf⟩ := bd_B hf
  obtain ⟨x1, rfl⟩ : ∃ z, z = R3 := ⟨_, rfl⟩
  have hPc := hP
  have hDc := hD
  have hFc := va_free (wc := wD_ d0 s0 z0 b0 q0 t0 dhasSaved dkeptError dmoved ++ wS_ s0 v0 f0 r0 ++ wV_ v0 v_keys v_firsts v_ends v_values v_inferred v_gone cI cZ vkeys vfirsts vends vvalues vinferred vgone vmade ++ wF_ f0 f_keys f_days f_amounts f_versions cI fkeys fdays famounts fversions fcount ++ wR_ r0 r_keys r_days r_values cI rkeys rdays rvalues rcount) hD hS hA [0, 1, 2, 3, 4, 5, 6, 7, 8, 9, 10, 11, 12, 13, 14, 15, 16, 17] rfl
  cases x1 with
  | error E9 =>
    have hR := Option.some.inj hf
    subst hR
    exact absurd hok (fun h => nomatch h)
  | ok _ =>
    refine va_callv (va_runV (As := [.int a1]) (rest := []) ⟨hx, hb, hml, hown, hts⟩ (cn_X5_checkVersion l dC dI cI cZ cC cJ cD d0 s0 z0 b0 q0 t0 v0 f0 r0 v_keys v_firsts v_ends v_values v_inferred v_gone f_keys f_days f_amounts f_versions r_keys r_days r_values s.heap.size dhasSaved dkeptError dmoved vkeys vfirsts vends vvalues vinferred vgone vmade fkeys fdays famounts fversions fcount rkeys rdays rvalues rcount a1 (Except.ok ()) g4 rfl) (cwV 1 hts gX5_isInferred_X5_checkVersion rfl rfl rfl hs_X5_checkVersion ⟨Nat.le_of_ble_eq_true rfl, Nat.le_of_ble_eq_true rfl⟩) (preV_ (ci := 7) (q0 := 0) hPc hK hDc rfl rfl rfl rfl) rfl rfl hl.1 rfl (lv_room (Nat.le_of_ble_eq_true rfl)) dX5_isInferred_2 ⟨Nat.le_of_ble_eq_true rfl, Nat.le_of_ble_eq_true rfl⟩) hS (fun q _ h => hFc q h) hFc (fun u t H7 locs ht hvm hw hB hz1 hk1 hS => ?_)
    obtain ⟨hP, hD⟩ := aft_ (Wr := []) (Wc' := wD_ d0 s0 z0 b0 q0 t0 dhasSaved dkeptError dmoved ++ wS_ s0 v0 f0 r0 ++ wV_ v0 v_keys v_firsts v_ends v_values v_inferred v_gone cI cZ vkeys vfirsts vends vvalues vinferred vgone vmade ++ wF_ f0 f_keys f_days f_amounts f_versions cI fkeys fdays famounts fversions fcount ++ wR_ r0 r_keys r_days r_values cI rkeys rdays rvalues rcount) (W2 := wD_ d0 s0 z0 b0 q0 t0 dhasSaved dkeptError dmoved ++ wS_ s0 v0 f0 r0 ++ wV_ v0 v_keys v_firsts v_ends v_values v_inferred v_gone cI cZ vkeys vfirsts vends vvalues vinferred vgone vmade ++ wF_ f0 f_keys f_days f_amounts f_versions cI fkeys fdays famounts fversions fcount ++ wR_ r0 r_keys r_days r_values cI rkeys rdays rvalues rcount) hP hD [0, 1, 2, 3, 4, 5, 6, 7, 8, 9, 10, 11, 12, 13, 14, 15, 16, 17] [] [0, 1, 2, 3, 4, 5, 6, 7, 8, 9, 10, 11, 12, 13, 14, 15, 16, 17] rfl rfl (by decide) (by decide) (by decide) hk1 hFc hB ht rfl
    refine lv_aload_n hx hb dX5_isInferred_5 rfl (lv_at hl 0 rfl) ?_
    refine va_get (D := (dC, dI)) (ci := 7) (v := .ref s0) (C := RX5) (T := TX5) (N := 8) hx hb hts inX5_ hown hK hP 0 rfl rfl 0 (by decide) fl10_ (fun _ h9 => h9) rfl dX5_isInferred_6 ?_
    refine va_get (D := (dC, dI)) (ci := 4) (v := .ref v0) (C := RX2) (T := TX2) (N := 3) hx hb hts inX2_ hown hK hP 1 rfl rfl 0 (by decide) fl51_ (fun _ h9 => h9) rfl dX5_isInferred_9 ?_
    refine va_get (D := (dC, dI)) (ci := 6) (v := .ref v_inferred) (C := RX4) (T := TX4) (N := 7) hx hb hts inX4_ hown hK hP 2 rfl rfl 4 (by decide) fl154_ (fun _ h9 => h9) rfl dX5_isInferred_12 ?_
    refine lv_iload_n hx hb dX5_isInferred_15 rfl (lv_at hl 1 rfl) ?_
    obtain ⟨h10, hf⟩ := gd_T hf
    refine va_zald hx hb hK hP 7 1 rfl rfl h10 dX5_isInferred_16 ?_
    obtain ⟨h11, hf⟩ := gb_T hf
    have hR := Option.some.inj hf
    subst hR
    have hv := Except.ok.inj hok
    subst hv
    exact W.zret (v := vinferred a1.toNatClampNeg) hx hb hr (nar_b h11) (fun t ht hW => ⟨⟨vinferred a1.toNatClampNeg, (), rfl, rfl, by rw [ht]; exact hP, va_K.moved hW.alike hK, hD⟩, hS.F ht⟩) hS.2.2 dX5_isInferred_17
abbrev rmn_X5_fact : Room := { frames := 2, cells := 0, slots := 0, locals := 42 }
set_option maxHeartbeats 4000000 in
set_option maxRecDepth 100000 in
theorem cn_X5_fact (l : Launch) (dC : Nat → ClassId) (dI : Nat → Nat → Nat) (cI cZ cC cJ cD : ClassId) (d0 s0 z0 b0 q0 t0 v0 f0 r0 v_keys v_firsts v_ends v_values v_inferred v_gone f_keys f_days f_amounts f_versions r_keys r_days r_values : Nat) (sz : Nat) (dhasSaved : Int32) (dkeptError : Int32) (dmoved : Int32) (vkeys : Nat → Int32) (vfirsts : Nat → Int32) (vends : Nat → Int32) (vvalues : Nat → Int32) (vinferred : Nat → Int32) (vgone : Nat → Int32) (vmade : Int32) (fkeys : Nat → Int32) (fdays : Nat → Int32) (famounts : Nat → Int32) (fversions : Nat → Int32) (fcount : Int32) (rkeys : Nat → Int32) (rdays : Nat → Int32) (rvalues : Nat → Int32) (rcount : Int32) (a1 : Int32) (a2 : Int32) (R : Except String Int32) (hf : f_X5_fact a1 a2 (dhasSaved, dkeptError, dmoved) () (vkeys, vfirsts, vends, vvalues, vinferred, vgone, vmade) (fkeys, fdays, famounts, fversions, fcount) (rkeys, rdays, rvalues, rcount) = some R) (r : Int32) (hok : R = Except.ok r) : Met l yX5_fact wsX5_fact rmn_X5_fact (Pc_ (dC, dI) (ty_ cI cZ cC cJ cD) (wD_ d0 s0 z0 b0 q0 t0 dhasSaved dkeptError dmoved ++ wS_ s0 v0 f0 r0 ++ wV_ v0 v_keys v_firsts v_ends v_values v_inferred v_gone cI cZ vkeys vfirsts vends vvalues vinferred vgone vmade ++ wF_ f0 f_keys f_days f_amounts f_versions cI fkeys fdays famounts fversions fcount ++ wR_ r0 r_keys r_days r_values cI rkeys rdays rvalues rcount) sz [.ref d0, .int a1, .int a2]) (Qi_ (dC, dI) (ty_ cI cZ cC cJ cD) r (wD_ d0 s0 z0 b0 q0 t0 dhasSaved dkeptError dmoved ++ wS_ s0 v0 f0 r0 ++ wV_ v0 v_keys v_firsts v_ends v_values v_inferred v_gone cI cZ vkeys vfirsts vends vvalues vinferred vgone vmade ++ wF_ f0 f_keys f_days f_amounts f_versions cI fkeys fdays famounts fversions fcount ++ wR_ r0 r_keys r_days r_values cI rkeys rdays rvalues rcount) (va_A (wD_ d0 s0 z0 b0 q0 t0 dhasSaved dkeptError dmoved ++ wS_ s0 v0 f0 r0 ++ wV_ v0 v_keys v_firsts v_ends v_values v_inferred v_gone cI cZ vkeys vfirsts vends vvalues vinferred vgone vmade ++ wF_ f0 f_keys f_days f_amounts f_versions cI fkeys fdays famounts fversions fcount ++ wR_ r0 r_keys r_days r_values cI rkeys rdays rvalues rcount) sz)) 0 0 (va_A (wD_ d0 s0 z0 b0 q0 t0 dhasSaved dkeptError dmoved ++ wS_ s0 v0 f0 r0 ++ wV_ v0 v_keys v_firsts v_ends v_values v_inferred v_gone cI cZ vkeys vfirsts vends vvalues vinferred vgone vmade ++ wF_ f0 f_keys f_days f_amounts f_versions cI fkeys fdays famounts fversions fcount ++ wR_ r0 r_keys r_days r_values cI rkeys rdays rvalues rcount) sz) := by
  refine met_ (cc := cX5_fact) (maxL := 3) (ret := (some .int)) (Qcf := fun A => Qi_ (dC, dI) (ty_ cI cZ cC cJ cD) r (wD_ d0 s0 z0 b0 q0 t0 dhasSaved dkeptError dmoved ++ wS_ s0 v0 f0 r0 ++ wV_ v0 v_keys v_firsts v_ends v_values v_inferred v_gone cI cZ vkeys vfirsts vends vvalues vinferred vgone vmade ++ wF_ f0 f_keys f_days f_amounts f_versions cI fkeys fdays famounts fversions fcount ++ wR_ r0 r_keys r_days r_values cI rkeys rdays rvalues rcount) A) (by decide) rfl (Nat.le_of_ble_eq_true rfl) ?_
  intro p e s m args below meth c A ls hx hb hr hts hown hlocks hml hA hP hK hD hl
  have hown : s.vm.findClass RX5 = some m.cls := hown
  have hl : lv_has ls 3 [(0, .ref d0), (1, .int a1), (2, .int a2)] := hl
  have hS : va_S A s.heap s.heap [] := va_S.rf
  have fl10_ : (Cond.fieldLink RX5 10 "DimensionLoader" "live" "LDimensionLoader$Store;").before args s = true := hts _ (List.mem_of_getElem? (i := 5) rfl)
  have fl51_ : (Cond.fieldLink RX5 51 "DimensionLoader$Store" "versions" "LDimensionLoader$Versions;").before args s = true := hts _ (List.mem_of_getElem? (i := 12) rfl)
  have fl64_ : (Cond.fieldLink RX5 64 "DimensionLoader$Store" "facts" "LDimensionLoader$Facts;").before args s = true := hts _ (List.mem_of_getElem? (i := 6) rfl)
  have fl167_ : (Cond.fieldLink RX5 167 "DimensionLoader$Facts" "count" "I").before args s = true := hts _ (List.mem_of_getElem? (i := 7) rfl)
  have fl172_ : (Cond.fieldLink RX5 172 "DimensionLoader$Facts" "keys" "[I").before args s = true := hts _ (List.mem_of_getElem? (i := 8) rfl)
  have fl173_ : (Cond.fieldLink RX5 173 "DimensionLoader$Facts" "days" "[I").before args s = true := hts _ (List.mem_of_getElem? (i := 9) rfl)
  have fl175_ : (Cond.fieldLink RX5 175 "DimensionLoader$Facts" "amounts" "[I").before args s = true := hts _ (List.mem_of_getElem? (i := 10) rfl)
  have fl178_ : (Cond.fieldLink RX5 178 "DimensionLoader$Facts" "versions" "[I").before args s = true := hts _ (List.mem_of_getElem? (i := 11) rfl)
  have inX0_ : ∀ w ∈ wsX00, w ∈ wsX5_fact := in_X5_fact_X0
  have inX2_ : ∀ w ∈ wsX20, w ∈ wsX5_fact := in_X5_fact_X2
  have inX5_ : ∀ w ∈ wsX50, w ∈ wsX5_fact := in_X5_fact_X5
  unfold f_X5_fact at hf
  dsimp only at hf
  refine lv_iload_n hx hb dX5_fact_0 rfl (lv_at hl 1 rfl) ?_
  refine lv_if_lt (tgt := 18) hx hb dX5_fact_1 (by decide) (fun c1 => ?_) (fun c1 => ?_)
  · have hf := ite_T c1 hf
    have hR := Option.some.inj hf
    subst hR
    exact absurd hok (fun h => nomatch h)
  · have hf := ite_F c1 hf
    refine lv_iload_n hx hb dX5_fact_4 rfl (lv_at hl 1 rfl) ?_
    refine lv_aload_n hx hb dX5_fact_5 rfl (lv_at hl 0 rfl) ?_
    refine va_get (D := (dC, dI)) (ci := 7) (v := .ref s0) (C := RX5) (T := TX5) (N := 8) hx hb hts inX5_ hown hK hP 0 rfl rfl 0 (by decide) fl10_ (fun _ h9 => h9) rfl dX5_fact_6 ?_
    refine va_get (D := (dC, dI)) (ci := 4) (v := .ref f0) (C := RX2) (T := TX2) (N := 3) hx hb hts inX2_ hown hK hP 1 rfl rfl 1 (by decide) fl64_ (fun _ h9 => h9) rfl dX5_fact_9 ?_
    refine va_get (D := (dC, dI)) (ci := 2) (v := .int fcount) (C := RX0) (T := TX0) (N := 5) hx hb hts inX0_ hown hK hP 9 rfl rfl 4 (by decide) fl167_ (fun _ h9 => h9) rfl dX5_fact_12 ?_
    refine lv_icmp_lt (tgt := 26) hx hb dX5_fact_15 (by decide) (fun c2 => ?_) (fun c2 => ?_)
    · have hf := ite_T c2 hf
      refine lv_iload_n hx hb dX5_fact_26 rfl (lv_at hl 2 rfl) ?_
      by_cases c3 : a2 = 0
      · have hf := ite_T c3 hf
        refine lv_tableIn (tgt := 60) (off := 33) hx hb dX5_fact_27 (by rw [c3]; decide) (by rw [c3]; decide) (by rw [c3]; rfl) (by decide) ?_
        refine lv_aload_n hx hb dX5_fact_60 rfl (lv_at hl 0 rfl) ?_
        refine va_get (D := (dC, dI)) (ci := 7) (v := .ref s0) (C := RX5) (T := TX5) (N := 8) hx hb hts inX5_ hown hK hP 0 rfl rfl 0 (by decide) fl10_ (fun _ h9 => h9) rfl dX5_fact_61 ?_
        refine va_get (D := (dC, dI)) (ci := 4) (v := .ref f0) (C := RX2) (T := TX2) (N := 3) hx hb hts inX2_ hown hK hP 1 rfl rfl 1 (by decide) fl64_ (fun _ h9 => h9) rfl dX5_fact_64 ?_
        refine va_get (D := (dC, dI)) (ci := 2) (v := .ref f_keys) (C := RX0) (T := TX0) (N := 5) hx hb hts inX0_ hown hK hP 9 rfl rfl 0 (by decide) fl172_ (fun _ h9 => h9) rfl dX5_fact_67 ?_
        refine lv_iload_n hx hb dX5_fact_70 rfl (lv_at hl 1 rfl) ?_
        obtain ⟨h4, hf⟩ := gd_T hf
        refine va_iald hx hb hK hP 10 0 rfl rfl h4 dX5_fact_71 ?_
        have hR := Option.some.inj hf
        subst hR
        have hv := Except.ok.inj hok
        subst hv
        exact W.iret (v := fkeys a1.toNatClampNeg) hx hb hr (fun t ht hW => ⟨⟨fkeys a1.toNatClampNeg, (), rfl, rfl, by rw [ht]; exact hP, va_K.moved hW.alike hK, hD⟩, hS.F ht⟩) hS.2.2 dX5_fact_72
      · have hf := ite_F c3 hf
        by_cases c5 : a2 = 1
        · have hf := ite_T c5 hf
          refine lv_tableIn (tgt := 73) (off := 46) hx hb dX5_fact_27 (by rw [c5]; decide) (by rw [c5]; decide) (by rw [c5]; rfl) (by decide) ?_
          refine lv_aload_n hx hb dX5_fact_73 rfl (lv_at hl 0 rfl) ?_
          refine va_get (D := (dC, dI)) (ci := 7) (v := .ref s0) (C := RX5) (T := TX5) (N := 8) hx hb hts inX5_ hown hK hP 0 rfl rfl 0 (by decide) fl10_ (fun _ h9 => h9) rfl dX5_fact_74 ?_
          refine va_get (D := (dC, dI)) (ci := 4) (v := .ref f0) (C := RX2) (T := TX2) (N := 3) hx hb hts inX2_ hown hK hP 1 rfl rfl 1 (by decide) fl64_ (fun _ h9 => h9) rfl dX5_fact_77 ?_
          refine va_get (D := (dC, dI)) (ci := 2) (v := .ref f_days) (C := RX0) (T := TX0) (N := 5) hx hb hts inX0_ hown hK hP 9 rfl rfl 1 (by decide) fl173_ (fun _ h9 => h9) rfl dX5_fact_80 ?_
          refine lv_iload_n hx hb dX5_fact_83 rfl (lv_at hl 1 rfl) ?_
          obtain ⟨h6, hf⟩ := gd_T hf
          refine va_iald hx hb hK hP 11 0 rfl rfl h6 dX5_fact_84 ?_
          have hR := Option.some.inj hf
          subst hR
          have hv := Except.ok.inj hok
          subst hv
          exact W.iret (v := fdays a1.toNatClampNeg) hx hb hr (fun t ht hW => ⟨⟨fdays a1.toNatClampNeg, (), rfl, rfl, by rw [ht]; exact hP, va_K.moved hW.alike hK, hD⟩, hS.F ht⟩) hS.2.2 dX5_fact_85
        · have hf := ite_F c5 hf
          by_cases c7 : a2 = 2
          · have hf := ite_T c7 hf
            refine lv_tableIn (tgt := 86) (off := 59) hx hb dX5_fact_27 (by rw [c7]; decide) (by rw [c7]; decide) (by rw [c7]; rfl) (by decide) ?_
            refine lv_aload_n hx hb dX5_fact_86 rfl (lv_at hl 0 rfl) ?_
            refine va_get (D := (dC, dI)) (ci := 7) (v := .ref s0) (C := RX5) (T := TX5) (N := 8) hx hb hts inX5_ hown hK hP 0 rfl rfl 0 (by decide) fl10_ (fun _ h9 => h9) rfl dX5_fact_87 ?_
            refine va_get (D := (dC, dI)) (ci := 4) (v := .ref f0) (C := RX2) (T := TX2) (N := 3) hx hb hts inX2_ hown hK hP 1 rfl rfl 1 (by decide) fl64_ (fun _ h9 => h9) rfl dX5_fact_90 ?_
            refine va_get (D := (dC, dI)) (ci := 2) (v := .ref f_amounts) (C := RX0) (T := TX0) (N := 5) hx hb hts inX0_ hown hK hP 9 rfl rfl 2 (by decide) fl175_ (fun _ h9 => h9) rfl dX5_fact_93 ?_
            refine lv_iload_n hx hb dX5_fact_96 rfl (lv_at hl 1 rfl) ?_
            obtain ⟨h8, hf⟩ := gd_T hf
            refine va_iald hx hb hK hP 12 0 rfl rfl h8 dX5_fact_97 ?_
            have hR := Option.some.inj hf
            subst hR
            have hv := Except.ok.inj hok
            subst hv
            exact W.iret (v := famounts a1.toNatClampNeg) hx hb hr (fun t ht hW => ⟨⟨famounts a1.toNatClampNeg, (), rfl, rfl, by rw [ht]; exact hP, va_K.moved hW.alike hK, hD⟩, hS.F ht⟩) hS.2.2 dX5_fact_98
          · have hf := ite_F c7 hf
            by_cases c9 : a2 = 3
            · have hf := ite_T c9 hf
              refine lv_tableIn (tgt := 99) (off := 72) hx hb dX5_fact_27 (by rw [c9]; decide) (by rw [c9]; decide) (by rw [c9]; rfl) (by decide) ?_
              refine lv_aload_n hx hb dX5_fact_99 rfl (lv_at hl 0 rfl) ?_
              refine va_get (D := (dC, dI)) (ci := 7) (v := .ref s0) (C := RX5) (T := TX5) (N := 8) hx hb hts inX5_ hown hK hP 0 rfl rfl 0 (by decide) fl10_ (fun _ h9 => h9) rfl dX5_fact_100 ?_
              refine va_get (D := (dC, dI)) (ci := 4) (v := .ref f0) (C := RX2) (T := TX2) (N := 3) hx hb hts inX2_ hown hK hP 1 rfl rfl 1 (by decide) fl64_ (fun _ h9 => h9) rfl dX5_fact_103 ?_
              refine va_get (D := (dC, dI)) (ci := 2) (v := .ref f_versions) (C := RX0) (T := TX0) (N := 5) hx hb hts inX0_ hown hK hP 9 rfl rfl 3 (by decide) fl178_ (fun _ h9 => h9) rfl dX5_fact_106 ?_
              refine lv_iload_n hx hb dX5_fact_109 rfl (lv_at hl 1 rfl) ?_
              obtain ⟨h10, hf⟩ := gd_T hf
              refine va_iald hx hb hK hP 13 0 rfl rfl h10 dX5_fact_110 ?_
              have hR := Option.some.inj hf
              subst hR
              have hv := Except.ok.inj hok
              subst hv
              exact W.iret (v := fversions a1.toNatClampNeg) hx hb hr (fun t ht hW => ⟨⟨fversions a1.toNatClampNeg, (), rfl, rfl, by rw [ht]; exact hP, va_K.moved hW.alike hK, hD⟩, hS.F ht⟩) hS.2.2 dX5_fact_111
            · have hf := ite_F c9 hf
              by_cases c11 : a2 = 4
              · have hf := ite_T c11 hf
                refine lv_tableIn (tgt := 112) (off := 85) hx hb dX5_fact_27 (by rw [c11]; decide) (by rw [c11]; decide) (by rw [c11]; rfl) (by decide) ?_
                refine lv_aload_n hx hb dX5_fact_112 rfl (lv_at hl 0 rfl) ?_
                refine va_get (D := (dC, dI)) (ci := 7) (v := .ref s0) (C := RX5) (T := TX5) (N := 8) hx hb hts inX5_ hown hK hP 0 rfl rfl 0 (by decide) fl10_ (fun _ h9 => h9) rfl dX5_fact_113 ?_
                refine va_get (D := (dC, dI)) (ci := 4) (v := .ref v0) (C := RX2) (T := TX2) (N := 3) hx hb hts inX2_ hown hK hP 1 rfl rfl 0 (by decide) fl51_ (fun _ h9 => h9) rfl dX5_fact_116 ?_
                refine lv_aload_n hx hb dX5_fact_119 rfl (lv_at hl 0 rfl) ?_
                refine va_get (D := (dC, dI)) (ci := 7) (v := .ref s0) (C := RX5) (T := TX5) (N := 8) hx hb hts inX5_ hown hK hP 0 rfl rfl 0 (by decide) fl10_ (fun _ h9 => h9) rfl dX5_fact_120 ?_
                refine va_get (D := (dC, dI)) (ci := 4) (v := .ref f0) (C := RX2) (T := TX2) (N := 3) hx hb hts inX2_ hown hK hP 1 rfl rfl 1 (by decide) fl64_ (fun _ h9 => h9) rfl dX5_fact_123 ?_
                refine va_get (D := (dC, dI)) (ci := 2) (v := .ref f_versions) (C := RX0) (T := TX0) (N := 5) hx hb hts inX0_ hown hK hP 9 rfl rfl 3 (by decide) fl178_ (fun _ h9 => h9) rfl dX5_fact_126 ?_
                refine lv_iload_n hx hb dX5_fact_129 rfl (lv_at hl 1 rfl) ?_
                obtain ⟨h12, hf⟩ := gd_T hf
                refine va_iald hx hb hK hP 13 0 rfl rfl h12 dX5_fact_130 ?_
                obtain ⟨R14, g15, hf⟩ := bd_B hf
                obtain ⟨r13, rfl⟩ : ∃ z, z = R14 := ⟨_, rfl⟩
                have hPc := hP.sub (ws' := wV_ v0 v_keys v_firsts v_ends v_values v_inferred v_gone cI cZ vkeys vfirsts vends vvalues vinferred vgone vmade) [2, 3, 4, 5, 6, 7, 8] rfl
                have hDc := hD.sub (ws' := wV_ v0 v_keys v_firsts v_ends v_values v_inferred v_gone cI cZ vkeys vfirsts vends vvalues vinferred vgone vmade) [2, 3, 4, 5, 6, 7, 8] (by decide) rfl
                have hFc := va_free (wc := wV_ v0 v_keys v_firsts v_ends v_values v_inferred v_gone cI cZ vkeys vfirsts vends vvalues vinferred vgone vmade) hD hS hA [2, 3, 4, 5, 6, 7, 8] rfl
                refine va_calli (va_runV (As := [.int (fversions a1.toNatClampNeg)]) (rest := []) ⟨hx, hb, hml, hown, hts⟩ (c_X4_valueOf l dC dI cI cZ cC cJ cD v0 v_keys v_firsts v_ends v_values v_inferred v_gone s.heap.size vkeys vfirsts vends vvalues vinferred vgone vmade (fversions a1.toNatClampNeg) r13 g15) (cwV 1 hts gX5_fact_X4_valueOf rfl rfl rfl hs_X4_valueOf ⟨Nat.le_of_ble_eq_true rfl, Nat.le_of_ble_eq_true rfl⟩) (preV_ (ci := 6) (q0 := 0) hPc hK hDc rfl rfl rfl rfl) rfl rfl hl.1 rfl (lv_room (Nat.le_of_ble_eq_true rfl)) dX5_fact_131 ⟨Nat.le_of_ble_eq_true rfl, Nat.le_of_ble_eq_true rfl⟩) hS (fun q _ h => hFc q h) hFc (fun z17 u t H16 locs ht hvm hw hB hz1 hk1 hS => ?_)
                have hw : r13 = z17 := hw.symm
                subst hw
                obtain ⟨hP, hD⟩ := aft_ (Wr := wD_ d0 s0 z0 b0 q0 t0 dhasSaved dkeptError dmoved ++ wS_ s0 v0 f0 r0 ++ wF_ f0 f_keys f_days f_amounts f_versions cI fkeys fdays famounts fversions fcount ++ wR_ r0 r_keys r_days r_values cI rkeys rdays rvalues rcount) (Wc' := wV_ v0 v_keys v_firsts v_ends v_values v_inferred v_gone cI cZ vkeys vfirsts vends vvalues vinferred vgone vmade) (W2 := wD_ d0 s0 z0 b0 q0 t0 dhasSaved dkeptError dmoved ++ wS_ s0 v0 f0 r0 ++ wV_ v0 v_keys v_firsts v_ends v_values v_inferred v_gone cI cZ vkeys vfirsts vends vvalues vinferred vgone vmade ++ wF_ f0 f_keys f_days f_amounts f_versions cI fkeys fdays famounts fversions fcount ++ wR_ r0 r_keys r_days r_values cI rkeys rdays rvalues rcount) hP hD [2, 3, 4, 5, 6, 7, 8] [0, 1, 9, 10, 11, 12, 13, 14, 15, 16, 17] [0, 1, 11, 12, 13, 14, 15, 16, 17, 2, 3, 4, 5, 6, 7, 8, 9, 10] rfl rfl (by decide) (by decide) (by decide) hk1 hFc hB ht rfl
                have hR := Option.some.inj hf
                subst hR
                have hv := Except.ok.inj hok
                subst hv
                exact W.iret (v := r13) hx hb hr (fun t ht hW => ⟨⟨r13, (), rfl, rfl, by rw [ht]; exact hP, va_K.moved hW.alike hK, hD⟩, hS.F ht⟩) hS.2.2 dX5_fact_134
              · have hf := ite_F c11 hf
                have t0_ := ne_L c3 (show (0 : Int32).toInt = 0 by decide)
                have t1_ := ne_L c5 (show (1 : Int32).toInt = 1 by decide)
                have t2_ := ne_L c7 (show (2 : Int32).toInt = 2 by decide)
                have t3_ := ne_L c9 (show (3 : Int32).toInt = 3 by decide)
                have t4_ := ne_L c11 (show (4 : Int32).toInt = 4 by decide)
                refine lv_tableOut (tgt := 135) hx hb dX5_fact_27 (by omega) (by decide) ?_
                have hR := Option.some.inj hf
                subst hR
                exact absurd hok (fun h => nomatch h)
    · have hf := ite_F c2 hf
      have hR := Option.some.inj hf
      subst hR
      exact absurd hok (fun h => nomatch h)
