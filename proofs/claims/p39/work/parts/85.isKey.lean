abbrev rm_L_isKey : Room := { frames := 8, cells := 0, slots := 0, locals := 161 }
set_option maxHeartbeats 8000000 in
set_option maxRecDepth 100000 in
theorem c_L_isKey (l : Launch) (dC : Nat → ClassId) (dI : Nat → Nat → Nat) (cI cZ cC cJ cD : ClassId) (d0 s0 z0 b0 q0 t0 v0 f0 r0 v_keys v_firsts v_ends v_values v_inferred v_gone f_keys f_days f_amounts f_versions r_keys r_days r_values y0 w0 : Nat) (sz : Nat) (dhasSaved : Int32) (dkeptError : Int32) (dmoved : Int32) (vkeys : Nat → Int32) (vfirsts : Nat → Int32) (vends : Nat → Int32) (vvalues : Nat → Int32) (vinferred : Nat → Int32) (vgone : Nat → Int32) (vmade : Int32) (fkeys : Nat → Int32) (fdays : Nat → Int32) (famounts : Nat → Int32) (fversions : Nat → Int32) (fcount : Int32) (rkeys : Nat → Int32) (rdays : Nat → Int32) (rvalues : Nat → Int32) (rcount : Int32) (yv : Nat → Int32) (wv : Nat → Int32) (a2 : Int32) (R : Int32) (hf : f_L_isKey a2 (dhasSaved, dkeptError, dmoved) () (vkeys, vfirsts, vends, vvalues, vinferred, vgone, vmade) (fkeys, fdays, famounts, fversions, fcount) (rkeys, rdays, rvalues, rcount) yv wv = some R) : Met l yL_isKey wsL_isKey rm_L_isKey (Pc_ (dC, dI) (ty_ cI cZ cC cJ cD) ((wD_ d0 s0 z0 b0 q0 t0 dhasSaved dkeptError dmoved ++ wS_ s0 v0 f0 r0 ++ wV_ v0 v_keys v_firsts v_ends v_values v_inferred v_gone cI cZ vkeys vfirsts vends vvalues vinferred vgone vmade ++ wF_ f0 f_keys f_days f_amounts f_versions cI fkeys fdays famounts fversions fcount ++ wR_ r0 r_keys r_days r_values cI rkeys rdays rvalues rcount) ++ (wI_ y0 cI 1000 yv ++ (wI_ w0 cI 180 wv))) sz [.ref d0, .int a2, .ref y0, .ref w0]) (Qi_ (dC, dI) (ty_ cI cZ cC cJ cD) R ((wD_ d0 s0 z0 b0 q0 t0 dhasSaved dkeptError dmoved ++ wS_ s0 v0 f0 r0 ++ wV_ v0 v_keys v_firsts v_ends v_values v_inferred v_gone cI cZ vkeys vfirsts vends vvalues vinferred vgone vmade ++ wF_ f0 f_keys f_days f_amounts f_versions cI fkeys fdays famounts fversions fcount ++ wR_ r0 r_keys r_days r_values cI rkeys rdays rvalues rcount) ++ (wI_ y0 cI 1000 yv ++ (wI_ w0 cI 180 wv))) (va_A ((wD_ d0 s0 z0 b0 q0 t0 dhasSaved dkeptError dmoved ++ wS_ s0 v0 f0 r0 ++ wV_ v0 v_keys v_firsts v_ends v_values v_inferred v_gone cI cZ vkeys vfirsts vends vvalues vinferred vgone vmade ++ wF_ f0 f_keys f_days f_amounts f_versions cI fkeys fdays famounts fversions fcount ++ wR_ r0 r_keys r_days r_values cI rkeys rdays rvalues rcount) ++ (wI_ y0 cI 1000 yv ++ (wI_ w0 cI 180 wv))) sz)) 0 0 (va_A ((wD_ d0 s0 z0 b0 q0 t0 dhasSaved dkeptError dmoved ++ wS_ s0 v0 f0 r0 ++ wV_ v0 v_keys v_firsts v_ends v_values v_inferred v_gone cI cZ vkeys vfirsts vends vvalues vinferred vgone vmade ++ wF_ f0 f_keys f_days f_amounts f_versions cI fkeys fdays famounts fversions fcount ++ wR_ r0 r_keys r_days r_values cI rkeys rdays rvalues rcount) ++ (wI_ y0 cI 1000 yv ++ (wI_ w0 cI 180 wv))) sz) := by
  refine met_ (cc := cL_isKey) (maxL := 11) (ret := (some .int)) (Qcf := fun A => Qi_ (dC, dI) (ty_ cI cZ cC cJ cD) R ((wD_ d0 s0 z0 b0 q0 t0 dhasSaved dkeptError dmoved ++ wS_ s0 v0 f0 r0 ++ wV_ v0 v_keys v_firsts v_ends v_values v_inferred v_gone cI cZ vkeys vfirsts vends vvalues vinferred vgone vmade ++ wF_ f0 f_keys f_days f_amounts f_versions cI fkeys fdays famounts fversions fcount ++ wR_ r0 r_keys r_days r_values cI rkeys rdays rvalues rcount) ++ (wI_ y0 cI 1000 yv ++ (wI_ w0 cI 180 wv))) A) (by decide) rfl (Nat.le_of_ble_eq_true rfl) ?_
  intro p e s m args below meth c A ls hx hb hr hts hown hlocks hml hA hP hK hD hl
  have hown : s.vm.findClass RL = some m.cls := hown
  have hl : lv_has ls 11 [(0, .ref d0), (1, .int a2), (2, .ref y0), (3, .ref w0)] := hl
  have hS : va_S A s.heap s.heap [] := va_S.rf
  unfold f_L_isKey at hf
  try dsimp only at hf
  refine lv_iconst (v := 0) hx hb dL_isKey_0 (by decide) ?_
  refine lv_istore (lv' := [(4, .int 0), (0, .ref d0), (1, .int a2), (2, .ref y0), (3, .ref w0)]) hx hb dL_isKey_1 hl (by decide) rfl (fun ls hl => ?_)
  refine lv_iconst (v := 0) hx hb dL_isKey_3 (by decide) ?_
  refine lv_istore (lv' := [(5, .int 0), (4, .int 0), (0, .ref d0), (1, .int a2), (2, .ref y0), (3, .ref w0)]) hx hb dL_isKey_4 hl (by decide) rfl (fun ls hl => ?_)
  refine lv_iconst (v := 0) hx hb dL_isKey_6 (by decide) ?_
  refine lv_istore (lv' := [(6, .int 0), (5, .int 0), (4, .int 0), (0, .ref d0), (1, .int a2), (2, .ref y0), (3, .ref w0)]) hx hb dL_isKey_7 hl (by decide) rfl (fun ls hl => ?_)
  refine lv_iconst (v := (-1)) hx hb dL_isKey_9 (by decide) ?_
  refine lv_istore (lv' := [(7, .int (-1)), (6, .int 0), (5, .int 0), (4, .int 0), (0, .ref d0), (1, .int a2), (2, .ref y0), (3, .ref w0)]) hx hb dL_isKey_10 hl (by decide) rfl (fun ls hl => ?_)
  refine lv_iconst (v := 0) hx hb dL_isKey_12 (by decide) ?_
  refine lv_istore (lv' := [(8, .int 0), (7, .int (-1)), (6, .int 0), (5, .int 0), (4, .int 0), (0, .ref d0), (1, .int a2), (2, .ref y0), (3, .ref w0)]) hx hb dL_isKey_13 hl (by decide) rfl (fun ls hl => ?_)
  have hkx15 : ∀ (l1 : Int32) (l4 : Int32) (l5 : Int32) (l6 : Int32) (l7 : Int32) (l8 : Int32) (dhasSaved : Int32) (dkeptError : Int32) (dmoved : Int32) (vkeys : Nat → Int32) (vfirsts : Nat → Int32) (vends : Nat → Int32) (vvalues : Nat → Int32) (vinferred : Nat → Int32) (vgone : Nat → Int32) (vmade : Int32) (fkeys : Nat → Int32) (fdays : Nat → Int32) (famounts : Nat → Int32) (fversions : Nat → Int32) (fcount : Int32) (rkeys : Nat → Int32) (rdays : Nat → Int32) (rvalues : Nat → Int32) (rcount : Int32) (yv : Nat → Int32) (wv : Nat → Int32) (H : Heap) (locs : List Loc) (ls : Array Slot), f_L_isKey_X15 l1 l4 l5 l6 l7 l8 (dhasSaved, dkeptError, dmoved) () (vkeys, vfirsts, vends, vvalues, vinferred, vgone, vmade) (fkeys, fdays, famounts, fversions, fcount) (rkeys, rdays, rvalues, rcount) yv wv = some R → va_P (dC, dI) vwCl ((wD_ d0 s0 z0 b0 q0 t0 dhasSaved dkeptError dmoved ++ wS_ s0 v0 f0 r0 ++ wV_ v0 v_keys v_firsts v_ends v_values v_inferred v_gone cI cZ vkeys vfirsts vends vvalues vinferred vgone vmade ++ wF_ f0 f_keys f_days f_amounts f_versions cI fkeys fdays famounts fversions fcount ++ wR_ r0 r_keys r_days r_values cI rkeys rdays rvalues rcount) ++ (wI_ y0 cI 1000 yv ++ (wI_ w0 cI 180 wv))) H → va_D A ((wD_ d0 s0 z0 b0 q0 t0 dhasSaved dkeptError dmoved ++ wS_ s0 v0 f0 r0 ++ wV_ v0 v_keys v_firsts v_ends v_values v_inferred v_gone cI cZ vkeys vfirsts vends vvalues vinferred vgone vmade ++ wF_ f0 f_keys f_days f_amounts f_versions cI fkeys fdays famounts fversions fcount ++ wR_ r0 r_keys r_days r_values cI rkeys rdays rvalues rcount) ++ (wI_ y0 cI 1000 yv ++ (wI_ w0 cI 180 wv))) → va_S A s.heap H locs → lv_has ls 11 [(0, .ref d0), (1, .int l1), (2, .ref y0), (3, .ref w0), (4, .int l4), (5, .int l5), (6, .int l6), (7, .int l7), (8, .int l8)] → W p l e (headSpec wsL_isKey rm_L_isKey).room s m args below meth c H locs 0 0 (MQ below (Qi_ (dC, dI) (ty_ cI cZ cC cJ cD) R ((wD_ d0 s0 z0 b0 q0 t0 dhasSaved dkeptError dmoved ++ wS_ s0 v0 f0 r0 ++ wV_ v0 v_keys v_firsts v_ends v_values v_inferred v_gone cI cZ vkeys vfirsts vends vvalues vinferred vgone vmade ++ wF_ f0 f_keys f_days f_amounts f_versions cI fkeys fdays famounts fversions fcount ++ wR_ r0 r_keys r_days r_values cI rkeys rdays rvalues rcount) ++ (wI_ y0 cI 1000 yv ++ (wI_ w0 cI 180 wv))) A) args s 0 0 A) (F0 m 291 ls []) := by
    intro l1 l4 l5 l6 l7 l8 dhasSaved dkeptError dmoved vkeys vfirsts vends vvalues vinferred vgone vmade fkeys fdays famounts fversions fcount rkeys rdays rvalues rcount yv wv H locs ls hf hP hD hS hl
    unfold f_L_isKey_X15 at hf
    try dsimp only at hf
    refine lv_aload_n hx hb dL_isKey_291 rfl (lv_at hl 0 rfl) ?_
    refine lv_iload_n hx hb dL_isKey_292 rfl (lv_at hl 1 rfl) ?_
    obtain ⟨R3, g4, hf⟩ := bd_B hf
    obtain ⟨x1, rfl⟩ : ∃ z, z = R3 := ⟨_, rfl⟩
    have hPc : va_P (dC, dI) vwCl (wD_ d0 s0 z0 b0 q0 t0 dhasSaved dkeptError dmoved ++ wS_ s0 v0 f0 r0 ++ wV_ v0 v_keys v_firsts v_ends v_values v_inferred v_gone cI cZ vkeys vfirsts vends vvalues vinferred vgone vmade ++ wF_ f0 f_keys f_days f_amounts f_versions cI fkeys fdays famounts fversions fcount ++ wR_ r0 r_keys r_days r_values cI rkeys rdays rvalues rcount) H := P_pre hP
    have hDc : va_D A (wD_ d0 s0 z0 b0 q0 t0 dhasSaved dkeptError dmoved ++ wS_ s0 v0 f0 r0 ++ wV_ v0 v_keys v_firsts v_ends v_values v_inferred v_gone cI cZ vkeys vfirsts vends vvalues vinferred vgone vmade ++ wF_ f0 f_keys f_days f_amounts f_versions cI fkeys fdays famounts fversions fcount ++ wR_ r0 r_keys r_days r_values cI rkeys rdays rvalues rcount) := D_pre hD
    have hFc := F_of hDc hS hA
    cases x1 with
    | error E9 =>
      exact absurd hf (fun h => nomatch h)
    | ok r2 =>
      refine va_calli (va_runV (As := [.int l1]) (rest := []) ⟨hx, hb, hml, hown, hts⟩ (cn_X5_versionsOf l dC dI cI cZ cC cJ cD d0 s0 z0 b0 q0 t0 v0 f0 r0 v_keys v_firsts v_ends v_values v_inferred v_gone f_keys f_days f_amounts f_versions r_keys r_days r_values H.size dhasSaved dkeptError dmoved vkeys vfirsts vends vvalues vinferred vgone vmade fkeys fdays famounts fversions fcount rkeys rdays rvalues rcount l1 (Except.ok r2) g4 r2 rfl) (cwV 1 hts gL_isKey_X5_versionsOf rfl rfl rfl hs_X5_versionsOf ⟨Nat.le_of_ble_eq_true rfl, Nat.le_of_ble_eq_true rfl⟩) (preV_ (ci := 7) (q0 := 0) hPc hK hDc rfl rfl rfl rfl) rfl rfl hl.1 rfl (lv_room (Nat.le_of_ble_eq_true rfl)) dL_isKey_293 ⟨Nat.le_of_ble_eq_true rfl, Nat.le_of_ble_eq_true rfl⟩) hS (fun q _ h => hFc q h) hFc (fun z8 u t H7 locs ht hvm hw hB hz1 hk1 hS => ?_)
      have hw : r2 = z8 := hw.symm
      subst hw
      obtain ⟨hP, hD⟩ := preJ0_ (X' := wD_ d0 s0 z0 b0 q0 t0 dhasSaved dkeptError dmoved ++ wS_ s0 v0 f0 r0 ++ wV_ v0 v_keys v_firsts v_ends v_values v_inferred v_gone cI cZ vkeys vfirsts vends vvalues vinferred vgone vmade ++ wF_ f0 f_keys f_days f_amounts f_versions cI fkeys fdays famounts fversions fcount ++ wR_ r0 r_keys r_days r_values cI rkeys rdays rvalues rcount) hP hD rfl hk1 hB ht
      refine lv_iload hx hb dL_isKey_296 (lv_at hl 4 rfl) ?_
      refine lv_icmp_ne (tgt := 336) hx hb dL_isKey_298 (by decide) (fun c10 => ?_) (fun c10 => ?_)
      · have hf := ite_F c10 hf
        refine lv_iconst (v := (-1)) hx hb dL_isKey_336 (by decide) ?_
        have hR := Option.some.inj hf
        subst hR
        exact W.iret (v := (-1 : Int32)) hx hb hr (fun t ht hW => ⟨⟨(-1 : Int32), (), rfl, rfl, by rw [ht]; exact hP, va_K.moved hW.alike hK, hD⟩, hS.F ht⟩) hS.2.2 dL_isKey_337
      · have hf := ite_T c10 hf
        refine lv_aload_n hx hb dL_isKey_301 rfl (lv_at hl 0 rfl) ?_
        refine lv_iload_n hx hb dL_isKey_302 rfl (lv_at hl 1 rfl) ?_
        obtain ⟨R13, g14, hf⟩ := bd_B hf
        obtain ⟨x11, rfl⟩ : ∃ z, z = R13 := ⟨_, rfl⟩
        have hPc : va_P (dC, dI) vwCl (wD_ d0 s0 z0 b0 q0 t0 dhasSaved dkeptError dmoved ++ wS_ s0 v0 f0 r0 ++ wV_ v0 v_keys v_firsts v_ends v_values v_inferred v_gone cI cZ vkeys vfirsts vends vvalues vinferred vgone vmade ++ wF_ f0 f_keys f_days f_amounts f_versions cI fkeys fdays famounts fversions fcount ++ wR_ r0 r_keys r_days r_values cI rkeys rdays rvalues rcount) H7 := P_pre hP
        have hDc : va_D A (wD_ d0 s0 z0 b0 q0 t0 dhasSaved dkeptError dmoved ++ wS_ s0 v0 f0 r0 ++ wV_ v0 v_keys v_firsts v_ends v_values v_inferred v_gone cI cZ vkeys vfirsts vends vvalues vinferred vgone vmade ++ wF_ f0 f_keys f_days f_amounts f_versions cI fkeys fdays famounts fversions fcount ++ wR_ r0 r_keys r_days r_values cI rkeys rdays rvalues rcount) := D_pre hD
        have hFc := F_of hDc hS hA
        cases x11 with
        | error E19 =>
          exact absurd hf (fun h => nomatch h)
        | ok r12 =>
          refine va_calli (va_runV (As := [.int l1]) (rest := []) ⟨hx, hb, hml, hown, hts⟩ (cn_X5_gaps l dC dI cI cZ cC cJ cD d0 s0 z0 b0 q0 t0 v0 f0 r0 v_keys v_firsts v_ends v_values v_inferred v_gone f_keys f_days f_amounts f_versions r_keys r_days r_values H7.size dhasSaved dkeptError dmoved vkeys vfirsts vends vvalues vinferred vgone vmade fkeys fdays famounts fversions fcount rkeys rdays rvalues rcount l1 (Except.ok r12) g14 r12 rfl) (cwV 1 hts gL_isKey_X5_gaps rfl rfl rfl hs_X5_gaps ⟨Nat.le_of_ble_eq_true rfl, Nat.le_of_ble_eq_true rfl⟩) (preV_ (ci := 7) (q0 := 0) hPc hK hDc rfl rfl rfl rfl) rfl rfl hl.1 rfl (lv_room (Nat.le_of_ble_eq_true rfl)) dL_isKey_303 ⟨Nat.le_of_ble_eq_true rfl, Nat.le_of_ble_eq_true rfl⟩) hS (fun q _ h => hFc q h) hFc (fun z18 u t H17 locs ht hvm hw hB hz1 hk1 hS => ?_)
          have hw : r12 = z18 := hw.symm
          subst hw
          obtain ⟨hP, hD⟩ := preJ0_ (X' := wD_ d0 s0 z0 b0 q0 t0 dhasSaved dkeptError dmoved ++ wS_ s0 v0 f0 r0 ++ wV_ v0 v_keys v_firsts v_ends v_values v_inferred v_gone cI cZ vkeys vfirsts vends vvalues vinferred vgone vmade ++ wF_ f0 f_keys f_days f_amounts f_versions cI fkeys fdays famounts fversions fcount ++ wR_ r0 r_keys r_days r_values cI rkeys rdays rvalues rcount) hP hD rfl hk1 hB ht
          refine lv_iload hx hb dL_isKey_306 (lv_at hl 5 rfl) ?_
          refine lv_icmp_ne (tgt := 336) hx hb dL_isKey_308 (by decide) (fun c20 => ?_) (fun c20 => ?_)
          · have hf := ite_F c20 hf
            refine lv_iconst (v := (-1)) hx hb dL_isKey_336 (by decide) ?_
            have hR := Option.some.inj hf
            subst hR
            exact W.iret (v := (-1 : Int32)) hx hb hr (fun t ht hW => ⟨⟨(-1 : Int32), (), rfl, rfl, by rw [ht]; exact hP, va_K.moved hW.alike hK, hD⟩, hS.F ht⟩) hS.2.2 dL_isKey_337
          · have hf := ite_T c20 hf
            refine lv_iload hx hb dL_isKey_311 (lv_at hl 7 rfl) ?_
            refine lv_if_lt (tgt := 338) hx hb dL_isKey_313 (by decide) (fun c21 => ?_) (fun c21 => ?_)
            · have hf := ite_T c21 hf
              refine lv_iload hx hb dL_isKey_338 (lv_at hl 4 rfl) ?_
              have hR := Option.some.inj hf
              subst hR
              exact W.iret (v := l4) hx hb hr (fun t ht hW => ⟨⟨l4, (), rfl, rfl, by rw [ht]; exact hP, va_K.moved hW.alike hK, hD⟩, hS.F ht⟩) hS.2.2 dL_isKey_340
            · have hf := ite_F c21 hf
              refine lv_aload_n hx hb dL_isKey_316 rfl (lv_at hl 0 rfl) ?_
              refine lv_iload_n hx hb dL_isKey_317 rfl (lv_at hl 1 rfl) ?_
              obtain ⟨R24, g25, hf⟩ := bd_B hf
              obtain ⟨x22, rfl⟩ : ∃ z, z = R24 := ⟨_, rfl⟩
              have hPc : va_P (dC, dI) vwCl (wD_ d0 s0 z0 b0 q0 t0 dhasSaved dkeptError dmoved ++ wS_ s0 v0 f0 r0 ++ wV_ v0 v_keys v_firsts v_ends v_values v_inferred v_gone cI cZ vkeys vfirsts vends vvalues vinferred vgone vmade ++ wF_ f0 f_keys f_days f_amounts f_versions cI fkeys fdays famounts fversions fcount ++ wR_ r0 r_keys r_days r_values cI rkeys rdays rvalues rcount) H17 := P_pre hP
              have hDc : va_D A (wD_ d0 s0 z0 b0 q0 t0 dhasSaved dkeptError dmoved ++ wS_ s0 v0 f0 r0 ++ wV_ v0 v_keys v_firsts v_ends v_values v_inferred v_gone cI cZ vkeys vfirsts vends vvalues vinferred vgone vmade ++ wF_ f0 f_keys f_days f_amounts f_versions cI fkeys fdays famounts fversions fcount ++ wR_ r0 r_keys r_days r_values cI rkeys rdays rvalues rcount) := D_pre hD
              have hFc := F_of hDc hS hA
              cases x22 with
              | error E30 =>
                exact absurd hf (fun h => nomatch h)
              | ok r23 =>
                refine va_calld (va_runV (As := [.int l1]) (rest := []) ⟨hx, hb, hml, hown, hts⟩ (cn_X5_coverage l dC dI cI cZ cC cJ cD d0 s0 z0 b0 q0 t0 v0 f0 r0 v_keys v_firsts v_ends v_values v_inferred v_gone f_keys f_days f_amounts f_versions r_keys r_days r_values H17.size dhasSaved dkeptError dmoved vkeys vfirsts vends vvalues vinferred vgone vmade fkeys fdays famounts fversions fcount rkeys rdays rvalues rcount l1 (Except.ok r23) g25 r23 rfl) (cwV 1 hts gL_isKey_X5_coverage rfl rfl rfl hs_X5_coverage ⟨Nat.le_of_ble_eq_true rfl, Nat.le_of_ble_eq_true rfl⟩) (preV_ (ci := 7) (q0 := 0) hPc hK hDc rfl rfl rfl rfl) rfl rfl hl.1 rfl (lv_room (Nat.le_of_ble_eq_true rfl)) dL_isKey_318 ⟨Nat.le_of_ble_eq_true rfl, Nat.le_of_ble_eq_true rfl⟩) hS (fun q _ h => hFc q h) hFc (fun z29 u t H28 locs ht hvm hw hB hz1 hk1 hS => ?_)
                have hw : r23 = z29 := hw.symm
                subst hw
                obtain ⟨hP, hD⟩ := preJ0_ (X' := wD_ d0 s0 z0 b0 q0 t0 dhasSaved dkeptError dmoved ++ wS_ s0 v0 f0 r0 ++ wV_ v0 v_keys v_firsts v_ends v_values v_inferred v_gone cI cZ vkeys vfirsts vends vvalues vinferred vgone vmade ++ wF_ f0 f_keys f_days f_amounts f_versions cI fkeys fdays famounts fversions fcount ++ wR_ r0 r_keys r_days r_values cI rkeys rdays rvalues rcount) hP hD rfl hk1 hB ht
                refine lv_iload hx hb dL_isKey_321 (lv_at hl 6 rfl) ?_
                refine lv_i2d hx hb dL_isKey_323 ?_
                refine lv_sipush (v := 1000) hx hb dL_isKey_324 (by decide) ?_
                refine lv_iload hx hb dL_isKey_327 (lv_at hl 7 rfl) ?_
                refine lv_isub hx hb dL_isKey_329 ?_
                refine lv_i2d hx hb dL_isKey_330 ?_
                obtain ⟨h31, hf⟩ := gN_T hf
                refine lv_ddiv hx hb dL_isKey_331 h31 ?_
                refine lv_dcmp hx hb dL_isKey_332 ?_
                refine lv_if_eq (tgt := 338) hx hb dL_isKey_333 (by decide) (fun c32 => ?_) (fun c32 => ?_)
                · have hf := ite_T c32 hf
                  refine lv_iload hx hb dL_isKey_338 (lv_at hl 4 rfl) ?_
                  have hR := Option.some.inj hf
                  subst hR
                  exact W.iret (v := l4) hx hb hr (fun t ht hW => ⟨⟨l4, (), rfl, rfl, by rw [ht]; exact hP, va_K.moved hW.alike hK, hD⟩, hS.F ht⟩) hS.2.2 dL_isKey_340
                · have hf := ite_F c32 hf
                  refine lv_iconst (v := (-1)) hx hb dL_isKey_336 (by decide) ?_
                  have hR := Option.some.inj hf
                  subst hR
                  exact W.iret (v := (-1 : Int32)) hx hb hr (fun t ht hW => ⟨⟨(-1 : Int32), (), rfl, rfl, by rw [ht]; exact hP, va_K.moved hW.alike hK, hD⟩, hS.F ht⟩) hS.2.2 dL_isKey_337
  have lp15 : ∀ (n : Nat) (l1 : Int32) (l4 : Int32) (l5 : Int32) (l6 : Int32) (l7 : Int32) (l8 : Int32) (dhasSaved : Int32) (dkeptError : Int32) (dmoved : Int32) (vkeys : Nat → Int32) (vfirsts : Nat → Int32) (vends : Nat → Int32) (vvalues : Nat → Int32) (vinferred : Nat → Int32) (vgone : Nat → Int32) (vmade : Int32) (fkeys : Nat → Int32) (fdays : Nat → Int32) (famounts : Nat → Int32) (fversions : Nat → Int32) (fcount : Int32) (rkeys : Nat → Int32) (rdays : Nat → Int32) (rvalues : Nat → Int32) (rcount : Int32) (yv : Nat → Int32) (wv : Nat → Int32) (H : Heap) (locs : List Loc) (ls : Array Slot), f_L_isKey_L15 f_L_isKey_X15 n l1 l4 l5 l6 l7 l8 (dhasSaved, dkeptError, dmoved) () (vkeys, vfirsts, vends, vvalues, vinferred, vgone, vmade) (fkeys, fdays, famounts, fversions, fcount) (rkeys, rdays, rvalues, rcount) yv wv = some R → va_P (dC, dI) vwCl ((wD_ d0 s0 z0 b0 q0 t0 dhasSaved dkeptError dmoved ++ wS_ s0 v0 f0 r0 ++ wV_ v0 v_keys v_firsts v_ends v_values v_inferred v_gone cI cZ vkeys vfirsts vends vvalues vinferred vgone vmade ++ wF_ f0 f_keys f_days f_amounts f_versions cI fkeys fdays famounts fversions fcount ++ wR_ r0 r_keys r_days r_values cI rkeys rdays rvalues rcount) ++ (wI_ y0 cI 1000 yv ++ (wI_ w0 cI 180 wv))) H → va_D A ((wD_ d0 s0 z0 b0 q0 t0 dhasSaved dkeptError dmoved ++ wS_ s0 v0 f0 r0 ++ wV_ v0 v_keys v_firsts v_ends v_values v_inferred v_gone cI cZ vkeys vfirsts vends vvalues vinferred vgone vmade ++ wF_ f0 f_keys f_days f_amounts f_versions cI fkeys fdays famounts fversions fcount ++ wR_ r0 r_keys r_days r_values cI rkeys rdays rvalues rcount) ++ (wI_ y0 cI 1000 yv ++ (wI_ w0 cI 180 wv))) → va_S A s.heap H locs → lv_has ls 11 [(0, .ref d0), (1, .int l1), (2, .ref y0), (3, .ref w0), (4, .int l4), (5, .int l5), (6, .int l6), (7, .int l7), (8, .int l8)] → W p l e (headSpec wsL_isKey rm_L_isKey).room s m args below meth c H locs 0 0 (MQ below (Qi_ (dC, dI) (ty_ cI cZ cC cJ cD) R ((wD_ d0 s0 z0 b0 q0 t0 dhasSaved dkeptError dmoved ++ wS_ s0 v0 f0 r0 ++ wV_ v0 v_keys v_firsts v_ends v_values v_inferred v_gone cI cZ vkeys vfirsts vends vvalues vinferred vgone vmade ++ wF_ f0 f_keys f_days f_amounts f_versions cI fkeys fdays famounts fversions fcount ++ wR_ r0 r_keys r_days r_values cI rkeys rdays rvalues rcount) ++ (wI_ y0 cI 1000 yv ++ (wI_ w0 cI 180 wv))) A) args s 0 0 A) (F0 m 15 ls []) := by
    intro n
    induction n with
    | zero => intro l1 l4 l5 l6 l7 l8 dhasSaved dkeptError dmoved vkeys vfirsts vends vvalues vinferred vgone vmade fkeys fdays famounts fversions fcount rkeys rdays rvalues rcount yv wv H locs ls hf hP hD hS hl; exact absurd hf (fun h => nomatch h)
    | succ n ih =>
      intro l1 l4 l5 l6 l7 l8 dhasSaved dkeptError dmoved vkeys vfirsts vends vvalues vinferred vgone vmade fkeys fdays famounts fversions fcount rkeys rdays rvalues rcount yv wv H locs ls hf hP hD hS hl
      have hf : f_L_isKey_S15 f_L_isKey_X15 (f_L_isKey_L15 f_L_isKey_X15 n) l1 l4 l5 l6 l7 l8 (dhasSaved, dkeptError, dmoved) () (vkeys, vfirsts, vends, vvalues, vinferred, vgone, vmade) (fkeys, fdays, famounts, fversions, fcount) (rkeys, rdays, rvalues, rcount) yv wv = some R := hf
      generalize f_L_isKey_L15 f_L_isKey_X15 n = kl15 at hf ih
      generalize f_L_isKey_X15 = kx15 at hf hkx15
      unfold f_L_isKey_S15 at hf
      try dsimp only at hf
      have bl43 : ∀ (l1 : Int32) (l4 : Int32) (l5 : Int32) (l6 : Int32) (l7 : Int32) (l8 : Int32) (l9 : Int32) (dhasSaved : Int32) (dkeptError : Int32) (dmoved : Int32) (vkeys : Nat → Int32) (vfirsts : Nat → Int32) (vends : Nat → Int32) (vvalues : Nat → Int32) (vinferred : Nat → Int32) (vgone : Nat → Int32) (vmade : Int32) (fkeys : Nat → Int32) (fdays : Nat → Int32) (famounts : Nat → Int32) (fversions : Nat → Int32) (fcount : Int32) (rkeys : Nat → Int32) (rdays : Nat → Int32) (rvalues : Nat → Int32) (rcount : Int32) (yv : Nat → Int32) (wv : Nat → Int32) (H : Heap) (locs : List Loc) (ls : Array Slot), f_L_isKey_J43 kx15 kl15 l1 l4 l5 l6 l7 l8 l9 (dhasSaved, dkeptError, dmoved) () (vkeys, vfirsts, vends, vvalues, vinferred, vgone, vmade) (fkeys, fdays, famounts, fversions, fcount) (rkeys, rdays, rvalues, rcount) yv wv = some R → va_P (dC, dI) vwCl ((wD_ d0 s0 z0 b0 q0 t0 dhasSaved dkeptError dmoved ++ wS_ s0 v0 f0 r0 ++ wV_ v0 v_keys v_firsts v_ends v_values v_inferred v_gone cI cZ vkeys vfirsts vends vvalues vinferred vgone vmade ++ wF_ f0 f_keys f_days f_amounts f_versions cI fkeys fdays famounts fversions fcount ++ wR_ r0 r_keys r_days r_values cI rkeys rdays rvalues rcount) ++ (wI_ y0 cI 1000 yv ++ (wI_ w0 cI 180 wv))) H → va_D A ((wD_ d0 s0 z0 b0 q0 t0 dhasSaved dkeptError dmoved ++ wS_ s0 v0 f0 r0 ++ wV_ v0 v_keys v_firsts v_ends v_values v_inferred v_gone cI cZ vkeys vfirsts vends vvalues vinferred vgone vmade ++ wF_ f0 f_keys f_days f_amounts f_versions cI fkeys fdays famounts fversions fcount ++ wR_ r0 r_keys r_days r_values cI rkeys rdays rvalues rcount) ++ (wI_ y0 cI 1000 yv ++ (wI_ w0 cI 180 wv))) → va_S A s.heap H locs → lv_has ls 11 [(0, .ref d0), (1, .int l1), (2, .ref y0), (3, .ref w0), (4, .int l4), (5, .int l5), (6, .int l6), (7, .int l7), (8, .int l8), (9, .int l9)] → W p l e (headSpec wsL_isKey rm_L_isKey).room s m args below meth c H locs 0 0 (MQ below (Qi_ (dC, dI) (ty_ cI cZ cC cJ cD) R ((wD_ d0 s0 z0 b0 q0 t0 dhasSaved dkeptError dmoved ++ wS_ s0 v0 f0 r0 ++ wV_ v0 v_keys v_firsts v_ends v_values v_inferred v_gone cI cZ vkeys vfirsts vends vvalues vinferred vgone vmade ++ wF_ f0 f_keys f_days f_amounts f_versions cI fkeys fdays famounts fversions fcount ++ wR_ r0 r_keys r_days r_values cI rkeys rdays rvalues rcount) ++ (wI_ y0 cI 1000 yv ++ (wI_ w0 cI 180 wv))) A) args s 0 0 A) (F0 m 43 ls []) := by
        intro l1 l4 l5 l6 l7 l8 l9 dhasSaved dkeptError dmoved vkeys vfirsts vends vvalues vinferred vgone vmade fkeys fdays famounts fversions fcount rkeys rdays rvalues rcount yv wv H locs ls hf hP hD hS hl
        unfold f_L_isKey_J43 at hf
        try dsimp only at hf
        have bl65 : ∀ (l1 : Int32) (l4 : Int32) (l5 : Int32) (l6 : Int32) (l7 : Int32) (l8 : Int32) (l9 : Int32) (dhasSaved : Int32) (dkeptError : Int32) (dmoved : Int32) (vkeys : Nat → Int32) (vfirsts : Nat → Int32) (vends : Nat → Int32) (vvalues : Nat → Int32) (vinferred : Nat → Int32) (vgone : Nat → Int32) (vmade : Int32) (fkeys : Nat → Int32) (fdays : Nat → Int32) (famounts : Nat → Int32) (fversions : Nat → Int32) (fcount : Int32) (rkeys : Nat → Int32) (rdays : Nat → Int32) (rvalues : Nat → Int32) (rcount : Int32) (yv : Nat → Int32) (wv : Nat → Int32) (H : Heap) (locs : List Loc) (ls : Array Slot), f_L_isKey_J65 kx15 kl15 l1 l4 l5 l6 l7 l8 l9 (dhasSaved, dkeptError, dmoved) () (vkeys, vfirsts, vends, vvalues, vinferred, vgone, vmade) (fkeys, fdays, famounts, fversions, fcount) (rkeys, rdays, rvalues, rcount) yv wv = some R → va_P (dC, dI) vwCl ((wD_ d0 s0 z0 b0 q0 t0 dhasSaved dkeptError dmoved ++ wS_ s0 v0 f0 r0 ++ wV_ v0 v_keys v_firsts v_ends v_values v_inferred v_gone cI cZ vkeys vfirsts vends vvalues vinferred vgone vmade ++ wF_ f0 f_keys f_days f_amounts f_versions cI fkeys fdays famounts fversions fcount ++ wR_ r0 r_keys r_days r_values cI rkeys rdays rvalues rcount) ++ (wI_ y0 cI 1000 yv ++ (wI_ w0 cI 180 wv))) H → va_D A ((wD_ d0 s0 z0 b0 q0 t0 dhasSaved dkeptError dmoved ++ wS_ s0 v0 f0 r0 ++ wV_ v0 v_keys v_firsts v_ends v_values v_inferred v_gone cI cZ vkeys vfirsts vends vvalues vinferred vgone vmade ++ wF_ f0 f_keys f_days f_amounts f_versions cI fkeys fdays famounts fversions fcount ++ wR_ r0 r_keys r_days r_values cI rkeys rdays rvalues rcount) ++ (wI_ y0 cI 1000 yv ++ (wI_ w0 cI 180 wv))) → va_S A s.heap H locs → lv_has ls 11 [(0, .ref d0), (1, .int l1), (2, .ref y0), (3, .ref w0), (4, .int l4), (5, .int l5), (6, .int l6), (7, .int l7), (8, .int l8), (9, .int l9)] → W p l e (headSpec wsL_isKey rm_L_isKey).room s m args below meth c H locs 0 0 (MQ below (Qi_ (dC, dI) (ty_ cI cZ cC cJ cD) R ((wD_ d0 s0 z0 b0 q0 t0 dhasSaved dkeptError dmoved ++ wS_ s0 v0 f0 r0 ++ wV_ v0 v_keys v_firsts v_ends v_values v_inferred v_gone cI cZ vkeys vfirsts vends vvalues vinferred vgone vmade ++ wF_ f0 f_keys f_days f_amounts f_versions cI fkeys fdays famounts fversions fcount ++ wR_ r0 r_keys r_days r_values cI rkeys rdays rvalues rcount) ++ (wI_ y0 cI 1000 yv ++ (wI_ w0 cI 180 wv))) A) args s 0 0 A) (F0 m 65 ls []) := by
          intro l1 l4 l5 l6 l7 l8 l9 dhasSaved dkeptError dmoved vkeys vfirsts vends vvalues vinferred vgone vmade fkeys fdays famounts fversions fcount rkeys rdays rvalues rcount yv wv H locs ls hf hP hD hS hl
          unfold f_L_isKey_J65 at hf
          try dsimp only at hf
          refine lv_iload hx hb dL_isKey_65 (lv_at hl 8 rfl) ?_
          refine lv_istore (lv' := [(10, .int l8), (0, .ref d0), (1, .int l1), (2, .ref y0), (3, .ref w0), (4, .int l4), (5, .int l5), (6, .int l6), (7, .int l7), (8, .int l8), (9, .int l9)]) hx hb dL_isKey_67 hl (by decide) rfl (fun ls hl => ?_)
          have hkx69 : ∀ (l1 : Int32) (l4 : Int32) (l5 : Int32) (l6 : Int32) (l7 : Int32) (l8 : Int32) (l9 : Int32) (l10 : Int32) (dhasSaved : Int32) (dkeptError : Int32) (dmoved : Int32) (vkeys : Nat → Int32) (vfirsts : Nat → Int32) (vends : Nat → Int32) (vvalues : Nat → Int32) (vinferred : Nat → Int32) (vgone : Nat → Int32) (vmade : Int32) (fkeys : Nat → Int32) (fdays : Nat → Int32) (famounts : Nat → Int32) (fversions : Nat → Int32) (fcount : Int32) (rkeys : Nat → Int32) (rdays : Nat → Int32) (rvalues : Nat → Int32) (rcount : Int32) (yv : Nat → Int32) (wv : Nat → Int32) (H : Heap) (locs : List Loc) (ls : Array Slot), (f_L_isKey_X69 kx15 kl15) l1 l4 l5 l6 l7 l8 l9 l10 (dhasSaved, dkeptError, dmoved) () (vkeys, vfirsts, vends, vvalues, vinferred, vgone, vmade) (fkeys, fdays, famounts, fversions, fcount) (rkeys, rdays, rvalues, rcount) yv wv = some R → va_P (dC, dI) vwCl ((wD_ d0 s0 z0 b0 q0 t0 dhasSaved dkeptError dmoved ++ wS_ s0 v0 f0 r0 ++ wV_ v0 v_keys v_firsts v_ends v_values v_inferred v_gone cI cZ vkeys vfirsts vends vvalues vinferred vgone vmade ++ wF_ f0 f_keys f_days f_amounts f_versions cI fkeys fdays famounts fversions fcount ++ wR_ r0 r_keys r_days r_values cI rkeys rdays rvalues rcount) ++ (wI_ y0 cI 1000 yv ++ (wI_ w0 cI 180 wv))) H → va_D A ((wD_ d0 s0 z0 b0 q0 t0 dhasSaved dkeptError dmoved ++ wS_ s0 v0 f0 r0 ++ wV_ v0 v_keys v_firsts v_ends v_values v_inferred v_gone cI cZ vkeys vfirsts vends vvalues vinferred vgone vmade ++ wF_ f0 f_keys f_days f_amounts f_versions cI fkeys fdays famounts fversions fcount ++ wR_ r0 r_keys r_days r_values cI rkeys rdays rvalues rcount) ++ (wI_ y0 cI 1000 yv ++ (wI_ w0 cI 180 wv))) → va_S A s.heap H locs → lv_has ls 11 [(0, .ref d0), (1, .int l1), (2, .ref y0), (3, .ref w0), (4, .int l4), (5, .int l5), (6, .int l6), (7, .int l7), (8, .int l8), (9, .int l9), (10, .int l10)] → W p l e (headSpec wsL_isKey rm_L_isKey).room s m args below meth c H locs 0 0 (MQ below (Qi_ (dC, dI) (ty_ cI cZ cC cJ cD) R ((wD_ d0 s0 z0 b0 q0 t0 dhasSaved dkeptError dmoved ++ wS_ s0 v0 f0 r0 ++ wV_ v0 v_keys v_firsts v_ends v_values v_inferred v_gone cI cZ vkeys vfirsts vends vvalues vinferred vgone vmade ++ wF_ f0 f_keys f_days f_amounts f_versions cI fkeys fdays famounts fversions fcount ++ wR_ r0 r_keys r_days r_values cI rkeys rdays rvalues rcount) ++ (wI_ y0 cI 1000 yv ++ (wI_ w0 cI 180 wv))) A) args s 0 0 A) (F0 m 92 ls []) := by
            intro l1 l4 l5 l6 l7 l8 l9 l10 dhasSaved dkeptError dmoved vkeys vfirsts vends vvalues vinferred vgone vmade fkeys fdays famounts fversions fcount rkeys rdays rvalues rcount yv wv H locs ls hf hP hD hS hl
            unfold f_L_isKey_X69 at hf
            try dsimp only at hf
            have bl92 : ∀ (l1 : Int32) (l4 : Int32) (l5 : Int32) (l6 : Int32) (l7 : Int32) (l8 : Int32) (l9 : Int32) (l10 : Int32) (dhasSaved : Int32) (dkeptError : Int32) (dmoved : Int32) (vkeys : Nat → Int32) (vfirsts : Nat → Int32) (vends : Nat → Int32) (vvalues : Nat → Int32) (vinferred : Nat → Int32) (vgone : Nat → Int32) (vmade : Int32) (fkeys : Nat → Int32) (fdays : Nat → Int32) (famounts : Nat → Int32) (fversions : Nat → Int32) (fcount : Int32) (rkeys : Nat → Int32) (rdays : Nat → Int32) (rvalues : Nat → Int32) (rcount : Int32) (yv : Nat → Int32) (wv : Nat → Int32) (H : Heap) (locs : List Loc) (ls : Array Slot), f_L_isKey_J92 kx15 kl15 l1 l4 l5 l6 l7 l8 l9 l10 (dhasSaved, dkeptError, dmoved) () (vkeys, vfirsts, vends, vvalues, vinferred, vgone, vmade) (fkeys, fdays, famounts, fversions, fcount) (rkeys, rdays, rvalues, rcount) yv wv = some R → va_P (dC, dI) vwCl ((wD_ d0 s0 z0 b0 q0 t0 dhasSaved dkeptError dmoved ++ wS_ s0 v0 f0 r0 ++ wV_ v0 v_keys v_firsts v_ends v_values v_inferred v_gone cI cZ vkeys vfirsts vends vvalues vinferred vgone vmade ++ wF_ f0 f_keys f_days f_amounts f_versions cI fkeys fdays famounts fversions fcount ++ wR_ r0 r_keys r_days r_values cI rkeys rdays rvalues rcount) ++ (wI_ y0 cI 1000 yv ++ (wI_ w0 cI 180 wv))) H → va_D A ((wD_ d0 s0 z0 b0 q0 t0 dhasSaved dkeptError dmoved ++ wS_ s0 v0 f0 r0 ++ wV_ v0 v_keys v_firsts v_ends v_values v_inferred v_gone cI cZ vkeys vfirsts vends vvalues vinferred vgone vmade ++ wF_ f0 f_keys f_days f_amounts f_versions cI fkeys fdays famounts fversions fcount ++ wR_ r0 r_keys r_days r_values cI rkeys rdays rvalues rcount) ++ (wI_ y0 cI 1000 yv ++ (wI_ w0 cI 180 wv))) → va_S A s.heap H locs → lv_has ls 11 [(0, .ref d0), (1, .int l1), (2, .ref y0), (3, .ref w0), (4, .int l4), (5, .int l5), (6, .int l6), (7, .int l7), (8, .int l8), (9, .int l9), (10, .int l10)] → W p l e (headSpec wsL_isKey rm_L_isKey).room s m args below meth c H locs 0 0 (MQ below (Qi_ (dC, dI) (ty_ cI cZ cC cJ cD) R ((wD_ d0 s0 z0 b0 q0 t0 dhasSaved dkeptError dmoved ++ wS_ s0 v0 f0 r0 ++ wV_ v0 v_keys v_firsts v_ends v_values v_inferred v_gone cI cZ vkeys vfirsts vends vvalues vinferred vgone vmade ++ wF_ f0 f_keys f_days f_amounts f_versions cI fkeys fdays famounts fversions fcount ++ wR_ r0 r_keys r_days r_values cI rkeys rdays rvalues rcount) ++ (wI_ y0 cI 1000 yv ++ (wI_ w0 cI 180 wv))) A) args s 0 0 A) (F0 m 92 ls []) := by
              intro l1 l4 l5 l6 l7 l8 l9 l10 dhasSaved dkeptError dmoved vkeys vfirsts vends vvalues vinferred vgone vmade fkeys fdays famounts fversions fcount rkeys rdays rvalues rcount yv wv H locs ls hf hP hD hS hl
              unfold f_L_isKey_J92 at hf
              try dsimp only at hf
              have bl193 : ∀ (l1 : Int32) (l4 : Int32) (l5 : Int32) (l6 : Int32) (l7 : Int32) (l8 : Int32) (l9 : Int32) (l10 : Int32) (k0_ : Int32) (k1_ : Int32) (dhasSaved : Int32) (dkeptError : Int32) (dmoved : Int32) (vkeys : Nat → Int32) (vfirsts : Nat → Int32) (vends : Nat → Int32) (vvalues : Nat → Int32) (vinferred : Nat → Int32) (vgone : Nat → Int32) (vmade : Int32) (fkeys : Nat → Int32) (fdays : Nat → Int32) (famounts : Nat → Int32) (fversions : Nat → Int32) (fcount : Int32) (rkeys : Nat → Int32) (rdays : Nat → Int32) (rvalues : Nat → Int32) (rcount : Int32) (yv : Nat → Int32) (wv : Nat → Int32) (H : Heap) (locs : List Loc) (ls : Array Slot), f_L_isKey_J193 kx15 kl15 l1 l4 l5 l6 l7 l8 l9 l10 k0_ k1_ (dhasSaved, dkeptError, dmoved) () (vkeys, vfirsts, vends, vvalues, vinferred, vgone, vmade) (fkeys, fdays, famounts, fversions, fcount) (rkeys, rdays, rvalues, rcount) yv wv = some R → va_P (dC, dI) vwCl ((wD_ d0 s0 z0 b0 q0 t0 dhasSaved dkeptError dmoved ++ wS_ s0 v0 f0 r0 ++ wV_ v0 v_keys v_firsts v_ends v_values v_inferred v_gone cI cZ vkeys vfirsts vends vvalues vinferred vgone vmade ++ wF_ f0 f_keys f_days f_amounts f_versions cI fkeys fdays famounts fversions fcount ++ wR_ r0 r_keys r_days r_values cI rkeys rdays rvalues rcount) ++ (wI_ y0 cI 1000 yv ++ (wI_ w0 cI 180 wv))) H → va_D A ((wD_ d0 s0 z0 b0 q0 t0 dhasSaved dkeptError dmoved ++ wS_ s0 v0 f0 r0 ++ wV_ v0 v_keys v_firsts v_ends v_values v_inferred v_gone cI cZ vkeys vfirsts vends vvalues vinferred vgone vmade ++ wF_ f0 f_keys f_days f_amounts f_versions cI fkeys fdays famounts fversions fcount ++ wR_ r0 r_keys r_days r_values cI rkeys rdays rvalues rcount) ++ (wI_ y0 cI 1000 yv ++ (wI_ w0 cI 180 wv))) → va_S A s.heap H locs → lv_has ls 11 [(0, .ref d0), (1, .int l1), (2, .ref y0), (3, .ref w0), (4, .int l4), (5, .int l5), (6, .int l6), (7, .int l7), (8, .int l8), (9, .int l9), (10, .int l10)] → W p l e (headSpec wsL_isKey rm_L_isKey).room s m args below meth c H locs 0 0 (MQ below (Qi_ (dC, dI) (ty_ cI cZ cC cJ cD) R ((wD_ d0 s0 z0 b0 q0 t0 dhasSaved dkeptError dmoved ++ wS_ s0 v0 f0 r0 ++ wV_ v0 v_keys v_firsts v_ends v_values v_inferred v_gone cI cZ vkeys vfirsts vends vvalues vinferred vgone vmade ++ wF_ f0 f_keys f_days f_amounts f_versions cI fkeys fdays famounts fversions fcount ++ wR_ r0 r_keys r_days r_values cI rkeys rdays rvalues rcount) ++ (wI_ y0 cI 1000 yv ++ (wI_ w0 cI 180 wv))) A) args s 0 0 A) (F0 m 193 ls [.int k1_, .int k0_]) := by
                intro l1 l4 l5 l6 l7 l8 l9 l10 k0_ k1_ dhasSaved dkeptError dmoved vkeys vfirsts vends vvalues vinferred vgone vmade fkeys fdays famounts fversions fcount rkeys rdays rvalues rcount yv wv H locs ls hf hP hD hS hl
                unfold f_L_isKey_J193 at hf
                try dsimp only at hf
                refine lv_icmp_ne (tgt := 222) hx hb dL_isKey_193 (by decide) (fun c138 => ?_) (fun c138 => ?_)
                · have hf := ite_F c138 hf
                  refine lv_iconst (v := (-1)) hx hb dL_isKey_222 (by decide) ?_
                  have hR := Option.some.inj hf
                  subst hR
                  exact W.iret (v := (-1 : Int32)) hx hb hr (fun t ht hW => ⟨⟨(-1 : Int32), (), rfl, rfl, by rw [ht]; exact hP, va_K.moved hW.alike hK, hD⟩, hS.F ht⟩) hS.2.2 dL_isKey_223
                · have hf := ite_T c138 hf
                  refine lv_aload_n hx hb dL_isKey_196 rfl (lv_at hl 0 rfl) ?_
                  refine lv_iload_n hx hb dL_isKey_197 rfl (lv_at hl 1 rfl) ?_
                  refine lv_iload hx hb dL_isKey_198 (lv_at hl 8 rfl) ?_
                  obtain ⟨R141, g142, hf⟩ := bd_B hf
                  obtain ⟨x139, rfl⟩ : ∃ z, z = R141 := ⟨_, rfl⟩
                  have hPc : va_P (dC, dI) vwCl (wD_ d0 s0 z0 b0 q0 t0 dhasSaved dkeptError dmoved ++ wS_ s0 v0 f0 r0 ++ wV_ v0 v_keys v_firsts v_ends v_values v_inferred v_gone cI cZ vkeys vfirsts vends vvalues vinferred vgone vmade ++ wF_ f0 f_keys f_days f_amounts f_versions cI fkeys fdays famounts fversions fcount ++ wR_ r0 r_keys r_days r_values cI rkeys rdays rvalues rcount) H := P_pre hP
                  have hDc : va_D A (wD_ d0 s0 z0 b0 q0 t0 dhasSaved dkeptError dmoved ++ wS_ s0 v0 f0 r0 ++ wV_ v0 v_keys v_firsts v_ends v_values v_inferred v_gone cI cZ vkeys vfirsts vends vvalues vinferred vgone vmade ++ wF_ f0 f_keys f_days f_amounts f_versions cI fkeys fdays famounts fversions fcount ++ wR_ r0 r_keys r_days r_values cI rkeys rdays rvalues rcount) := D_pre hD
                  have hFc := F_of hDc hS hA
                  cases x139 with
                  | error E147 =>
                    exact absurd hf (fun h => nomatch h)
                  | ok r140 =>
                    refine va_calli (va_runV (As := [.int l1, .int l8]) (rest := []) ⟨hx, hb, hml, hown, hts⟩ (cn_X5_validOn l dC dI cI cZ cC cJ cD d0 s0 z0 b0 q0 t0 v0 f0 r0 v_keys v_firsts v_ends v_values v_inferred v_gone f_keys f_days f_amounts f_versions r_keys r_days r_values H.size dhasSaved dkeptError dmoved vkeys vfirsts vends vvalues vinferred vgone vmade fkeys fdays famounts fversions fcount rkeys rdays rvalues rcount l1 l8 (Except.ok r140) g142 r140 rfl) (cwV 2 hts gL_isKey_X5_validOn rfl rfl rfl hs_X5_validOn ⟨Nat.le_of_ble_eq_true rfl, Nat.le_of_ble_eq_true rfl⟩) (preV_ (ci := 7) (q0 := 0) hPc hK hDc rfl rfl rfl rfl) rfl rfl hl.1 rfl (lv_room (Nat.le_of_ble_eq_true rfl)) dL_isKey_200 ⟨Nat.le_of_ble_eq_true rfl, Nat.le_of_ble_eq_true rfl⟩) hS (fun q _ h => hFc q h) hFc (fun z146 u t H145 locs ht hvm hw hB hz1 hk1 hS => ?_)
                    have hw : r140 = z146 := hw.symm
                    subst hw
                    obtain ⟨hP, hD⟩ := preJ0_ (X' := wD_ d0 s0 z0 b0 q0 t0 dhasSaved dkeptError dmoved ++ wS_ s0 v0 f0 r0 ++ wV_ v0 v_keys v_firsts v_ends v_values v_inferred v_gone cI cZ vkeys vfirsts vends vvalues vinferred vgone vmade ++ wF_ f0 f_keys f_days f_amounts f_versions cI fkeys fdays famounts fversions fcount ++ wR_ r0 r_keys r_days r_values cI rkeys rdays rvalues rcount) hP hD rfl hk1 hB ht
                    refine lv_iload hx hb dL_isKey_203 (lv_at hl 9 rfl) ?_
                    refine lv_icmp_ne (tgt := 222) hx hb dL_isKey_205 (by decide) (fun c148 => ?_) (fun c148 => ?_)
                    · have hf := ite_F c148 hf
                      refine lv_iconst (v := (-1)) hx hb dL_isKey_222 (by decide) ?_
                      have hR := Option.some.inj hf
                      subst hR
                      exact W.iret (v := (-1 : Int32)) hx hb hr (fun t ht hW => ⟨⟨(-1 : Int32), (), rfl, rfl, by rw [ht]; exact hP, va_K.moved hW.alike hK, hD⟩, hS.F ht⟩) hS.2.2 dL_isKey_223
                    · have hf := ite_T c148 hf
                      refine lv_aload_n hx hb dL_isKey_208 rfl (lv_at hl 0 rfl) ?_
                      refine lv_iload_n hx hb dL_isKey_209 rfl (lv_at hl 1 rfl) ?_
                      refine lv_iload hx hb dL_isKey_210 (lv_at hl 10 rfl) ?_
                      refine lv_iconst (v := 1) hx hb dL_isKey_212 (by decide) ?_
                      refine lv_isub hx hb dL_isKey_213 ?_
                      obtain ⟨R151, g152, hf⟩ := bd_B hf
                      obtain ⟨x149, rfl⟩ : ∃ z, z = R151 := ⟨_, rfl⟩
                      have hPc : va_P (dC, dI) vwCl (wD_ d0 s0 z0 b0 q0 t0 dhasSaved dkeptError dmoved ++ wS_ s0 v0 f0 r0 ++ wV_ v0 v_keys v_firsts v_ends v_values v_inferred v_gone cI cZ vkeys vfirsts vends vvalues vinferred vgone vmade ++ wF_ f0 f_keys f_days f_amounts f_versions cI fkeys fdays famounts fversions fcount ++ wR_ r0 r_keys r_days r_values cI rkeys rdays rvalues rcount) H145 := P_pre hP
                      have hDc : va_D A (wD_ d0 s0 z0 b0 q0 t0 dhasSaved dkeptError dmoved ++ wS_ s0 v0 f0 r0 ++ wV_ v0 v_keys v_firsts v_ends v_values v_inferred v_gone cI cZ vkeys vfirsts vends vvalues vinferred vgone vmade ++ wF_ f0 f_keys f_days f_amounts f_versions cI fkeys fdays famounts fversions fcount ++ wR_ r0 r_keys r_days r_values cI rkeys rdays rvalues rcount) := D_pre hD
                      have hFc := F_of hDc hS hA
                      cases x149 with
                      | error E157 =>
                        exact absurd hf (fun h => nomatch h)
                      | ok r150 =>
                        refine va_calli (va_runV (As := [.int l1, .int (l10 - 1)]) (rest := []) ⟨hx, hb, hml, hown, hts⟩ (cn_X5_validOn l dC dI cI cZ cC cJ cD d0 s0 z0 b0 q0 t0 v0 f0 r0 v_keys v_firsts v_ends v_values v_inferred v_gone f_keys f_days f_amounts f_versions r_keys r_days r_values H145.size dhasSaved dkeptError dmoved vkeys vfirsts vends vvalues vinferred vgone vmade fkeys fdays famounts fversions fcount rkeys rdays rvalues rcount l1 (l10 - 1) (Except.ok r150) g152 r150 rfl) (cwV 2 hts gL_isKey_X5_validOn rfl rfl rfl hs_X5_validOn ⟨Nat.le_of_ble_eq_true rfl, Nat.le_of_ble_eq_true rfl⟩) (preV_ (ci := 7) (q0 := 0) hPc hK hDc rfl rfl rfl rfl) rfl rfl hl.1 rfl (lv_room (Nat.le_of_ble_eq_true rfl)) dL_isKey_214 ⟨Nat.le_of_ble_eq_true rfl, Nat.le_of_ble_eq_true rfl⟩) hS (fun q _ h => hFc q h) hFc (fun z156 u t H155 locs ht hvm hw hB hz1 hk1 hS => ?_)
                        have hw : r150 = z156 := hw.symm
                        subst hw
                        obtain ⟨hP, hD⟩ := preJ0_ (X' := wD_ d0 s0 z0 b0 q0 t0 dhasSaved dkeptError dmoved ++ wS_ s0 v0 f0 r0 ++ wV_ v0 v_keys v_firsts v_ends v_values v_inferred v_gone cI cZ vkeys vfirsts vends vvalues vinferred vgone vmade ++ wF_ f0 f_keys f_days f_amounts f_versions cI fkeys fdays famounts fversions fcount ++ wR_ r0 r_keys r_days r_values cI rkeys rdays rvalues rcount) hP hD rfl hk1 hB ht
                        refine lv_iload hx hb dL_isKey_217 (lv_at hl 9 rfl) ?_
                        refine lv_icmp_eq (tgt := 224) hx hb dL_isKey_219 (by decide) (fun c158 => ?_) (fun c158 => ?_)
                        · have hf := ite_T c158 hf
                          refine lv_iinc (v := l4 + 1) (lv' := [(4, .int (l4 + 1)), (0, .ref d0), (1, .int l1), (2, .ref y0), (3, .ref w0), (5, .int l5), (6, .int l6), (7, .int l7), (8, .int l8), (9, .int l9), (10, .int l10)]) hx hb dL_isKey_224 hl (k := 4) rfl (by first | rfl | decide) (by decide) rfl (fun ls hl => ?_)
                          refine lv_goto (tgt := 285) hx hb dL_isKey_227 (by decide) ?_
                          refine lv_iinc (v := l8 + 1) (lv' := [(8, .int (l8 + 1)), (4, .int (l4 + 1)), (0, .ref d0), (1, .int l1), (2, .ref y0), (3, .ref w0), (5, .int l5), (6, .int l6), (7, .int l7), (9, .int l9), (10, .int l10)]) hx hb dL_isKey_285 hl (k := 8) rfl (by first | rfl | decide) (by decide) rfl (fun ls hl => ?_)
                          refine lv_goto (tgt := 15) hx hb dL_isKey_288 (by decide) ?_
                          exact ih l1 (l4 + 1) l5 l6 l7 (l8 + 1) dhasSaved dkeptError dmoved vkeys vfirsts vends vvalues vinferred vgone vmade fkeys fdays famounts fversions fcount rkeys rdays rvalues rcount yv wv _ _ _ hf hP hD hS (lv_sub hl [2, 3, 4, 5, 1, 6, 7, 8, 0] rfl)
                        · have hf := ite_F c158 hf
                          refine lv_iconst (v := (-1)) hx hb dL_isKey_222 (by decide) ?_
                          have hR := Option.some.inj hf
                          subst hR
                          exact W.iret (v := (-1 : Int32)) hx hb hr (fun t ht hW => ⟨⟨(-1 : Int32), (), rfl, rfl, by rw [ht]; exact hP, va_K.moved hW.alike hK, hD⟩, hS.F ht⟩) hS.2.2 dL_isKey_223
              refine lv_aload_n hx hb dL_isKey_92 rfl (lv_at hl 0 rfl) ?_
              refine lv_iload_n hx hb dL_isKey_93 rfl (lv_at hl 1 rfl) ?_
              refine lv_iload hx hb dL_isKey_94 (lv_at hl 4 rfl) ?_
              obtain ⟨R68, g69, hf⟩ := bd_B hf
              obtain ⟨x66, rfl⟩ : ∃ z, z = R68 := ⟨_, rfl⟩
              have hPc : va_P (dC, dI) vwCl (wD_ d0 s0 z0 b0 q0 t0 dhasSaved dkeptError dmoved ++ wS_ s0 v0 f0 r0 ++ wV_ v0 v_keys v_firsts v_ends v_values v_inferred v_gone cI cZ vkeys vfirsts vends vvalues vinferred vgone vmade ++ wF_ f0 f_keys f_days f_amounts f_versions cI fkeys fdays famounts fversions fcount ++ wR_ r0 r_keys r_days r_values cI rkeys rdays rvalues rcount) H := P_pre hP
              have hDc : va_D A (wD_ d0 s0 z0 b0 q0 t0 dhasSaved dkeptError dmoved ++ wS_ s0 v0 f0 r0 ++ wV_ v0 v_keys v_firsts v_ends v_values v_inferred v_gone cI cZ vkeys vfirsts vends vvalues vinferred vgone vmade ++ wF_ f0 f_keys f_days f_amounts f_versions cI fkeys fdays famounts fversions fcount ++ wR_ r0 r_keys r_days r_values cI rkeys rdays rvalues rcount) := D_pre hD
              have hFc := F_of hDc hS hA
              cases x66 with
              | error E74 =>
                exact absurd hf (fun h => nomatch h)
              | ok r67 =>
                refine va_calli (va_runV (As := [.int l1, .int l4]) (rest := []) ⟨hx, hb, hml, hown, hts⟩ (cn_X5_versionAt l dC dI cI cZ cC cJ cD d0 s0 z0 b0 q0 t0 v0 f0 r0 v_keys v_firsts v_ends v_values v_inferred v_gone f_keys f_days f_amounts f_versions r_keys r_days r_values H.size dhasSaved dkeptError dmoved vkeys vfirsts vends vvalues vinferred vgone vmade fkeys fdays famounts fversions fcount rkeys rdays rvalues rcount l1 l4 (Except.ok r67) g69 r67 rfl) (cwV 2 hts gL_isKey_X5_versionAt rfl rfl rfl hs_X5_versionAt ⟨Nat.le_of_ble_eq_true rfl, Nat.le_of_ble_eq_true rfl⟩) (preV_ (ci := 7) (q0 := 0) hPc hK hDc rfl rfl rfl rfl) rfl rfl hl.1 rfl (lv_room (Nat.le_of_ble_eq_true rfl)) dL_isKey_96 ⟨Nat.le_of_ble_eq_true rfl, Nat.le_of_ble_eq_true rfl⟩) hS (fun q _ h => hFc q h) hFc (fun z73 u t H72 locs ht hvm hw hB hz1 hk1 hS => ?_)
                have hw : r67 = z73 := hw.symm
                subst hw
                obtain ⟨hP, hD⟩ := preJ0_ (X' := wD_ d0 s0 z0 b0 q0 t0 dhasSaved dkeptError dmoved ++ wS_ s0 v0 f0 r0 ++ wV_ v0 v_keys v_firsts v_ends v_values v_inferred v_gone cI cZ vkeys vfirsts vends vvalues vinferred vgone vmade ++ wF_ f0 f_keys f_days f_amounts f_versions cI fkeys fdays famounts fversions fcount ++ wR_ r0 r_keys r_days r_values cI rkeys rdays rvalues rcount) hP hD rfl hk1 hB ht
                refine lv_iload hx hb dL_isKey_99 (lv_at hl 9 rfl) ?_
                refine lv_icmp_ne (tgt := 222) hx hb dL_isKey_101 (by decide) (fun c75 => ?_) (fun c75 => ?_)
                · have hf := ite_F c75 hf
                  refine lv_iconst (v := (-1)) hx hb dL_isKey_222 (by decide) ?_
                  have hR := Option.some.inj hf
                  subst hR
                  exact W.iret (v := (-1 : Int32)) hx hb hr (fun t ht hW => ⟨⟨(-1 : Int32), (), rfl, rfl, by rw [ht]; exact hP, va_K.moved hW.alike hK, hD⟩, hS.F ht⟩) hS.2.2 dL_isKey_223
                · have hf := ite_T c75 hf
                  refine lv_aload_n hx hb dL_isKey_104 rfl (lv_at hl 0 rfl) ?_
                  refine lv_iload hx hb dL_isKey_105 (lv_at hl 9 rfl) ?_
                  refine lv_iconst (v := 0) hx hb dL_isKey_107 (by decide) ?_
                  obtain ⟨R78, g79, hf⟩ := bd_B hf
                  obtain ⟨x76, rfl⟩ : ∃ z, z = R78 := ⟨_, rfl⟩
                  have hPc : va_P (dC, dI) vwCl (wD_ d0 s0 z0 b0 q0 t0 dhasSaved dkeptError dmoved ++ wS_ s0 v0 f0 r0 ++ wV_ v0 v_keys v_firsts v_ends v_values v_inferred v_gone cI cZ vkeys vfirsts vends vvalues vinferred vgone vmade ++ wF_ f0 f_keys f_days f_amounts f_versions cI fkeys fdays famounts fversions fcount ++ wR_ r0 r_keys r_days r_values cI rkeys rdays rvalues rcount) H72 := P_pre hP
                  have hDc : va_D A (wD_ d0 s0 z0 b0 q0 t0 dhasSaved dkeptError dmoved ++ wS_ s0 v0 f0 r0 ++ wV_ v0 v_keys v_firsts v_ends v_values v_inferred v_gone cI cZ vkeys vfirsts vends vvalues vinferred vgone vmade ++ wF_ f0 f_keys f_days f_amounts f_versions cI fkeys fdays famounts fversions fcount ++ wR_ r0 r_keys r_days r_values cI rkeys rdays rvalues rcount) := D_pre hD
                  have hFc := F_of hDc hS hA
                  cases x76 with
                  | error E84 =>
                    exact absurd hf (fun h => nomatch h)
                  | ok r77 =>
                    refine va_calli (va_runV (As := [.int l9, .int 0]) (rest := []) ⟨hx, hb, hml, hown, hts⟩ (cn_X5_version l dC dI cI cZ cC cJ cD d0 s0 z0 b0 q0 t0 v0 f0 r0 v_keys v_firsts v_ends v_values v_inferred v_gone f_keys f_days f_amounts f_versions r_keys r_days r_values H72.size dhasSaved dkeptError dmoved vkeys vfirsts vends vvalues vinferred vgone vmade fkeys fdays famounts fversions fcount rkeys rdays rvalues rcount l9 (0 : Int32) (Except.ok r77) g79 r77 rfl) (cwV 2 hts gL_isKey_X5_version rfl rfl rfl hs_X5_version ⟨Nat.le_of_ble_eq_true rfl, Nat.le_of_ble_eq_true rfl⟩) (preV_ (ci := 7) (q0 := 0) hPc hK hDc rfl rfl rfl rfl) rfl rfl hl.1 rfl (lv_room (Nat.le_of_ble_eq_true rfl)) dL_isKey_108 ⟨Nat.le_of_ble_eq_true rfl, Nat.le_of_ble_eq_true rfl⟩) hS (fun q _ h => hFc q h) hFc (fun z83 u t H82 locs ht hvm hw hB hz1 hk1 hS => ?_)
                    have hw : r77 = z83 := hw.symm
                    subst hw
                    obtain ⟨hP, hD⟩ := preJ0_ (X' := wD_ d0 s0 z0 b0 q0 t0 dhasSaved dkeptError dmoved ++ wS_ s0 v0 f0 r0 ++ wV_ v0 v_keys v_firsts v_ends v_values v_inferred v_gone cI cZ vkeys vfirsts vends vvalues vinferred vgone vmade ++ wF_ f0 f_keys f_days f_amounts f_versions cI fkeys fdays famounts fversions fcount ++ wR_ r0 r_keys r_days r_values cI rkeys rdays rvalues rcount) hP hD rfl hk1 hB ht
                    refine lv_iload_n hx hb dL_isKey_111 rfl (lv_at hl 1 rfl) ?_
                    refine lv_icmp_ne (tgt := 222) hx hb dL_isKey_112 (by decide) (fun c85 => ?_) (fun c85 => ?_)
                    · have hf := ite_F c85 hf
                      refine lv_iconst (v := (-1)) hx hb dL_isKey_222 (by decide) ?_
                      have hR := Option.some.inj hf
                      subst hR
                      exact W.iret (v := (-1 : Int32)) hx hb hr (fun t ht hW => ⟨⟨(-1 : Int32), (), rfl, rfl, by rw [ht]; exact hP, va_K.moved hW.alike hK, hD⟩, hS.F ht⟩) hS.2.2 dL_isKey_223
                    · have hf := ite_T c85 hf
                      refine lv_aload_n hx hb dL_isKey_115 rfl (lv_at hl 0 rfl) ?_
                      refine lv_iload hx hb dL_isKey_116 (lv_at hl 9 rfl) ?_
                      refine lv_iconst (v := 1) hx hb dL_isKey_118 (by decide) ?_
                      obtain ⟨R88, g89, hf⟩ := bd_B hf
                      obtain ⟨x86, rfl⟩ : ∃ z, z = R88 := ⟨_, rfl⟩
                      have hPc : va_P (dC, dI) vwCl (wD_ d0 s0 z0 b0 q0 t0 dhasSaved dkeptError dmoved ++ wS_ s0 v0 f0 r0 ++ wV_ v0 v_keys v_firsts v_ends v_values v_inferred v_gone cI cZ vkeys vfirsts vends vvalues vinferred vgone vmade ++ wF_ f0 f_keys f_days f_amounts f_versions cI fkeys fdays famounts fversions fcount ++ wR_ r0 r_keys r_days r_values cI rkeys rdays rvalues rcount) H82 := P_pre hP
                      have hDc : va_D A (wD_ d0 s0 z0 b0 q0 t0 dhasSaved dkeptError dmoved ++ wS_ s0 v0 f0 r0 ++ wV_ v0 v_keys v_firsts v_ends v_values v_inferred v_gone cI cZ vkeys vfirsts vends vvalues vinferred vgone vmade ++ wF_ f0 f_keys f_days f_amounts f_versions cI fkeys fdays famounts fversions fcount ++ wR_ r0 r_keys r_days r_values cI rkeys rdays rvalues rcount) := D_pre hD
                      have hFc := F_of hDc hS hA
                      cases x86 with
                      | error E94 =>
                        exact absurd hf (fun h => nomatch h)
                      | ok r87 =>
                        refine va_calli (va_runV (As := [.int l9, .int 1]) (rest := []) ⟨hx, hb, hml, hown, hts⟩ (cn_X5_version l dC dI cI cZ cC cJ cD d0 s0 z0 b0 q0 t0 v0 f0 r0 v_keys v_firsts v_ends v_values v_inferred v_gone f_keys f_days f_amounts f_versions r_keys r_days r_values H82.size dhasSaved dkeptError dmoved vkeys vfirsts vends vvalues vinferred vgone vmade fkeys fdays famounts fversions fcount rkeys rdays rvalues rcount l9 (1 : Int32) (Except.ok r87) g89 r87 rfl) (cwV 2 hts gL_isKey_X5_version rfl rfl rfl hs_X5_version ⟨Nat.le_of_ble_eq_true rfl, Nat.le_of_ble_eq_true rfl⟩) (preV_ (ci := 7) (q0 := 0) hPc hK hDc rfl rfl rfl rfl) rfl rfl hl.1 rfl (lv_room (Nat.le_of_ble_eq_true rfl)) dL_isKey_119 ⟨Nat.le_of_ble_eq_true rfl, Nat.le_of_ble_eq_true rfl⟩) hS (fun q _ h => hFc q h) hFc (fun z93 u t H92 locs ht hvm hw hB hz1 hk1 hS => ?_)
                        have hw : r87 = z93 := hw.symm
                        subst hw
                        obtain ⟨hP, hD⟩ := preJ0_ (X' := wD_ d0 s0 z0 b0 q0 t0 dhasSaved dkeptError dmoved ++ wS_ s0 v0 f0 r0 ++ wV_ v0 v_keys v_firsts v_ends v_values v_inferred v_gone cI cZ vkeys vfirsts vends vvalues vinferred vgone vmade ++ wF_ f0 f_keys f_days f_amounts f_versions cI fkeys fdays famounts fversions fcount ++ wR_ r0 r_keys r_days r_values cI rkeys rdays rvalues rcount) hP hD rfl hk1 hB ht
                        refine lv_iload hx hb dL_isKey_122 (lv_at hl 8 rfl) ?_
                        refine lv_icmp_ne (tgt := 222) hx hb dL_isKey_124 (by decide) (fun c95 => ?_) (fun c95 => ?_)
                        · have hf := ite_F c95 hf
                          refine lv_iconst (v := (-1)) hx hb dL_isKey_222 (by decide) ?_
                          have hR := Option.some.inj hf
                          subst hR
                          exact W.iret (v := (-1 : Int32)) hx hb hr (fun t ht hW => ⟨⟨(-1 : Int32), (), rfl, rfl, by rw [ht]; exact hP, va_K.moved hW.alike hK, hD⟩, hS.F ht⟩) hS.2.2 dL_isKey_223
                        · have hf := ite_T c95 hf
                          refine lv_aload_n hx hb dL_isKey_127 rfl (lv_at hl 0 rfl) ?_
                          refine lv_iload hx hb dL_isKey_128 (lv_at hl 9 rfl) ?_
                          refine lv_iconst (v := 2) hx hb dL_isKey_130 (by decide) ?_
                          obtain ⟨R98, g99, hf⟩ := bd_B hf
                          obtain ⟨x96, rfl⟩ : ∃ z, z = R98 := ⟨_, rfl⟩
                          have hPc : va_P (dC, dI) vwCl (wD_ d0 s0 z0 b0 q0 t0 dhasSaved dkeptError dmoved ++ wS_ s0 v0 f0 r0 ++ wV_ v0 v_keys v_firsts v_ends v_values v_inferred v_gone cI cZ vkeys vfirsts vends vvalues vinferred vgone vmade ++ wF_ f0 f_keys f_days f_amounts f_versions cI fkeys fdays famounts fversions fcount ++ wR_ r0 r_keys r_days r_values cI rkeys rdays rvalues rcount) H92 := P_pre hP
                          have hDc : va_D A (wD_ d0 s0 z0 b0 q0 t0 dhasSaved dkeptError dmoved ++ wS_ s0 v0 f0 r0 ++ wV_ v0 v_keys v_firsts v_ends v_values v_inferred v_gone cI cZ vkeys vfirsts vends vvalues vinferred vgone vmade ++ wF_ f0 f_keys f_days f_amounts f_versions cI fkeys fdays famounts fversions fcount ++ wR_ r0 r_keys r_days r_values cI rkeys rdays rvalues rcount) := D_pre hD
                          have hFc := F_of hDc hS hA
                          cases x96 with
                          | error E104 =>
                            exact absurd hf (fun h => nomatch h)
                          | ok r97 =>
                            refine va_calli (va_runV (As := [.int l9, .int 2]) (rest := []) ⟨hx, hb, hml, hown, hts⟩ (cn_X5_version l dC dI cI cZ cC cJ cD d0 s0 z0 b0 q0 t0 v0 f0 r0 v_keys v_firsts v_ends v_values v_inferred v_gone f_keys f_days f_amounts f_versions r_keys r_days r_values H92.size dhasSaved dkeptError dmoved vkeys vfirsts vends vvalues vinferred vgone vmade fkeys fdays famounts fversions fcount rkeys rdays rvalues rcount l9 (2 : Int32) (Except.ok r97) g99 r97 rfl) (cwV 2 hts gL_isKey_X5_version rfl rfl rfl hs_X5_version ⟨Nat.le_of_ble_eq_true rfl, Nat.le_of_ble_eq_true rfl⟩) (preV_ (ci := 7) (q0 := 0) hPc hK hDc rfl rfl rfl rfl) rfl rfl hl.1 rfl (lv_room (Nat.le_of_ble_eq_true rfl)) dL_isKey_131 ⟨Nat.le_of_ble_eq_true rfl, Nat.le_of_ble_eq_true rfl⟩) hS (fun q _ h => hFc q h) hFc (fun z103 u t H102 locs ht hvm hw hB hz1 hk1 hS => ?_)
                            have hw : r97 = z103 := hw.symm
                            subst hw
                            obtain ⟨hP, hD⟩ := preJ0_ (X' := wD_ d0 s0 z0 b0 q0 t0 dhasSaved dkeptError dmoved ++ wS_ s0 v0 f0 r0 ++ wV_ v0 v_keys v_firsts v_ends v_values v_inferred v_gone cI cZ vkeys vfirsts vends vvalues vinferred vgone vmade ++ wF_ f0 f_keys f_days f_amounts f_versions cI fkeys fdays famounts fversions fcount ++ wR_ r0 r_keys r_days r_values cI rkeys rdays rvalues rcount) hP hD rfl hk1 hB ht
                            refine lv_iload hx hb dL_isKey_134 (lv_at hl 10 rfl) ?_
                            refine lv_icmp_ne (tgt := 222) hx hb dL_isKey_136 (by decide) (fun c105 => ?_) (fun c105 => ?_)
                            · have hf := ite_F c105 hf
                              refine lv_iconst (v := (-1)) hx hb dL_isKey_222 (by decide) ?_
                              have hR := Option.some.inj hf
                              subst hR
                              exact W.iret (v := (-1 : Int32)) hx hb hr (fun t ht hW => ⟨⟨(-1 : Int32), (), rfl, rfl, by rw [ht]; exact hP, va_K.moved hW.alike hK, hD⟩, hS.F ht⟩) hS.2.2 dL_isKey_223
                            · have hf := ite_T c105 hf
                              refine lv_aload_n hx hb dL_isKey_139 rfl (lv_at hl 0 rfl) ?_
                              refine lv_iload hx hb dL_isKey_140 (lv_at hl 9 rfl) ?_
                              refine lv_iconst (v := 5) hx hb dL_isKey_142 (by decide) ?_
                              obtain ⟨R108, g109, hf⟩ := bd_B hf
                              obtain ⟨x106, rfl⟩ : ∃ z, z = R108 := ⟨_, rfl⟩
                              have hPc : va_P (dC, dI) vwCl (wD_ d0 s0 z0 b0 q0 t0 dhasSaved dkeptError dmoved ++ wS_ s0 v0 f0 r0 ++ wV_ v0 v_keys v_firsts v_ends v_values v_inferred v_gone cI cZ vkeys vfirsts vends vvalues vinferred vgone vmade ++ wF_ f0 f_keys f_days f_amounts f_versions cI fkeys fdays famounts fversions fcount ++ wR_ r0 r_keys r_days r_values cI rkeys rdays rvalues rcount) H102 := P_pre hP
                              have hDc : va_D A (wD_ d0 s0 z0 b0 q0 t0 dhasSaved dkeptError dmoved ++ wS_ s0 v0 f0 r0 ++ wV_ v0 v_keys v_firsts v_ends v_values v_inferred v_gone cI cZ vkeys vfirsts vends vvalues vinferred vgone vmade ++ wF_ f0 f_keys f_days f_amounts f_versions cI fkeys fdays famounts fversions fcount ++ wR_ r0 r_keys r_days r_values cI rkeys rdays rvalues rcount) := D_pre hD
                              have hFc := F_of hDc hS hA
                              cases x106 with
                              | error E114 =>
                                exact absurd hf (fun h => nomatch h)
                              | ok r107 =>
                                refine va_calli (va_runV (As := [.int l9, .int 5]) (rest := []) ⟨hx, hb, hml, hown, hts⟩ (cn_X5_version l dC dI cI cZ cC cJ cD d0 s0 z0 b0 q0 t0 v0 f0 r0 v_keys v_firsts v_ends v_values v_inferred v_gone f_keys f_days f_amounts f_versions r_keys r_days r_values H102.size dhasSaved dkeptError dmoved vkeys vfirsts vends vvalues vinferred vgone vmade fkeys fdays famounts fversions fcount rkeys rdays rvalues rcount l9 (5 : Int32) (Except.ok r107) g109 r107 rfl) (cwV 2 hts gL_isKey_X5_version rfl rfl rfl hs_X5_version ⟨Nat.le_of_ble_eq_true rfl, Nat.le_of_ble_eq_true rfl⟩) (preV_ (ci := 7) (q0 := 0) hPc hK hDc rfl rfl rfl rfl) rfl rfl hl.1 rfl (lv_room (Nat.le_of_ble_eq_true rfl)) dL_isKey_143 ⟨Nat.le_of_ble_eq_true rfl, Nat.le_of_ble_eq_true rfl⟩) hS (fun q _ h => hFc q h) hFc (fun z113 u t H112 locs ht hvm hw hB hz1 hk1 hS => ?_)
                                have hw : r107 = z113 := hw.symm
                                subst hw
                                obtain ⟨hP, hD⟩ := preJ0_ (X' := wD_ d0 s0 z0 b0 q0 t0 dhasSaved dkeptError dmoved ++ wS_ s0 v0 f0 r0 ++ wV_ v0 v_keys v_firsts v_ends v_values v_inferred v_gone cI cZ vkeys vfirsts vends vvalues vinferred vgone vmade ++ wF_ f0 f_keys f_days f_amounts f_versions cI fkeys fdays famounts fversions fcount ++ wR_ r0 r_keys r_days r_values cI rkeys rdays rvalues rcount) hP hD rfl hk1 hB ht
                                refine lv_iload hx hb dL_isKey_146 (lv_at hl 10 rfl) ?_
                                refine lv_iload hx hb dL_isKey_148 (lv_at hl 8 rfl) ?_
                                refine lv_isub hx hb dL_isKey_150 ?_
                                refine lv_icmp_ne (tgt := 222) hx hb dL_isKey_151 (by decide) (fun c115 => ?_) (fun c115 => ?_)
                                · have hf := ite_F c115 hf
                                  refine lv_iconst (v := (-1)) hx hb dL_isKey_222 (by decide) ?_
                                  have hR := Option.some.inj hf
                                  subst hR
                                  exact W.iret (v := (-1 : Int32)) hx hb hr (fun t ht hW => ⟨⟨(-1 : Int32), (), rfl, rfl, by rw [ht]; exact hP, va_K.moved hW.alike hK, hD⟩, hS.F ht⟩) hS.2.2 dL_isKey_223
                                · have hf := ite_T c115 hf
                                  refine lv_aload_n hx hb dL_isKey_154 rfl (lv_at hl 0 rfl) ?_
                                  refine lv_iload hx hb dL_isKey_155 (lv_at hl 9 rfl) ?_
                                  refine lv_iconst (v := 3) hx hb dL_isKey_157 (by decide) ?_
                                  obtain ⟨R118, g119, hf⟩ := bd_B hf
                                  obtain ⟨x116, rfl⟩ : ∃ z, z = R118 := ⟨_, rfl⟩
                                  have hPc : va_P (dC, dI) vwCl (wD_ d0 s0 z0 b0 q0 t0 dhasSaved dkeptError dmoved ++ wS_ s0 v0 f0 r0 ++ wV_ v0 v_keys v_firsts v_ends v_values v_inferred v_gone cI cZ vkeys vfirsts vends vvalues vinferred vgone vmade ++ wF_ f0 f_keys f_days f_amounts f_versions cI fkeys fdays famounts fversions fcount ++ wR_ r0 r_keys r_days r_values cI rkeys rdays rvalues rcount) H112 := P_pre hP
                                  have hDc : va_D A (wD_ d0 s0 z0 b0 q0 t0 dhasSaved dkeptError dmoved ++ wS_ s0 v0 f0 r0 ++ wV_ v0 v_keys v_firsts v_ends v_values v_inferred v_gone cI cZ vkeys vfirsts vends vvalues vinferred vgone vmade ++ wF_ f0 f_keys f_days f_amounts f_versions cI fkeys fdays famounts fversions fcount ++ wR_ r0 r_keys r_days r_values cI rkeys rdays rvalues rcount) := D_pre hD
                                  have hFc := F_of hDc hS hA
                                  cases x116 with
                                  | error E124 =>
                                    exact absurd hf (fun h => nomatch h)
                                  | ok r117 =>
                                    refine va_calli (va_runV (As := [.int l9, .int 3]) (rest := []) ⟨hx, hb, hml, hown, hts⟩ (cn_X5_version l dC dI cI cZ cC cJ cD d0 s0 z0 b0 q0 t0 v0 f0 r0 v_keys v_firsts v_ends v_values v_inferred v_gone f_keys f_days f_amounts f_versions r_keys r_days r_values H112.size dhasSaved dkeptError dmoved vkeys vfirsts vends vvalues vinferred vgone vmade fkeys fdays famounts fversions fcount rkeys rdays rvalues rcount l9 (3 : Int32) (Except.ok r117) g119 r117 rfl) (cwV 2 hts gL_isKey_X5_version rfl rfl rfl hs_X5_version ⟨Nat.le_of_ble_eq_true rfl, Nat.le_of_ble_eq_true rfl⟩) (preV_ (ci := 7) (q0 := 0) hPc hK hDc rfl rfl rfl rfl) rfl rfl hl.1 rfl (lv_room (Nat.le_of_ble_eq_true rfl)) dL_isKey_158 ⟨Nat.le_of_ble_eq_true rfl, Nat.le_of_ble_eq_true rfl⟩) hS (fun q _ h => hFc q h) hFc (fun z123 u t H122 locs ht hvm hw hB hz1 hk1 hS => ?_)
                                    have hw : r117 = z123 := hw.symm
                                    subst hw
                                    obtain ⟨hP, hD⟩ := preJ0_ (X' := wD_ d0 s0 z0 b0 q0 t0 dhasSaved dkeptError dmoved ++ wS_ s0 v0 f0 r0 ++ wV_ v0 v_keys v_firsts v_ends v_values v_inferred v_gone cI cZ vkeys vfirsts vends vvalues vinferred vgone vmade ++ wF_ f0 f_keys f_days f_amounts f_versions cI fkeys fdays famounts fversions fcount ++ wR_ r0 r_keys r_days r_values cI rkeys rdays rvalues rcount) hP hD rfl hk1 hB ht
                                    refine lv_aload_n hx hb dL_isKey_161 rfl (lv_at hl 3 rfl) ?_
                                    refine lv_iconst (v := 3) hx hb dL_isKey_162 (by decide) ?_
                                    refine lv_iload hx hb dL_isKey_163 (lv_at hl 9 rfl) ?_
                                    refine lv_imul hx hb dL_isKey_165 ?_
                                    obtain ⟨h125, hf⟩ := gd_T hf
                                    refine va_iald hx hb hK hP 19 0 rfl rfl h125 dL_isKey_166 ?_
                                    refine lv_icmp_ne (tgt := 222) hx hb dL_isKey_167 (by decide) (fun c126 => ?_) (fun c126 => ?_)
                                    · have hf := ite_F c126 hf
                                      refine lv_iconst (v := (-1)) hx hb dL_isKey_222 (by decide) ?_
                                      have hR := Option.some.inj hf
                                      subst hR
                                      exact W.iret (v := (-1 : Int32)) hx hb hr (fun t ht hW => ⟨⟨(-1 : Int32), (), rfl, rfl, by rw [ht]; exact hP, va_K.moved hW.alike hK, hD⟩, hS.F ht⟩) hS.2.2 dL_isKey_223
                                    · have hf := ite_T c126 hf
                                      refine lv_aload_n hx hb dL_isKey_170 rfl (lv_at hl 0 rfl) ?_
                                      refine lv_iload hx hb dL_isKey_171 (lv_at hl 9 rfl) ?_
                                      obtain ⟨R129, g130, hf⟩ := bd_B hf
                                      obtain ⟨x127, rfl⟩ : ∃ z, z = R129 := ⟨_, rfl⟩
                                      have hPc : va_P (dC, dI) vwCl (wD_ d0 s0 z0 b0 q0 t0 dhasSaved dkeptError dmoved ++ wS_ s0 v0 f0 r0 ++ wV_ v0 v_keys v_firsts v_ends v_values v_inferred v_gone cI cZ vkeys vfirsts vends vvalues vinferred vgone vmade ++ wF_ f0 f_keys f_days f_amounts f_versions cI fkeys fdays famounts fversions fcount ++ wR_ r0 r_keys r_days r_values cI rkeys rdays rvalues rcount) H122 := P_pre hP
                                      have hDc : va_D A (wD_ d0 s0 z0 b0 q0 t0 dhasSaved dkeptError dmoved ++ wS_ s0 v0 f0 r0 ++ wV_ v0 v_keys v_firsts v_ends v_values v_inferred v_gone cI cZ vkeys vfirsts vends vvalues vinferred vgone vmade ++ wF_ f0 f_keys f_days f_amounts f_versions cI fkeys fdays famounts fversions fcount ++ wR_ r0 r_keys r_days r_values cI rkeys rdays rvalues rcount) := D_pre hD
                                      have hFc := F_of hDc hS hA
                                      cases x127 with
                                      | error E135 =>
                                        exact absurd hf (fun h => nomatch h)
                                      | ok r128 =>
                                        refine va_calli (va_runV (As := [.int l9]) (rest := []) ⟨hx, hb, hml, hown, hts⟩ (cn_X5_isInferred l dC dI cI cZ cC cJ cD d0 s0 z0 b0 q0 t0 v0 f0 r0 v_keys v_firsts v_ends v_values v_inferred v_gone f_keys f_days f_amounts f_versions r_keys r_days r_values H122.size dhasSaved dkeptError dmoved vkeys vfirsts vends vvalues vinferred vgone vmade fkeys fdays famounts fversions fcount rkeys rdays rvalues rcount l9 (Except.ok r128) g130 r128 rfl) (cwV 1 hts gL_isKey_X5_isInferred rfl rfl rfl hs_X5_isInferred ⟨Nat.le_of_ble_eq_true rfl, Nat.le_of_ble_eq_true rfl⟩) (preV_ (ci := 7) (q0 := 0) hPc hK hDc rfl rfl rfl rfl) rfl rfl hl.1 rfl (lv_room (Nat.le_of_ble_eq_true rfl)) dL_isKey_173 ⟨Nat.le_of_ble_eq_true rfl, Nat.le_of_ble_eq_true rfl⟩) hS (fun q _ h => hFc q h) hFc (fun z134 u t H133 locs ht hvm hw hB hz1 hk1 hS => ?_)
                                        have hw : r128 = z134 := hw.symm
                                        subst hw
                                        obtain ⟨hP, hD⟩ := preJ0_ (X' := wD_ d0 s0 z0 b0 q0 t0 dhasSaved dkeptError dmoved ++ wS_ s0 v0 f0 r0 ++ wV_ v0 v_keys v_firsts v_ends v_values v_inferred v_gone cI cZ vkeys vfirsts vends vvalues vinferred vgone vmade ++ wF_ f0 f_keys f_days f_amounts f_versions cI fkeys fdays famounts fversions fcount ++ wR_ r0 r_keys r_days r_values cI rkeys rdays rvalues rcount) hP hD rfl hk1 hB ht
                                        refine lv_aload_n hx hb dL_isKey_176 rfl (lv_at hl 3 rfl) ?_
                                        refine lv_iconst (v := 3) hx hb dL_isKey_177 (by decide) ?_
                                        refine lv_iload hx hb dL_isKey_178 (lv_at hl 9 rfl) ?_
                                        refine lv_imul hx hb dL_isKey_180 ?_
                                        refine lv_iconst (v := 1) hx hb dL_isKey_181 (by decide) ?_
                                        refine lv_iadd hx hb dL_isKey_182 ?_
                                        obtain ⟨h136, hf⟩ := gd_T hf
                                        refine va_iald hx hb hK hP 19 0 rfl rfl h136 dL_isKey_183 ?_
                                        refine lv_iconst (v := 1) hx hb dL_isKey_184 (by decide) ?_
                                        refine lv_icmp_ne (tgt := 192) hx hb dL_isKey_185 (by decide) (fun c137 => ?_) (fun c137 => ?_)
                                        · have hf := ite_F c137 hf
                                          refine lv_iconst (v := 0) hx hb dL_isKey_192 (by decide) ?_
                                          exact bl193 l1 l4 l5 l6 l7 l8 l9 l10 r128 (0 : Int32) dhasSaved dkeptError dmoved vkeys vfirsts vends vvalues vinferred vgone vmade fkeys fdays famounts fversions fcount rkeys rdays rvalues rcount yv wv _ _ _ hf hP hD hS (lv_sub hl [0, 1, 2, 3, 4, 5, 6, 7, 8, 9, 10] rfl)
                                        · have hf := ite_T c137 hf
                                          refine lv_iconst (v := 1) hx hb dL_isKey_188 (by decide) ?_
                                          refine lv_goto (tgt := 193) hx hb dL_isKey_189 (by decide) ?_
                                          exact bl193 l1 l4 l5 l6 l7 l8 l9 l10 r128 (1 : Int32) dhasSaved dkeptError dmoved vkeys vfirsts vends vvalues vinferred vgone vmade fkeys fdays famounts fversions fcount rkeys rdays rvalues rcount yv wv _ _ _ hf hP hD hS (lv_sub hl [0, 1, 2, 3, 4, 5, 6, 7, 8, 9, 10] rfl)
            exact bl92 l1 l4 l5 l6 l7 l8 l9 l10 dhasSaved dkeptError dmoved vkeys vfirsts vends vvalues vinferred vgone vmade fkeys fdays famounts fversions fcount rkeys rdays rvalues rcount yv wv _ _ _ hf hP hD hS (lv_sub hl [0, 1, 2, 3, 4, 5, 6, 7, 8, 9, 10] rfl)
          have lp69 : ∀ (n : Nat) (l1 : Int32) (l4 : Int32) (l5 : Int32) (l6 : Int32) (l7 : Int32) (l8 : Int32) (l9 : Int32) (l10 : Int32) (dhasSaved : Int32) (dkeptError : Int32) (dmoved : Int32) (vkeys : Nat → Int32) (vfirsts : Nat → Int32) (vends : Nat → Int32) (vvalues : Nat → Int32) (vinferred : Nat → Int32) (vgone : Nat → Int32) (vmade : Int32) (fkeys : Nat → Int32) (fdays : Nat → Int32) (famounts : Nat → Int32) (fversions : Nat → Int32) (fcount : Int32) (rkeys : Nat → Int32) (rdays : Nat → Int32) (rvalues : Nat → Int32) (rcount : Int32) (yv : Nat → Int32) (wv : Nat → Int32) (H : Heap) (locs : List Loc) (ls : Array Slot), f_L_isKey_L69 (f_L_isKey_X69 kx15 kl15) n l1 l4 l5 l6 l7 l8 l9 l10 (dhasSaved, dkeptError, dmoved) () (vkeys, vfirsts, vends, vvalues, vinferred, vgone, vmade) (fkeys, fdays, famounts, fversions, fcount) (rkeys, rdays, rvalues, rcount) yv wv = some R → va_P (dC, dI) vwCl ((wD_ d0 s0 z0 b0 q0 t0 dhasSaved dkeptError dmoved ++ wS_ s0 v0 f0 r0 ++ wV_ v0 v_keys v_firsts v_ends v_values v_inferred v_gone cI cZ vkeys vfirsts vends vvalues vinferred vgone vmade ++ wF_ f0 f_keys f_days f_amounts f_versions cI fkeys fdays famounts fversions fcount ++ wR_ r0 r_keys r_days r_values cI rkeys rdays rvalues rcount) ++ (wI_ y0 cI 1000 yv ++ (wI_ w0 cI 180 wv))) H → va_D A ((wD_ d0 s0 z0 b0 q0 t0 dhasSaved dkeptError dmoved ++ wS_ s0 v0 f0 r0 ++ wV_ v0 v_keys v_firsts v_ends v_values v_inferred v_gone cI cZ vkeys vfirsts vends vvalues vinferred vgone vmade ++ wF_ f0 f_keys f_days f_amounts f_versions cI fkeys fdays famounts fversions fcount ++ wR_ r0 r_keys r_days r_values cI rkeys rdays rvalues rcount) ++ (wI_ y0 cI 1000 yv ++ (wI_ w0 cI 180 wv))) → va_S A s.heap H locs → lv_has ls 11 [(0, .ref d0), (1, .int l1), (2, .ref y0), (3, .ref w0), (4, .int l4), (5, .int l5), (6, .int l6), (7, .int l7), (8, .int l8), (9, .int l9), (10, .int l10)] → W p l e (headSpec wsL_isKey rm_L_isKey).room s m args below meth c H locs 0 0 (MQ below (Qi_ (dC, dI) (ty_ cI cZ cC cJ cD) R ((wD_ d0 s0 z0 b0 q0 t0 dhasSaved dkeptError dmoved ++ wS_ s0 v0 f0 r0 ++ wV_ v0 v_keys v_firsts v_ends v_values v_inferred v_gone cI cZ vkeys vfirsts vends vvalues vinferred vgone vmade ++ wF_ f0 f_keys f_days f_amounts f_versions cI fkeys fdays famounts fversions fcount ++ wR_ r0 r_keys r_days r_values cI rkeys rdays rvalues rcount) ++ (wI_ y0 cI 1000 yv ++ (wI_ w0 cI 180 wv))) A) args s 0 0 A) (F0 m 69 ls []) := by
            intro n
            induction n with
            | zero => intro l1 l4 l5 l6 l7 l8 l9 l10 dhasSaved dkeptError dmoved vkeys vfirsts vends vvalues vinferred vgone vmade fkeys fdays famounts fversions fcount rkeys rdays rvalues rcount yv wv H locs ls hf hP hD hS hl; exact absurd hf (fun h => nomatch h)
            | succ n ih =>
              intro l1 l4 l5 l6 l7 l8 l9 l10 dhasSaved dkeptError dmoved vkeys vfirsts vends vvalues vinferred vgone vmade fkeys fdays famounts fversions fcount rkeys rdays rvalues rcount yv wv H locs ls hf hP hD hS hl
              have hf : f_L_isKey_S69 (f_L_isKey_X69 kx15 kl15) (f_L_isKey_L69 (f_L_isKey_X69 kx15 kl15) n) l1 l4 l5 l6 l7 l8 l9 l10 (dhasSaved, dkeptError, dmoved) () (vkeys, vfirsts, vends, vvalues, vinferred, vgone, vmade) (fkeys, fdays, famounts, fversions, fcount) (rkeys, rdays, rvalues, rcount) yv wv = some R := hf
              generalize f_L_isKey_L69 (f_L_isKey_X69 kx15 kl15) n = kl69 at hf ih
              generalize (f_L_isKey_X69 kx15 kl15) = kx69 at hf hkx69
              unfold f_L_isKey_S69 at hf
              try dsimp only at hf
              refine lv_iload hx hb dL_isKey_69 (lv_at hl 10 rfl) ?_
              refine lv_sipush (v := 1000) hx hb dL_isKey_71 (by decide) ?_
              refine lv_icmp_ge (tgt := 92) hx hb dL_isKey_74 (by decide) (fun c159 => ?_) (fun c159 => ?_)
              · have hf := ite_T c159 hf
                exact hkx69 l1 l4 l5 l6 l7 l8 l9 l10 dhasSaved dkeptError dmoved vkeys vfirsts vends vvalues vinferred vgone vmade fkeys fdays famounts fversions fcount rkeys rdays rvalues rcount yv wv _ _ _ hf hP hD hS (lv_sub hl [0, 1, 2, 3, 4, 5, 6, 7, 8, 9, 10] rfl)
              · have hf := ite_F c159 hf
                refine lv_aload_n hx hb dL_isKey_77 rfl (lv_at hl 2 rfl) ?_
                refine lv_iload hx hb dL_isKey_78 (lv_at hl 10 rfl) ?_
                obtain ⟨h160, hf⟩ := gd_T hf
                refine va_iald hx hb hK hP 18 0 rfl rfl h160 dL_isKey_80 ?_
                refine lv_iload hx hb dL_isKey_81 (lv_at hl 9 rfl) ?_
                refine lv_icmp_ne (tgt := 92) hx hb dL_isKey_83 (by decide) (fun c161 => ?_) (fun c161 => ?_)
                · have hf := ite_F c161 hf
                  exact hkx69 l1 l4 l5 l6 l7 l8 l9 l10 dhasSaved dkeptError dmoved vkeys vfirsts vends vvalues vinferred vgone vmade fkeys fdays famounts fversions fcount rkeys rdays rvalues rcount yv wv _ _ _ hf hP hD hS (lv_sub hl [0, 1, 2, 3, 4, 5, 6, 7, 8, 9, 10] rfl)
                · have hf := ite_T c161 hf
                  refine lv_iinc (v := l10 + 1) (lv' := [(10, .int (l10 + 1)), (0, .ref d0), (1, .int l1), (2, .ref y0), (3, .ref w0), (4, .int l4), (5, .int l5), (6, .int l6), (7, .int l7), (8, .int l8), (9, .int l9)]) hx hb dL_isKey_86 hl (k := 10) rfl (by first | rfl | decide) (by decide) rfl (fun ls hl => ?_)
                  refine lv_goto (tgt := 69) hx hb dL_isKey_89 (by decide) ?_
                  exact ih l1 l4 l5 l6 l7 l8 l9 (l10 + 1) dhasSaved dkeptError dmoved vkeys vfirsts vends vvalues vinferred vgone vmade fkeys fdays famounts fversions fcount rkeys rdays rvalues rcount yv wv _ _ _ hf hP hD hS (lv_sub hl [1, 2, 3, 4, 5, 6, 7, 8, 9, 10, 0] rfl)
          exact lp69 fu_ l1 l4 l5 l6 l7 l8 l9 l8 dhasSaved dkeptError dmoved vkeys vfirsts vends vvalues vinferred vgone vmade fkeys fdays famounts fversions fcount rkeys rdays rvalues rcount yv wv _ _ _ hf hP hD hS (lv_sub hl [1, 2, 3, 4, 5, 6, 7, 8, 9, 10, 0] rfl)
        refine lv_iinc (v := l6 + 1) (lv' := [(6, .int (l6 + 1)), (0, .ref d0), (1, .int l1), (2, .ref y0), (3, .ref w0), (4, .int l4), (5, .int l5), (7, .int l7), (8, .int l8), (9, .int l9)]) hx hb dL_isKey_43 hl (k := 6) rfl (by first | rfl | decide) (by decide) rfl (fun ls hl => ?_)
        refine lv_iload hx hb dL_isKey_46 (lv_at hl 8 rfl) ?_
        refine lv_if_le (tgt := 65) hx hb dL_isKey_48 (by decide) (fun c65 => ?_) (fun c65 => ?_)
        · have hf := ite_T c65 hf
          exact bl65 l1 l4 l5 (l6 + 1) l7 l8 l9 dhasSaved dkeptError dmoved vkeys vfirsts vends vvalues vinferred vgone vmade fkeys fdays famounts fversions fcount rkeys rdays rvalues rcount yv wv _ _ _ hf hP hD hS (lv_sub hl [1, 2, 3, 4, 5, 6, 0, 7, 8, 9] rfl)
        · have hf := ite_F c65 hf
          refine lv_aload_n hx hb dL_isKey_51 rfl (lv_at hl 3 rfl) ?_
          refine lv_iload hx hb dL_isKey_52 (lv_at hl 8 rfl) ?_
          refine lv_iconst (v := 1) hx hb dL_isKey_54 (by decide) ?_
          refine lv_isub hx hb dL_isKey_55 ?_
          obtain ⟨h162, hf⟩ := gd_T hf
          refine va_iald hx hb hK hP 18 0 rfl rfl h162 dL_isKey_56 ?_
          refine lv_iload hx hb dL_isKey_57 (lv_at hl 9 rfl) ?_
          refine lv_icmp_ne (tgt := 65) hx hb dL_isKey_59 (by decide) (fun c163 => ?_) (fun c163 => ?_)
          · have hf := ite_F c163 hf
            exact bl65 l1 l4 l5 (l6 + 1) l7 l8 l9 dhasSaved dkeptError dmoved vkeys vfirsts vends vvalues vinferred vgone vmade fkeys fdays famounts fversions fcount rkeys rdays rvalues rcount yv wv _ _ _ hf hP hD hS (lv_sub hl [1, 2, 3, 4, 5, 6, 0, 7, 8, 9] rfl)
          · have hf := ite_T c163 hf
            refine lv_goto (tgt := 285) hx hb dL_isKey_62 (by decide) ?_
            refine lv_iinc (v := l8 + 1) (lv' := [(8, .int (l8 + 1)), (6, .int (l6 + 1)), (0, .ref d0), (1, .int l1), (2, .ref y0), (3, .ref w0), (4, .int l4), (5, .int l5), (7, .int l7), (9, .int l9)]) hx hb dL_isKey_285 hl (k := 8) rfl (by first | rfl | decide) (by decide) rfl (fun ls hl => ?_)
            refine lv_goto (tgt := 15) hx hb dL_isKey_288 (by decide) ?_
            exact ih l1 l4 l5 (l6 + 1) l7 (l8 + 1) dhasSaved dkeptError dmoved vkeys vfirsts vends vvalues vinferred vgone vmade fkeys fdays famounts fversions fcount rkeys rdays rvalues rcount yv wv _ _ _ hf hP hD hS (lv_sub hl [2, 3, 4, 5, 6, 7, 1, 8, 0] rfl)
      refine lv_iload hx hb dL_isKey_15 (lv_at hl 8 rfl) ?_
      refine lv_sipush (v := 1000) hx hb dL_isKey_17 (by decide) ?_
      refine lv_icmp_ge (tgt := 291) hx hb dL_isKey_20 (by decide) (fun c33 => ?_) (fun c33 => ?_)
      · have hf := ite_T c33 hf
        exact hkx15 l1 l4 l5 l6 l7 l8 dhasSaved dkeptError dmoved vkeys vfirsts vends vvalues vinferred vgone vmade fkeys fdays famounts fversions fcount rkeys rdays rvalues rcount yv wv _ _ _ hf hP hD hS (lv_sub hl [0, 1, 2, 3, 4, 5, 6, 7, 8] rfl)
      · have hf := ite_F c33 hf
        refine lv_aload_n hx hb dL_isKey_23 rfl (lv_at hl 2 rfl) ?_
        refine lv_iload hx hb dL_isKey_24 (lv_at hl 8 rfl) ?_
        obtain ⟨h34, hf⟩ := gd_T hf
        refine va_iald hx hb hK hP 18 0 rfl rfl h34 dL_isKey_26 ?_
        refine lv_istore (lv' := [(9, .int (yv l8.toNatClampNeg)), (0, .ref d0), (1, .int l1), (2, .ref y0), (3, .ref w0), (4, .int l4), (5, .int l5), (6, .int l6), (7, .int l7), (8, .int l8)]) hx hb dL_isKey_27 hl (by decide) rfl (fun ls hl => ?_)
        refine lv_iload hx hb dL_isKey_29 (lv_at hl 0 rfl) ?_
        refine lv_if_lt (tgt := 230) hx hb dL_isKey_31 (by decide) (fun c35 => ?_) (fun c35 => ?_)
        · have hf := ite_T c35 hf
          refine lv_iload hx hb dL_isKey_230 (lv_at hl 8 rfl) ?_
          refine lv_if_lt (tgt := 285) hx hb dL_isKey_232 (by decide) (fun c36 => ?_) (fun c36 => ?_)
          · have hf := ite_T c36 hf
            refine lv_iinc (v := l8 + 1) (lv' := [(8, .int (l8 + 1)), (9, .int (yv l8.toNatClampNeg)), (0, .ref d0), (1, .int l1), (2, .ref y0), (3, .ref w0), (4, .int l4), (5, .int l5), (6, .int l6), (7, .int l7)]) hx hb dL_isKey_285 hl (k := 9) rfl (by first | rfl | decide) (by decide) rfl (fun ls hl => ?_)
            refine lv_goto (tgt := 15) hx hb dL_isKey_288 (by decide) ?_
            exact ih l1 l4 l5 l6 l7 (l8 + 1) dhasSaved dkeptError dmoved vkeys vfirsts vends vvalues vinferred vgone vmade fkeys fdays famounts fversions fcount rkeys rdays rvalues rcount yv wv _ _ _ hf hP hD hS (lv_sub hl [2, 3, 4, 5, 6, 7, 8, 9, 0] rfl)
          · have hf := ite_F c36 hf
            refine lv_aload_n hx hb dL_isKey_235 rfl (lv_at hl 3 rfl) ?_
            refine lv_iload hx hb dL_isKey_236 (lv_at hl 9 rfl) ?_
            refine lv_iconst (v := 1) hx hb dL_isKey_238 (by decide) ?_
            refine lv_isub hx hb dL_isKey_239 ?_
            obtain ⟨h37, hf⟩ := gd_T hf
            refine va_iald hx hb hK hP 18 0 rfl rfl h37 dL_isKey_240 ?_
            refine lv_if_lt (tgt := 285) hx hb dL_isKey_241 (by decide) (fun c38 => ?_) (fun c38 => ?_)
            · have hf := ite_T c38 hf
              refine lv_iinc (v := l8 + 1) (lv' := [(8, .int (l8 + 1)), (9, .int (yv l8.toNatClampNeg)), (0, .ref d0), (1, .int l1), (2, .ref y0), (3, .ref w0), (4, .int l4), (5, .int l5), (6, .int l6), (7, .int l7)]) hx hb dL_isKey_285 hl (k := 9) rfl (by first | rfl | decide) (by decide) rfl (fun ls hl => ?_)
              refine lv_goto (tgt := 15) hx hb dL_isKey_288 (by decide) ?_
              exact ih l1 l4 l5 l6 l7 (l8 + 1) dhasSaved dkeptError dmoved vkeys vfirsts vends vvalues vinferred vgone vmade fkeys fdays famounts fversions fcount rkeys rdays rvalues rcount yv wv _ _ _ hf hP hD hS (lv_sub hl [2, 3, 4, 5, 6, 7, 8, 9, 0] rfl)
            · have hf := ite_F c38 hf
              refine lv_aload_n hx hb dL_isKey_244 rfl (lv_at hl 3 rfl) ?_
              refine lv_iload hx hb dL_isKey_245 (lv_at hl 9 rfl) ?_
              obtain ⟨R40, g41, hf⟩ := bd_B hf
              obtain ⟨r39, rfl⟩ : ∃ z, z = R40 := ⟨_, rfl⟩
              have hmc : ∀ r, r ∈ wI_ y0 cI 1000 yv → r ∈ (wD_ d0 s0 z0 b0 q0 t0 dhasSaved dkeptError dmoved ++ wS_ s0 v0 f0 r0 ++ wV_ v0 v_keys v_firsts v_ends v_values v_inferred v_gone cI cZ vkeys vfirsts vends vvalues vinferred vgone vmade ++ wF_ f0 f_keys f_days f_amounts f_versions cI fkeys fdays famounts fversions fcount ++ wR_ r0 r_keys r_days r_values cI rkeys rdays rvalues rcount) ++ (wI_ y0 cI 1000 yv ++ (wI_ w0 cI 180 wv)) := fun r hr => by rw [List.mem_singleton.mp hr]; exact List.mem_of_getElem? (i := 18) rfl
              have hPc : va_P (dC, dI) vwCl (wI_ y0 cI 1000 yv) H := P_mem hP hmc
              have hDc : va_D A (wI_ y0 cI 1000 yv) := hD.sub (ws' := wI_ y0 cI 1000 yv) [18] (by decide) rfl
              have hFc := F_of hDc hS hA
              refine va_calli (va_runS (As := [.ref y0, .int l8]) (rest := []) ⟨hx, hb, hml, hown, hts⟩ (c_L_next l dC dI cI cZ cC cJ cD y0 H.size yv l8 r39 g41) (cwS 2 hts gL_isKey_L_next rfl rfl rfl hs_L_next ⟨Nat.le_of_ble_eq_true rfl, Nat.le_of_ble_eq_true rfl⟩) (preS_ hPc hK hDc rfl) rfl rfl hl.1 rfl (lv_room (Nat.le_of_ble_eq_true rfl)) dL_isKey_247 ⟨Nat.le_of_ble_eq_true rfl, Nat.le_of_ble_eq_true rfl⟩) hS (fun q _ h => hFc q h) hFc (fun z43 u t H42 locs ht hvm hw hB hz1 hk1 hS => ?_)
              have hw : r39 = z43 := hw.symm
              subst hw
              obtain ⟨hP, hD⟩ := same1_ hP hD hmc hk1 hB ht
              refine lv_istore (lv' := [(10, .int r39), (9, .int (yv l8.toNatClampNeg)), (0, .ref d0), (1, .int l1), (2, .ref y0), (3, .ref w0), (4, .int l4), (5, .int l5), (6, .int l6), (7, .int l7), (8, .int l8)]) hx hb dL_isKey_250 hl (by decide) rfl (fun ls hl => ?_)
              refine lv_aload_n hx hb dL_isKey_252 rfl (lv_at hl 2 rfl) ?_
              refine lv_iload_n hx hb dL_isKey_253 rfl (lv_at hl 3 rfl) ?_
              refine lv_iload hx hb dL_isKey_254 (lv_at hl 7 rfl) ?_
              refine lv_iconst (v := 0) hx hb dL_isKey_256 (by decide) ?_
              obtain ⟨R46, g47, hf⟩ := bd_B hf
              obtain ⟨x44, rfl⟩ : ∃ z, z = R46 := ⟨_, rfl⟩
              have hPc : va_P (dC, dI) vwCl (wD_ d0 s0 z0 b0 q0 t0 dhasSaved dkeptError dmoved ++ wS_ s0 v0 f0 r0 ++ wV_ v0 v_keys v_firsts v_ends v_values v_inferred v_gone cI cZ vkeys vfirsts vends vvalues vinferred vgone vmade ++ wF_ f0 f_keys f_days f_amounts f_versions cI fkeys fdays famounts fversions fcount ++ wR_ r0 r_keys r_days r_values cI rkeys rdays rvalues rcount) H42 := P_pre hP
              have hDc : va_D A (wD_ d0 s0 z0 b0 q0 t0 dhasSaved dkeptError dmoved ++ wS_ s0 v0 f0 r0 ++ wV_ v0 v_keys v_firsts v_ends v_values v_inferred v_gone cI cZ vkeys vfirsts vends vvalues vinferred vgone vmade ++ wF_ f0 f_keys f_days f_amounts f_versions cI fkeys fdays famounts fversions fcount ++ wR_ r0 r_keys r_days r_values cI rkeys rdays rvalues rcount) := D_pre hD
              have hFc := F_of hDc hS hA
              cases x44 with
              | error E52 =>
                exact absurd hf (fun h => nomatch h)
              | ok r45 =>
                refine va_calli (va_runV (As := [.int l1, .int l5, .int 0]) (rest := []) ⟨hx, hb, hml, hown, hts⟩ (cn_X5_gapDay l dC dI cI cZ cC cJ cD d0 s0 z0 b0 q0 t0 v0 f0 r0 v_keys v_firsts v_ends v_values v_inferred v_gone f_keys f_days f_amounts f_versions r_keys r_days r_values H42.size dhasSaved dkeptError dmoved vkeys vfirsts vends vvalues vinferred vgone vmade fkeys fdays famounts fversions fcount rkeys rdays rvalues rcount l1 l5 (0 : Int32) (Except.ok r45) g47 r45 rfl) (cwV 3 hts gL_isKey_X5_gapDay rfl rfl rfl hs_X5_gapDay ⟨Nat.le_of_ble_eq_true rfl, Nat.le_of_ble_eq_true rfl⟩) (preV_ (ci := 7) (q0 := 0) hPc hK hDc rfl rfl rfl rfl) rfl rfl hl.1 rfl (lv_room (Nat.le_of_ble_eq_true rfl)) dL_isKey_257 ⟨Nat.le_of_ble_eq_true rfl, Nat.le_of_ble_eq_true rfl⟩) hS (fun q _ h => hFc q h) hFc (fun z51 u t H50 locs ht hvm hw hB hz1 hk1 hS => ?_)
                have hw : r45 = z51 := hw.symm
                subst hw
                obtain ⟨hP, hD⟩ := preJ0_ (X' := wD_ d0 s0 z0 b0 q0 t0 dhasSaved dkeptError dmoved ++ wS_ s0 v0 f0 r0 ++ wV_ v0 v_keys v_firsts v_ends v_values v_inferred v_gone cI cZ vkeys vfirsts vends vvalues vinferred vgone vmade ++ wF_ f0 f_keys f_days f_amounts f_versions cI fkeys fdays famounts fversions fcount ++ wR_ r0 r_keys r_days r_values cI rkeys rdays rvalues rcount) hP hD rfl hk1 hB ht
                refine lv_iload hx hb dL_isKey_260 (lv_at hl 10 rfl) ?_
                refine lv_icmp_ne (tgt := 280) hx hb dL_isKey_262 (by decide) (fun c53 => ?_) (fun c53 => ?_)
                · have hf := ite_F c53 hf
                  refine lv_iconst (v := (-1)) hx hb dL_isKey_280 (by decide) ?_
                  have hR := Option.some.inj hf
                  subst hR
                  exact W.iret (v := (-1 : Int32)) hx hb hr (fun t ht hW => ⟨⟨(-1 : Int32), (), rfl, rfl, by rw [ht]; exact hP, va_K.moved hW.alike hK, hD⟩, hS.F ht⟩) hS.2.2 dL_isKey_281
                · have hf := ite_T c53 hf
                  refine lv_aload_n hx hb dL_isKey_265 rfl (lv_at hl 2 rfl) ?_
                  refine lv_iload_n hx hb dL_isKey_266 rfl (lv_at hl 3 rfl) ?_
                  refine lv_iload hx hb dL_isKey_267 (lv_at hl 7 rfl) ?_
                  refine lv_iconst (v := 1) hx hb dL_isKey_269 (by decide) ?_
                  obtain ⟨R56, g57, hf⟩ := bd_B hf
                  obtain ⟨x54, rfl⟩ : ∃ z, z = R56 := ⟨_, rfl⟩
                  have hPc : va_P (dC, dI) vwCl (wD_ d0 s0 z0 b0 q0 t0 dhasSaved dkeptError dmoved ++ wS_ s0 v0 f0 r0 ++ wV_ v0 v_keys v_firsts v_ends v_values v_inferred v_gone cI cZ vkeys vfirsts vends vvalues vinferred vgone vmade ++ wF_ f0 f_keys f_days f_amounts f_versions cI fkeys fdays famounts fversions fcount ++ wR_ r0 r_keys r_days r_values cI rkeys rdays rvalues rcount) H50 := P_pre hP
                  have hDc : va_D A (wD_ d0 s0 z0 b0 q0 t0 dhasSaved dkeptError dmoved ++ wS_ s0 v0 f0 r0 ++ wV_ v0 v_keys v_firsts v_ends v_values v_inferred v_gone cI cZ vkeys vfirsts vends vvalues vinferred vgone vmade ++ wF_ f0 f_keys f_days f_amounts f_versions cI fkeys fdays famounts fversions fcount ++ wR_ r0 r_keys r_days r_values cI rkeys rdays rvalues rcount) := D_pre hD
                  have hFc := F_of hDc hS hA
                  cases x54 with
                  | error E62 =>
                    exact absurd hf (fun h => nomatch h)
                  | ok r55 =>
                    refine va_calli (va_runV (As := [.int l1, .int l5, .int 1]) (rest := []) ⟨hx, hb, hml, hown, hts⟩ (cn_X5_gapDay l dC dI cI cZ cC cJ cD d0 s0 z0 b0 q0 t0 v0 f0 r0 v_keys v_firsts v_ends v_values v_inferred v_gone f_keys f_days f_amounts f_versions r_keys r_days r_values H50.size dhasSaved dkeptError dmoved vkeys vfirsts vends vvalues vinferred vgone vmade fkeys fdays famounts fversions fcount rkeys rdays rvalues rcount l1 l5 (1 : Int32) (Except.ok r55) g57 r55 rfl) (cwV 3 hts gL_isKey_X5_gapDay rfl rfl rfl hs_X5_gapDay ⟨Nat.le_of_ble_eq_true rfl, Nat.le_of_ble_eq_true rfl⟩) (preV_ (ci := 7) (q0 := 0) hPc hK hDc rfl rfl rfl rfl) rfl rfl hl.1 rfl (lv_room (Nat.le_of_ble_eq_true rfl)) dL_isKey_270 ⟨Nat.le_of_ble_eq_true rfl, Nat.le_of_ble_eq_true rfl⟩) hS (fun q _ h => hFc q h) hFc (fun z61 u t H60 locs ht hvm hw hB hz1 hk1 hS => ?_)
                    have hw : r55 = z61 := hw.symm
                    subst hw
                    obtain ⟨hP, hD⟩ := preJ0_ (X' := wD_ d0 s0 z0 b0 q0 t0 dhasSaved dkeptError dmoved ++ wS_ s0 v0 f0 r0 ++ wV_ v0 v_keys v_firsts v_ends v_values v_inferred v_gone cI cZ vkeys vfirsts vends vvalues vinferred vgone vmade ++ wF_ f0 f_keys f_days f_amounts f_versions cI fkeys fdays famounts fversions fcount ++ wR_ r0 r_keys r_days r_values cI rkeys rdays rvalues rcount) hP hD rfl hk1 hB ht
                    refine lv_iload hx hb dL_isKey_273 (lv_at hl 0 rfl) ?_
                    refine lv_iconst (v := 1) hx hb dL_isKey_275 (by decide) ?_
                    refine lv_isub hx hb dL_isKey_276 ?_
                    refine lv_icmp_eq (tgt := 282) hx hb dL_isKey_277 (by decide) (fun c63 => ?_) (fun c63 => ?_)
                    · have hf := ite_T c63 hf
                      refine lv_iinc (v := l5 + 1) (lv' := [(5, .int (l5 + 1)), (10, .int r39), (9, .int (yv l8.toNatClampNeg)), (0, .ref d0), (1, .int l1), (2, .ref y0), (3, .ref w0), (4, .int l4), (6, .int l6), (7, .int l7), (8, .int l8)]) hx hb dL_isKey_282 hl (k := 7) rfl (by first | rfl | decide) (by decide) rfl (fun ls hl => ?_)
                      refine lv_iinc (v := l8 + 1) (lv' := [(8, .int (l8 + 1)), (5, .int (l5 + 1)), (10, .int r39), (9, .int (yv l8.toNatClampNeg)), (0, .ref d0), (1, .int l1), (2, .ref y0), (3, .ref w0), (4, .int l4), (6, .int l6), (7, .int l7)]) hx hb dL_isKey_285 hl (k := 10) rfl (by first | rfl | decide) (by decide) rfl (fun ls hl => ?_)
                      refine lv_goto (tgt := 15) hx hb dL_isKey_288 (by decide) ?_
                      exact ih l1 l4 (l5 + 1) l6 l7 (l8 + 1) dhasSaved dkeptError dmoved vkeys vfirsts vends vvalues vinferred vgone vmade fkeys fdays famounts fversions fcount rkeys rdays rvalues rcount yv wv _ _ _ hf hP hD hS (lv_sub hl [4, 5, 6, 7, 8, 1, 9, 10, 0] rfl)
                    · have hf := ite_F c63 hf
                      refine lv_iconst (v := (-1)) hx hb dL_isKey_280 (by decide) ?_
                      have hR := Option.some.inj hf
                      subst hR
                      exact W.iret (v := (-1 : Int32)) hx hb hr (fun t ht hW => ⟨⟨(-1 : Int32), (), rfl, rfl, by rw [ht]; exact hP, va_K.moved hW.alike hK, hD⟩, hS.F ht⟩) hS.2.2 dL_isKey_281
        · have hf := ite_F c35 hf
          refine lv_iload hx hb dL_isKey_34 (lv_at hl 8 rfl) ?_
          refine lv_if_ge (tgt := 43) hx hb dL_isKey_36 (by decide) (fun c64 => ?_) (fun c64 => ?_)
          · have hf := ite_T c64 hf
            exact bl43 l1 l4 l5 l6 l7 l8 (yv l8.toNatClampNeg) dhasSaved dkeptError dmoved vkeys vfirsts vends vvalues vinferred vgone vmade fkeys fdays famounts fversions fcount rkeys rdays rvalues rcount yv wv _ _ _ hf hP hD hS (lv_sub hl [1, 2, 3, 4, 5, 6, 7, 8, 9, 0] rfl)
          · have hf := ite_F c64 hf
            refine lv_iload hx hb dL_isKey_39 (lv_at hl 9 rfl) ?_
            refine lv_istore (lv' := [(7, .int l8), (9, .int (yv l8.toNatClampNeg)), (0, .ref d0), (1, .int l1), (2, .ref y0), (3, .ref w0), (4, .int l4), (5, .int l5), (6, .int l6), (8, .int l8)]) hx hb dL_isKey_41 hl (by decide) rfl (fun ls hl => ?_)
            exact bl43 l1 l4 l5 l6 l8 l8 (yv l8.toNatClampNeg) dhasSaved dkeptError dmoved vkeys vfirsts vends vvalues vinferred vgone vmade fkeys fdays famounts fversions fcount rkeys rdays rvalues rcount yv wv _ _ _ hf hP hD hS (lv_sub hl [2, 3, 4, 5, 6, 7, 8, 0, 9, 1] rfl)
  exact lp15 fu_ a2 (0 : Int32) (0 : Int32) (0 : Int32) (-1 : Int32) (0 : Int32) dhasSaved dkeptError dmoved vkeys vfirsts vends vvalues vinferred vgone vmade fkeys fdays famounts fversions fcount rkeys rdays rvalues rcount yv wv _ _ _ hf hP hD hS (lv_sub hl [5, 6, 7, 8, 4, 3, 2, 1, 0] rfl)
theorem hs_L_isKey : yL_isKey.cls = RL ∧ yL_isKey.cls ≠ "java/lang/invoke/MethodHandle" ∧ yL_isKey.cls ≠ "java/lang/invoke/VarHandle" ∧ (parseMethodDescriptor yL_isKey.desc).map (fun d => d.parameters.length) = some 4 := by decide +kernel
