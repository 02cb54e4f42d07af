def f_L_version (a2 : Int32) (a3 : Int32) (D_ : tD_) (S_ : tS_) (V_ : tV_) (F_ : tF_) (R_ : tR_) (ov : tO_) : Option (Int32 × tO_) :=
match D_ with
| (dhasSaved, dkeptError, dmoved) =>
match V_ with
| (vkeys, vfirsts, vends, vvalues, vinferred, vgone, vmade) =>
match F_ with
| (fkeys, fdays, famounts, fversions, fcount) =>
match R_ with
| (rkeys, rdays, rvalues, rcount) =>
bd_ (f_X5_version a2 a3 (dhasSaved, dkeptError, dmoved) () (vkeys, vfirsts, vends, vvalues, vinferred, vgone, vmade) (fkeys, fdays, famounts, fversions, fcount) (rkeys, rdays, rvalues, rcount)) (fun x1 =>
match x1 with
| Except.error E9 => (if E9 = "java/lang/IndexOutOfBoundsException" then some ((1 : Int32), ov) else (if E9 = "java/lang/IllegalArgumentException" then some ((2 : Int32), ov) else none))
| Except.ok r2 =>
gd_ (0 : Int32) 1 (nm_ (vp_updL ov ((0 : Int32).toNatClampNeg) r2.toInt64) (fun u16 =>
some ((0 : Int32), u16))))
abbrev rm_L_version : Room := { frames := 8, cells := 2, slots := 12, locals := 132 }
set_option maxHeartbeats 4000000 in
set_option maxRecDepth 100000 in
theorem c_L_version (l : Launch) (dC : Nat → ClassId) (dI : Nat → Nat → Nat) (cI cZ cC cJ cD : ClassId) (hst : l.stackTraces = false) (d0 s0 z0 b0 q0 t0 v0 f0 r0 v_keys v_firsts v_ends v_values v_inferred v_gone f_keys f_days f_amounts f_versions r_keys r_days r_values o0 : Nat) (sz : Nat) (dhasSaved : Int32) (dkeptError : Int32) (dmoved : Int32) (vkeys : Nat → Int32) (vfirsts : Nat → Int32) (vends : Nat → Int32) (vvalues : Nat → Int32) (vinferred : Nat → Int32) (vgone : Nat → Int32) (vmade : Int32) (fkeys : Nat → Int32) (fdays : Nat → Int32) (famounts : Nat → Int32) (fversions : Nat → Int32) (fcount : Int32) (rkeys : Nat → Int32) (rdays : Nat → Int32) (rvalues : Nat → Int32) (rcount : Int32) (ov : Nat → Int64) (a2 : Int32) (a3 : Int32) (R : Int32 × tO_) (hf : f_L_version a2 a3 (dhasSaved, dkeptError, dmoved) () (vkeys, vfirsts, vends, vvalues, vinferred, vgone, vmade) (fkeys, fdays, famounts, fversions, fcount) (rkeys, rdays, rvalues, rcount) ov = some R) : Met l yL_version wsL_version rm_L_version (PL_ (dC, dI) (ty_ cI cZ cC cJ cD) (wD_ d0 s0 z0 b0 q0 t0 dhasSaved dkeptError dmoved ++ wS_ s0 v0 f0 r0 ++ wV_ v0 v_keys v_firsts v_ends v_values v_inferred v_gone cI cZ vkeys vfirsts vends vvalues vinferred vgone vmade ++ wF_ f0 f_keys f_days f_amounts f_versions cI fkeys fdays famounts fversions fcount ++ wR_ r0 r_keys r_days r_values cI rkeys rdays rvalues rcount ++ wO_ o0 cJ ov) sz [.ref d0, .int a2, .int a3, .ref o0]) (Qi_ (dC, dI) (ty_ cI cZ cC cJ cD) R.1 (wD_ d0 s0 z0 b0 q0 t0 dhasSaved dkeptError dmoved ++ wS_ s0 v0 f0 r0 ++ wV_ v0 v_keys v_firsts v_ends v_values v_inferred v_gone cI cZ vkeys vfirsts vends vvalues vinferred vgone vmade ++ wF_ f0 f_keys f_days f_amounts f_versions cI fkeys fdays famounts fversions fcount ++ wR_ r0 r_keys r_days r_values cI rkeys rdays rvalues rcount ++ wO_ o0 cJ R.2) (va_A (wD_ d0 s0 z0 b0 q0 t0 dhasSaved dkeptError dmoved ++ wS_ s0 v0 f0 r0 ++ wV_ v0 v_keys v_firsts v_ends v_values v_inferred v_gone cI cZ vkeys vfirsts vends vvalues vinferred vgone vmade ++ wF_ f0 f_keys f_days f_amounts f_versions cI fkeys fdays famounts fversions fcount ++ wR_ r0 r_keys r_days r_values cI rkeys rdays rvalues rcount ++ wO_ o0 cJ ov) sz)) 2 12 (va_A (wD_ d0 s0 z0 b0 q0 t0 dhasSaved dkeptError dmoved ++ wS_ s0 v0 f0 r0 ++ wV_ v0 v_keys v_firsts v_ends v_values v_inferred v_gone cI cZ vkeys vfirsts vends vvalues vinferred vgone vmade ++ wF_ f0 f_keys f_days f_amounts f_versions cI fkeys fdays famounts fversions fcount ++ wR_ r0 r_keys r_days r_values cI rkeys rdays rvalues rcount ++ wO_ o0 cJ ov) sz) := by
  refine metw_ (cc := cL_version) (maxL := 5) (ret := (some .int)) (hh := [(0, 10, 13, 13), (0, 10, 17, 15)]) (Qcf := fun A => Qi_ (dC, dI) (ty_ cI cZ cC cJ cD) R.1 (wD_ d0 s0 z0 b0 q0 t0 dhasSaved dkeptError dmoved ++ wS_ s0 v0 f0 r0 ++ wV_ v0 v_keys v_firsts v_ends v_values v_inferred v_gone cI cZ vkeys vfirsts vends vvalues vinferred vgone vmade ++ wF_ f0 f_keys f_days f_amounts f_versions cI fkeys fdays famounts fversions fcount ++ wR_ r0 r_keys r_days r_values cI rkeys rdays rvalues rcount ++ wO_ o0 cJ R.2) A) (by decide) rfl (Nat.le_of_ble_eq_true rfl) ?_
  intro p e s m args below meth c A ls hx hb hr hts hown hlocks hml htab hA hU hN hC hP hK hD hl
  have hown : s.vm.findClass RL = some m.cls := hown
  have hl : lv_has ls 5 [(0, .ref d0), (1, .int a2), (2, .int a3), (3, .ref o0)] := hl
  have hS : va_S A s.heap s.heap [] := va_S.rf
  unfold f_L_version at hf
  dsimp only at hf
  refine lv_aload_n hx hb dL_version_0 rfl (lv_at hl 3 rfl) ?_
  refine lv_iconst (v := 0) hx hb dL_version_1 (by decide) ?_
  refine lv_aload_n hx hb dL_version_2 rfl (lv_at hl 0 rfl) ?_
  refine lv_iload_n hx hb dL_version_3 rfl (lv_at hl 1 rfl) ?_
  refine lv_iload_n hx hb dL_version_4 rfl (lv_at hl 2 rfl) ?_
  obtain ⟨R3, g4, hf⟩ := bd_B hf
  obtain ⟨x1, rfl⟩ : ∃ z, z = R3 := ⟨_, rfl⟩
  have hPc := hP.sub (ws' := wD_ d0 s0 z0 b0 q0 t0 dhasSaved dkeptError dmoved ++ wS_ s0 v0 f0 r0 ++ wV_ v0 v_keys v_firsts v_ends v_values v_inferred v_gone cI cZ vkeys vfirsts vends vvalues vinferred vgone vmade ++ wF_ f0 f_keys f_days f_amounts f_versions cI fkeys fdays famounts fversions fcount ++ wR_ r0 r_keys r_days r_values cI rkeys rdays rvalues rcount) [0, 1, 2, 3, 4, 5, 6, 7, 8, 9, 10, 11, 12, 13, 14, 15, 16, 17] rfl
  have hDc := hD.sub (ws' := wD_ d0 s0 z0 b0 q0 t0 dhasSaved dkeptError dmoved ++ wS_ s0 v0 f0 r0 ++ wV_ v0 v_keys v_firsts v_ends v_values v_inferred v_gone cI cZ vkeys vfirsts vends vvalues vinferred vgone vmade ++ wF_ f0 f_keys f_days f_amounts f_versions cI fkeys fdays famounts fversions fcount ++ wR_ r0 r_keys r_days r_values cI rkeys rdays rvalues rcount) [0, 1, 2, 3, 4, 5, 6, 7, 8, 9, 10, 11, 12, 13, 14, 15, 16, 17] (by decide) rfl
  have hFc := va_free (wc := wD_ d0 s0 z0 b0 q0 t0 dhasSaved dkeptError dmoved ++ wS_ s0 v0 f0 r0 ++ wV_ v0 v_keys v_firsts v_ends v_values v_inferred v_gone cI cZ vkeys vfirsts vends vvalues vinferred vgone vmade ++ wF_ f0 f_keys f_days f_amounts f_versions cI fkeys fdays famounts fversions fcount ++ wR_ r0 r_keys r_days r_values cI rkeys rdays rvalues rcount) hD hS hA [0, 1, 2, 3, 4, 5, 6, 7, 8, 9, 10, 11, 12, 13, 14, 15, 16, 17] rfl
  cases x1 with
  | error E9 =>
    by_cases c10 : E9 = "java/lang/IndexOutOfBoundsException"
    · have hf := ite_T c10 hf
      subst c10
      refine vx_calli (vx_runV (As := [.int a2, .int a3]) (rest := [.int 0, .ref o0]) ⟨hx, hb, hml, hown, hts⟩ (c_X5_version l dC dI cI cZ cC cJ cD hst d0 s0 z0 b0 q0 t0 v0 f0 r0 v_keys v_firsts v_ends v_values v_inferred v_gone f_keys f_days f_amounts f_versions r_keys r_days r_values s.heap.size dhasSaved dkeptError dmoved vkeys vfirsts vends vvalues vinferred vgone vmade fkeys fdays famounts fversions fcount rkeys rdays rvalues rcount a2 a3 (Except.error "java/lang/IndexOutOfBoundsException") g4) (cwV 2 hts gL_version_X5_version rfl rfl rfl hs_X5_version ⟨Nat.le_of_ble_eq_true rfl, Nat.le_of_ble_eq_true rfl⟩) (preVy_ (ci := 7) (q0 := 0) hPc hK hDc rfl rfl rfl rfl hS hU hN hFc hC.1) rfl rfl hl.1 rfl (lv_room (Nat.le_of_ble_eq_true rfl)) dL_version_5 ⟨Nat.le_of_ble_eq_true rfl, Nat.le_of_ble_eq_true rfl⟩) hS (fun q _ h => hFc q h) hFc (fun q _ h => hFc q h) (fun E ce q11 u t H7 locs ht hvm hp hB hz1 hk1 hS hce hcv hcl => ?_) (fun z8 u t H7 locs ht hvm hw hB hz1 hk1 hS => ?_)
      · obtain ⟨hE, hB⟩ := hB
        cases hE
        obtain ⟨hP, hD⟩ := aft_ (Wr := wO_ o0 cJ ov) (Wc' := wD_ d0 s0 z0 b0 q0 t0 dhasSaved dkeptError dmoved ++ wS_ s0 v0 f0 r0 ++ wV_ v0 v_keys v_firsts v_ends v_values v_inferred v_gone cI cZ vkeys vfirsts vends vvalues vinferred vgone vmade ++ wF_ f0 f_keys f_days f_amounts f_versions cI fkeys fdays famounts fversions fcount ++ wR_ r0 r_keys r_days r_values cI rkeys rdays rvalues rcount) (W2 := wD_ d0 s0 z0 b0 q0 t0 dhasSaved dkeptError dmoved ++ wS_ s0 v0 f0 r0 ++ wV_ v0 v_keys v_firsts v_ends v_values v_inferred v_gone cI cZ vkeys vfirsts vends vvalues vinferred vgone vmade ++ wF_ f0 f_keys f_days f_amounts f_versions cI fkeys fdays famounts fversions fcount ++ wR_ r0 r_keys r_days r_values cI rkeys rdays rvalues rcount ++ wO_ o0 cJ ov) hP hD [0, 1, 2, 3, 4, 5, 6, 7, 8, 9, 10, 11, 12, 13, 14, 15, 16, 17] [18] [1, 2, 3, 4, 5, 6, 7, 8, 9, 10, 11, 12, 13, 14, 15, 16, 17, 18, 0] rfl rfl (by decide) (by decide) (by decide) hk1 hFc hB ht rfl
        refine vx_catch (name := "java/lang/IndexOutOfBoundsException") hown [] ⟨0, 10, 13, 13⟩ [⟨0, 10, 17, 15⟩] (htab.trans rfl) (fun z hz => nomatch hz) (by decide +kernel) (by decide) (hts _ (List.mem_of_getElem? (i := 1) rfl)) ((hC.1.1 "java/lang/IndexOutOfBoundsException" (by decide +kernel)).use rfl) hce hcv hcl ?_
        refine lv_astore (lv' := [(4, .ref q11), (0, .ref d0), (1, .int a2), (2, .int a3), (3, .ref o0)]) hx hb dL_version_13 hl (by decide) rfl (fun ls hl => ?_)
        refine lv_iconst (v := 1) hx hb dL_version_15 (by decide) ?_
        have hR := Option.some.inj hf
        subst hR
        refine W.widen (k := 2) (n := 12) (Nat.le_of_ble_eq_true rfl) (Nat.le_of_ble_eq_true rfl) ?_
        exact W.iret (v := (1 : Int32)) hx hb hr (fun t ht hW => ⟨⟨(1 : Int32), (), rfl, rfl, by rw [ht]; exact hP, va_K.moved hW.alike hK, hD⟩, hS.F ht⟩) hS.2.2 dL_version_16
      · exact absurd hw (fun h => nomatch h)
    · have hf := ite_F c10 hf
      by_cases c12 : E9 = "java/lang/IllegalArgumentException"
      · have hf := ite_T c12 hf
        subst c12
        refine vx_calli (vx_runV (As := [.int a2, .int a3]) (rest := [.int 0, .ref o0]) ⟨hx, hb, hml, hown, hts⟩ (c_X5_version l dC dI cI cZ cC cJ cD hst d0 s0 z0 b0 q0 t0 v0 f0 r0 v_keys v_firsts v_ends v_values v_inferred v_gone f_keys f_days f_amounts f_versions r_keys r_days r_values s.heap.size dhasSaved dkeptError dmoved vkeys vfirsts vends vvalues vinferred vgone vmade fkeys fdays famounts fversions fcount rkeys rdays rvalues rcount a2 a3 (Except.error "java/lang/IllegalArgumentException") g4) (cwV 2 hts gL_version_X5_version rfl rfl rfl hs_X5_version ⟨Nat.le_of_ble_eq_true rfl, Nat.le_of_ble_eq_true rfl⟩) (preVy_ (ci := 7) (q0 := 0) hPc hK hDc rfl rfl rfl rfl hS hU hN hFc hC.1) rfl rfl hl.1 rfl (lv_room (Nat.le_of_ble_eq_true rfl)) dL_version_5 ⟨Nat.le_of_ble_eq_true rfl, Nat.le_of_ble_eq_true rfl⟩) hS (fun q _ h => hFc q h) hFc (fun q _ h => hFc q h) (fun E ce q13 u t H7 locs ht hvm hp hB hz1 hk1 hS hce hcv hcl => ?_) (fun z8 u t H7 locs ht hvm hw hB hz1 hk1 hS => ?_)
        · obtain ⟨hE, hB⟩ := hB
          cases hE
          obtain ⟨hP, hD⟩ := aft_ (Wr := wO_ o0 cJ ov) (Wc' := wD_ d0 s0 z0 b0 q0 t0 dhasSaved dkeptError dmoved ++ wS_ s0 v0 f0 r0 ++ wV_ v0 v_keys v_firsts v_ends v_values v_inferred v_gone cI cZ vkeys vfirsts vends vvalues vinferred vgone vmade ++ wF_ f0 f_keys f_days f_amounts f_versions cI fkeys fdays famounts fversions fcount ++ wR_ r0 r_keys r_days r_values cI rkeys rdays rvalues rcount) (W2 := wD_ d0 s0 z0 b0 q0 t0 dhasSaved dkeptError dmoved ++ wS_ s0 v0 f0 r0 ++ wV_ v0 v_keys v_firsts v_ends v_values v_inferred v_gone cI cZ vkeys vfirsts vends vvalues vinferred vgone vmade ++ wF_ f0 f_keys f_days f_amounts f_versions cI fkeys fdays famounts fversions fcount ++ wR_ r0 r_keys r_days r_values cI rkeys rdays rvalues rcount ++ wO_ o0 cJ ov) hP hD [0, 1, 2, 3, 4, 5, 6, 7, 8, 9, 10, 11, 12, 13, 14, 15, 16, 17] [18] [1, 2, 3, 4, 5, 6, 7, 8, 9, 10, 11, 12, 13, 14, 15, 16, 17, 18, 0] rfl rfl (by decide) (by decide) (by decide) hk1 hFc hB ht rfl
          refine vx_catch (name := "java/lang/IllegalArgumentException") hown [⟨0, 10, 13, 13⟩] ⟨0, 10, 17, 15⟩ [] (htab.trans rfl) (fun z hz => by (rcases List.mem_cons.mp hz with rfl | hz; exact Or.inr ⟨by decide, "java/lang/IndexOutOfBoundsException", hts _ (List.mem_of_getElem? (i := 1) rfl), hC.2 "java/lang/IllegalArgumentException" (by decide +kernel) "java/lang/IndexOutOfBoundsException" (by decide +kernel) (by decide +kernel)⟩; cases hz)) (by decide +kernel) (by decide) (hts _ (List.mem_of_getElem? (i := 2) rfl)) ((hC.1.1 "java/lang/IllegalArgumentException" (by decide +kernel)).use rfl) hce hcv hcl ?_
          refine lv_astore (lv' := [(4, .ref q13), (0, .ref d0), (1, .int a2), (2, .int a3), (3, .ref o0)]) hx hb dL_version_17 hl (by decide) rfl (fun ls hl => ?_)
          refine lv_iconst (v := 2) hx hb dL_version_19 (by decide) ?_
          have hR := Option.some.inj hf
          subst hR
          refine W.widen (k := 2) (n := 12) (Nat.le_of_ble_eq_true rfl) (Nat.le_of_ble_eq_true rfl) ?_
          exact W.iret (v := (2 : Int32)) hx hb hr (fun t ht hW => ⟨⟨(2 : Int32), (), rfl, rfl, by rw [ht]; exact hP, va_K.moved hW.alike hK, hD⟩, hS.F ht⟩) hS.2.2 dL_version_20
        · exact absurd hw (fun h => nomatch h)
      · have hf := ite_F c12 hf
        exact absurd hf (fun h => nomatch h)
  | ok r2 =>
    refine vx_calli (vx_runV (As := [.int a2, .int a3]) (rest := [.int 0, .ref o0]) ⟨hx, hb, hml, hown, hts⟩ (c_X5_version l dC dI cI cZ cC cJ cD hst d0 s0 z0 b0 q0 t0 v0 f0 r0 v_keys v_firsts v_ends v_values v_inferred v_gone f_keys f_days f_amounts f_versions r_keys r_days r_values s.heap.size dhasSaved dkeptError dmoved vkeys vfirsts vends vvalues vinferred vgone vmade fkeys fdays famounts fversions fcount rkeys rdays rvalues rcount a2 a3 (Except.ok r2) g4) (cwV 2 hts gL_version_X5_version rfl rfl rfl hs_X5_version ⟨Nat.le_of_ble_eq_true rfl, Nat.le_of_ble_eq_true rfl⟩) (preVy_ (ci := 7) (q0 := 0) hPc hK hDc rfl rfl rfl rfl hS hU hN hFc hC.1) rfl rfl hl.1 rfl (lv_room (Nat.le_of_ble_eq_true rfl)) dL_version_5 ⟨Nat.le_of_ble_eq_true rfl, Nat.le_of_ble_eq_true rfl⟩) hS (fun q _ h => hFc q h) hFc (fun q _ h => hFc q h) (fun E ce q9 u t H7 locs ht hvm hp hB hz1 hk1 hS hce hcv hcl => ?_) (fun z8 u t H7 locs ht hvm hw hB hz1 hk1 hS => ?_)
    · exact absurd hB.1 (fun h => nomatch h)
    · have hw : r2 = z8 := Except.ok.inj hw
      subst hw
      obtain ⟨hP, hD⟩ := aft_ (Wr := wO_ o0 cJ ov) (Wc' := wD_ d0 s0 z0 b0 q0 t0 dhasSaved dkeptError dmoved ++ wS_ s0 v0 f0 r0 ++ wV_ v0 v_keys v_firsts v_ends v_values v_inferred v_gone cI cZ vkeys vfirsts vends vvalues vinferred vgone vmade ++ wF_ f0 f_keys f_days f_amounts f_versions cI fkeys fdays famounts fversions fcount ++ wR_ r0 r_keys r_days r_values cI rkeys rdays rvalues rcount) (W2 := wD_ d0 s0 z0 b0 q0 t0 dhasSaved dkeptError dmoved ++ wS_ s0 v0 f0 r0 ++ wV_ v0 v_keys v_firsts v_ends v_values v_inferred v_gone cI cZ vkeys vfirsts vends vvalues vinferred vgone vmade ++ wF_ f0 f_keys f_days f_amounts f_versions cI fkeys fdays famounts fversions fcount ++ wR_ r0 r_keys r_days r_values cI rkeys rdays rvalues rcount ++ wO_ o0 cJ ov) hP hD [0, 1, 2, 3, 4, 5, 6, 7, 8, 9, 10, 11, 12, 13, 14, 15, 16, 17] [18] [1, 2, 3, 4, 5, 6, 7, 8, 9, 10, 11, 12, 13, 14, 15, 16, 17, 18, 0] rfl rfl (by decide) (by decide) (by decide) hk1 hFc hB ht rfl
      refine lv_i2l hx hb dL_version_8 rfl ?_
      obtain ⟨h14, hf⟩ := gd_T hf
      refine va_last hx hb hK hP hD hS 18 3 rfl rfl h14 dL_version_9 (fun H15 locs hP hD hS => ?_)
      have hP : va_P (dC, dI) vwCl (wD_ d0 s0 z0 b0 q0 t0 dhasSaved dkeptError dmoved ++ wS_ s0 v0 f0 r0 ++ wV_ v0 v_keys v_firsts v_ends v_values v_inferred v_gone cI cZ vkeys vfirsts vends vvalues vinferred vgone vmade ++ wF_ f0 f_keys f_days f_amounts f_versions cI fkeys fdays famounts fversions fcount ++ wR_ r0 r_keys r_days r_values cI rkeys rdays rvalues rcount ++ wO_ o0 cJ (vp_updL ov ((0 : Int32).toNatClampNeg) r2.toInt64)) H15 := hP
      have hD : va_D A (wD_ d0 s0 z0 b0 q0 t0 dhasSaved dkeptError dmoved ++ wS_ s0 v0 f0 r0 ++ wV_ v0 v_keys v_firsts v_ends v_values v_inferred v_gone cI cZ vkeys vfirsts vends vvalues vinferred vgone vmade ++ wF_ f0 f_keys f_days f_amounts f_versions cI fkeys fdays famounts fversions fcount ++ wR_ r0 r_keys r_days r_values cI rkeys rdays rvalues rcount ++ wO_ o0 cJ (vp_updL ov ((0 : Int32).toNatClampNeg) r2.toInt64)) := hD
      obtain ⟨u16, e17, hf⟩ := nm_T hf
      rw [← e17] at hP hD
      refine lv_goto (tgt := 21) hx hb dL_version_10 (by decide) ?_
      refine lv_iconst (v := 0) hx hb dL_version_21 (by decide) ?_
      have hR := Option.some.inj hf
      subst hR
      refine W.widen (k := 2) (n := 12) (Nat.le_of_ble_eq_true rfl) (Nat.le_of_ble_eq_true rfl) ?_
      exact W.iret (v := (0 : Int32)) hx hb hr (fun t ht hW => ⟨⟨(0 : Int32), (), rfl, rfl, by rw [ht]; exact hP, va_K.moved hW.alike hK, hD⟩, hS.F ht⟩) hS.2.2 dL_version_22
theorem hs_L_version : yL_version.cls ≠ "java/lang/invoke/MethodHandle" ∧ yL_version.cls ≠ "java/lang/invoke/VarHandle" ∧ (parseMethodDescriptor yL_version.desc).map (fun d => d.parameters.length) = some 4 := by decide +kernel
def f_L_isInferred (a2 : Int32) (D_ : tD_) (S_ : tS_) (V_ : tV_) (F_ : tF_) (R_ : tR_) (ov : tO_) : Option (Int32 × tO_) :=
match D_ with
| (dhasSaved, dkeptError, dmoved) =>
match V_ with
| (vkeys, vfirsts, vends, vvalues, vinferred, vgone, vmade) =>
match F_ with
| (fkeys, fdays, famounts, fversions, fcount) =>
match R_ with
| (rkeys, rdays, rvalues, rcount) =>
bd_ (f_X5_isInferred a2 (dhasSaved, dkeptError, dmoved) () (vkeys, vfirsts, vends, vvalues, vinferred, vgone, vmade) (fkeys, fdays, famounts, fversions, fcount) (rkeys, rdays, rvalues, rcount)) (fun x1 =>
match x1 with
| Except.error E9 => (if E9 = "java/lang/IndexOutOfBoundsException" then some ((1 : Int32), ov) else none)
| Except.ok r2 =>
if r2 = 0 then
gd_ (0 : Int32) 1 (nm_ (vp_updL ov ((0 : Int32).toNatClampNeg) (0 : Int64)) (fun u15 =>
some ((0 : Int32), u15)))
else
gd_ (0 : Int32) 1 (nm_ (vp_updL ov ((0 : Int32).toNatClampNeg) (1 : Int64)) (fun u19 =>
some ((0 : Int32), u19))))
abbrev rm_L_isInferred : Room := { frames := 8, cells := 1, slots := 6, locals := 131 }
set_option maxHeartbeats 4000000 in
set_option maxRecDepth 100000 in
theorem c_L_isInferred (l : Launch) (dC : Nat → ClassId) (dI : Nat → Nat → Nat) (cI cZ cC cJ cD : ClassId) (hst : l.stackTraces = false) (d0 s0 z0 b0 q0 t0 v0 f0 r0 v_keys v_firsts v_ends v_values v_inferred v_gone f_keys f_days f_amounts f_versions r_keys r_days r_values o0 : Nat) (sz : Nat) (dhasSaved : Int32) (dkeptError : Int32) (dmoved : Int32) (vkeys : Nat → Int32) (vfirsts : Nat → Int32) (vends : Nat → Int32) (vvalues : Nat → Int32) (vinferred : Nat → Int32) (vgone : Nat → Int32) (vmade : Int32) (fkeys : Nat → Int32) (fdays : Nat → Int32) (famounts : Nat → Int32) (fversions : Nat → Int32) (fcount : Int32) (rkeys : Nat → Int32) (rdays : Nat → Int32) (rvalues : Nat → Int32) (rcount : Int32) (ov : Nat → Int64) (a2 : Int32) (R : Int32 × tO_) (hf : f_L_isInferred a2 (dhasSaved, dkeptError, dmoved) () (vkeys, vfirsts, vends, vvalues, vinferred, vgone, vmade) (fkeys, fdays, famounts, fversions, fcount) (rkeys, rdays, rvalues, rcount) ov = some R) : Met l yL_isInferred wsL_isInferred rm_L_isInferred (PL_ (dC, dI) (ty_ cI cZ cC cJ cD) (wD_ d0 s0 z0 b0 q0 t0 dhasSaved dkeptError dmoved ++ wS_ s0 v0 f0 r0 ++ wV_ v0 v_keys v_firsts v_ends v_values v_inferred v_gone cI cZ vkeys vfirsts vends vvalues vinferred vgone vmade ++ wF_ f0 f_keys f_days f_amounts f_versions cI fkeys fdays famounts fversions fcount ++ wR_ r0 r_keys r_days r_values cI rkeys rdays rvalues rcount ++ wO_ o0 cJ ov) sz [.ref d0, .int a2, .ref o0]) (Qi_ (dC, dI) (ty_ cI cZ cC cJ cD) R.1 (wD_ d0 s0 z0 b0 q0 t0 dhasSaved dkeptError dmoved ++ wS_ s0 v0 f0 r0 ++ wV_ v0 v_keys v_firsts v_ends v_values v_inferred v_gone cI cZ vkeys vfirsts vends vvalues vinferred vgone vmade ++ wF_ f0 f_keys f_days f_amounts f_versions cI fkeys fdays famounts fversions fcount ++ wR_ r0 r_keys r_days r_values cI rkeys rdays rvalues rcount ++ wO_ o0 cJ R.2) (va_A (wD_ d0 s0 z0 b0 q0 t0 dhasSaved dkeptError dmoved ++ wS_ s0 v0 f0 r0 ++ wV_ v0 v_keys v_firsts v_ends v_values v_inferred v_gone cI cZ vkeys vfirsts vends vvalues vinferred vgone vmade ++ wF_ f0 f_keys f_days f_amounts f_versions cI fkeys fdays famounts fversions fcount ++ wR_ r0 r_keys r_days r_values cI rkeys rdays rvalues rcount ++ wO_ o0 cJ ov) sz)) 1 6 (va_A (wD_ d0 s0 z0 b0 q0 t0 dhasSaved dkeptError dmoved ++ wS_ s0 v0 f0 r0 ++ wV_ v0 v_keys v_firsts v_ends v_values v_inferred v_gone cI cZ vkeys vfirsts vends vvalues vinferred vgone vmade ++ wF_ f0 f_keys f_days f_amounts f_versions cI fkeys fdays famounts fversions fcount ++ wR_ r0 r_keys r_days r_values cI rkeys rdays rvalues rcount ++ wO_ o0 cJ ov) sz) := by
  refine metw_ (cc := cL_isInferred) (maxL := 4) (ret := (some .int)) (hh := [(0, 16, 19, 13)]) (Qcf := fun A => Qi_ (dC, dI) (ty_ cI cZ cC cJ cD) R.1 (wD_ d0 s0 z0 b0 q0 t0 dhasSaved dkeptError dmoved ++ wS_ s0 v0 f0 r0 ++ wV_ v0 v_keys v_firsts v_ends v_values v_inferred v_gone cI cZ vkeys vfirsts vends vvalues vinferred vgone vmade ++ wF_ f0 f_keys f_days f_amounts f_versions cI fkeys fdays famounts fversions fcount ++ wR_ r0 r_keys r_days r_values cI rkeys rdays rvalues rcount ++ wO_ o0 cJ R.2) A) (by decide) rfl (Nat.le_of_ble_eq_true rfl) ?_
  intro p e s m args below meth c A ls hx hb hr hts hown hlocks hml htab hA hU hN hC hP hK hD hl
  have hown : s.vm.findClass RL = some m.cls := hown
  have hl : lv_has ls 4 [(0, .ref d0), (1, .int a2), (2, .ref o0)] := hl
  have hS : va_S A s.heap s.heap [] := va_S.rf
  unfold f_L_isInferred at hf
  dsimp only at hf
  refine lv_aload_n hx hb dL_isInferred_0 rfl (lv_at hl 2 rfl) ?_
  refine lv_iconst (v := 0) hx hb dL_isInferred_1 (by decide) ?_
  refine lv_aload_n hx hb dL_isInferred_2 rfl (lv_at hl 0 rfl) ?_
  refine lv_iload_n hx hb dL_isInferred_3 rfl (lv_at hl 1 rfl) ?_
  obtain ⟨R3, g4, hf⟩ := bd_B hf
  obtain ⟨x1, rfl⟩ : ∃ z, z = R3 := ⟨_, rfl⟩
  have hPc := hP.sub (ws' := wD_ d0 s0 z0 b0 q0 t0 dhasSaved dkeptError dmoved ++ wS_ s0 v0 f0 r0 ++ wV_ v0 v_keys v_firsts v_ends v_values v_inferred v_gone cI cZ vkeys vfirsts vends vvalues vinferred vgone vmade ++ wF_ f0 f_keys f_days f_amounts f_versions cI fkeys fdays famounts fversions fcount ++ wR_ r0 r_keys r_days r_values cI rkeys rdays rvalues rcount) [0, 1, 2, 3, 4, 5, 6, 7, 8, 9, 10, 11, 12, 13, 14, 15, 16, 17] rfl
  have hDc := hD.sub (ws' := wD_ d0 s0 z0 b0 q0 t0 dhasSaved dkeptError dmoved ++ wS_ s0 v0 f0 r0 ++ wV_ v0 v_keys v_firsts v_ends v_values v_inferred v_gone cI cZ vkeys vfirsts vends vvalues vinferred vgone vmade ++ wF_ f0 f_keys f_days f_amounts f_versions cI fkeys fdays famounts fversions fcount ++ wR_ r0 r_keys r_days r_values cI rkeys rdays rvalues rcount) [0, 1, 2, 3, 4, 5, 6, 7, 8, 9, 10, 11, 12, 13, 14, 15, 16, 17] (by decide) rfl
  have hFc := va_free (wc := wD_ d0 s0 z0 b0 q0 t0 dhasSaved dkeptError dmoved ++ wS_ s0 v0 f0 r0 ++ wV_ v0 v_keys v_firsts v_ends v_values v_inferred v_gone cI cZ vkeys vfirsts vends vvalues vinferred vgone vmade ++ wF_ f0 f_keys f_days f_amounts f_versions cI fkeys fdays famounts fversions fcount ++ wR_ r0 r_keys r_days r_values cI rkeys rdays rvalues rcount) hD hS hA [0, 1, 2, 3, 4, 5, 6, 7, 8, 9, 10, 11, 12, 13, 14, 15, 16, 17] rfl
  cases x1 with
  | error E9 =>
    by_cases c10 : E9 = "java/lang/IndexOutOfBoundsException"
    · have hf := ite_T c10 hf
      subst c10
      refine vx_calli (vx_runV (As := [.int a2]) (rest := [.int 0, .ref o0]) ⟨hx, hb, hml, hown, hts⟩ (c_X5_isInferred l dC dI cI cZ cC cJ cD hst d0 s0 z0 b0 q0 t0 v0 f0 r0 v_keys v_firsts v_ends v_values v_inferred v_gone f_keys f_days f_amounts f_versions r_keys r_days r_values s.heap.size dhasSaved dkeptError dmoved vkeys vfirsts vends vvalues vinferred vgone vmade fkeys fdays famounts fversions fcount rkeys rdays rvalues rcount a2 (Except.error "java/lang/IndexOutOfBoundsException") g4) (cwV 1 hts gL_isInferred_X5_isInferred rfl rfl rfl hs_X5_isInferred ⟨Nat.le_of_ble_eq_true rfl, Nat.le_of_ble_eq_true rfl⟩) (preVy_ (ci := 7) (q0 := 0) hPc hK hDc rfl rfl rfl rfl hS hU hN hFc hC.1) rfl rfl hl.1 rfl (lv_room (Nat.le_of_ble_eq_true rfl)) dL_isInferred_4 ⟨Nat.le_of_ble_eq_true rfl, Nat.le_of_ble_eq_true rfl⟩) hS (fun q _ h => hFc q h) hFc (fun q _ h => hFc q h) (fun E ce q11 u t H7 locs ht hvm hp hB hz1 hk1 hS hce hcv hcl => ?_) (fun z8 u t H7 locs ht hvm hw hB hz1 hk1 hS => ?_)
      · obtain ⟨hE, hB⟩ := hB
        cases hE
        obtain ⟨hP, hD⟩ := aft_ (Wr := wO_ o0 cJ ov) (Wc' := wD_ d0 s0 z0 b0 q0 t0 dhasSaved dkeptError dmoved ++ wS_ s0 v0 f0 r0 ++ wV_ v0 v_keys v_firsts v_ends v_values v_inferred v_gone cI cZ vkeys vfirsts vends vvalues vinferred vgone vmade ++ wF_ f0 f_keys f_days f_amounts f_versions cI fkeys fdays famounts fversions fcount ++ wR_ r0 r_keys r_days r_values cI rkeys rdays rvalues rcount) (W2 := wD_ d0 s0 z0 b0 q0 t0 dhasSaved dkeptError dmoved ++ wS_ s0 v0 f0 r0 ++ wV_ v0 v_keys v_firsts v_ends v_values v_inferred v_gone cI cZ vkeys vfirsts vends vvalues vinferred vgone vmade ++ wF_ f0 f_keys f_days f_amounts f_versions cI fkeys fdays famounts fversions fcount ++ wR_ r0 r_keys r_days r_values cI rkeys rdays rvalues rcount ++ wO_ o0 cJ ov) hP hD [0, 1, 2, 3, 4, 5, 6, 7, 8, 9, 10, 11, 12, 13, 14, 15, 16, 17] [18] [1, 2, 3, 4, 5, 6, 7, 8, 9, 10, 11, 12, 13, 14, 15, 16, 17, 18, 0] rfl rfl (by decide) (by decide) (by decide) hk1 hFc hB ht rfl
        refine vx_catch (name := "java/lang/IndexOutOfBoundsException") hown [] ⟨0, 16, 19, 13⟩ [] (htab.trans rfl) (fun z hz => nomatch hz) (by decide +kernel) (by decide) (hts _ (List.mem_of_getElem? (i := 1) rfl)) ((hC.1.1 "java/lang/IndexOutOfBoundsException" (by decide +kernel)).use rfl) hce hcv hcl ?_
        refine lv_astore_n (lv' := [(3, .ref q11), (0, .ref d0), (1, .int a2), (2, .ref o0)]) hx hb dL_isInferred_19 rfl hl (by decide) rfl (fun ls hl => ?_)
        refine lv_iconst (v := 1) hx hb dL_isInferred_20 (by decide) ?_
        have hR := Option.some.inj hf
        subst hR
        refine W.widen (k := 1) (n := 6) (Nat.le_of_ble_eq_true rfl) (Nat.le_of_ble_eq_true rfl) ?_
        exact W.iret (v := (1 : Int32)) hx hb hr (fun t ht hW => ⟨⟨(1 : Int32), (), rfl, rfl, by rw [ht]; exact hP, va_K.moved hW.alike hK, hD⟩, hS.F ht⟩) hS.2.2 dL_isInferred_21
      · exact absurd hw (fun h => nomatch h)
    · have hf := ite_F c10 hf
      exact absurd hf (fun h => nomatch h)
  | ok r2 =>
    refine vx_calli (vx_runV (As := [.int a2]) (rest := [.int 0, .ref o0]) ⟨hx, hb, hml, hown, hts⟩ (c_X5_isInferred l dC dI cI cZ cC cJ cD hst d0 s0 z0 b0 q0 t0 v0 f0 r0 v_keys v_firsts v_ends v_values v_inferred v_gone f_keys f_days f_amounts f_versions r_keys r_days r_values s.heap.size dhasSaved dkeptError dmoved vkeys vfirsts vends vvalues vinferred vgone vmade fkeys fdays famounts fversions fcount rkeys rdays rvalues rcount a2 (Except.ok r2) g4) (cwV 1 hts gL_isInferred_X5_isInferred rfl rfl rfl hs_X5_isInferred ⟨Nat.le_of_ble_eq_true rfl, Nat.le_of_ble_eq_true rfl⟩) (preVy_ (ci := 7) (q0 := 0) hPc hK hDc rfl rfl rfl rfl hS hU hN hFc hC.1) rfl rfl hl.1 rfl (lv_room (Nat.le_of_ble_eq_true rfl)) dL_isInferred_4 ⟨Nat.le_of_ble_eq_true rfl, Nat.le_of_ble_eq_true rfl⟩) hS (fun q _ h => hFc q h) hFc (fun q _ h => hFc q h) (fun E ce q9 u t H7 locs ht hvm hp hB hz1 hk1 hS hce hcv hcl => ?_) (fun z8 u t H7 locs ht hvm hw hB hz1 hk1 hS => ?_)
    · exact absurd hB.1 (fun h => nomatch h)
    · have hw : r2 = z8 := Except.ok.inj hw
      subst hw
      obtain ⟨hP, hD⟩ := aft_ (Wr := wO_ o0 cJ ov) (Wc' := wD_ d0 s0 z0 b0 q0 t0 dhasSaved dkeptError dmoved ++ wS_ s0 v0 f0 r0 ++ wV_ v0 v_keys v_firsts v_ends v_values v_inferred v_gone cI cZ vkeys vfirsts vends vvalues vinferred vgone vmade ++ wF_ f0 f_keys f_days f_amounts f_versions cI fkeys fdays famounts fversions fcount ++ wR_ r0 r_keys r_days r_values cI rkeys rdays rvalues rcount) (W2 := wD_ d0 s0 z0 b0 q0 t0 dhasSaved dkeptError dmoved ++ wS_ s0 v0 f0 r0 ++ wV_ v0 v_keys v_firsts v_ends v_values v_inferred v_gone cI cZ vkeys vfirsts vends vvalues vinferred vgone vmade ++ wF_ f0 f_keys f_days f_amounts f_versions cI fkeys fdays famounts fversions fcount ++ wR_ r0 r_keys r_days r_values cI rkeys rdays rvalues rcount ++ wO_ o0 cJ ov) hP hD [0, 1, 2, 3, 4, 5, 6, 7, 8, 9, 10, 11, 12, 13, 14, 15, 16, 17] [18] [1, 2, 3, 4, 5, 6, 7, 8, 9, 10, 11, 12, 13, 14, 15, 16, 17, 18, 0] rfl rfl (by decide) (by decide) (by decide) hk1 hFc hB ht rfl
      refine lv_if_eq (tgt := 14) hx hb dL_isInferred_7 (by decide) (fun c12 => ?_) (fun c12 => ?_)
      · have hf := ite_T c12 hf
        refine lv_lconst (v := 0) hx hb dL_isInferred_14 (by decide) ?_
        obtain ⟨h13, hf⟩ := gd_T hf
        refine va_last hx hb hK hP hD hS 18 3 rfl rfl h13 dL_isInferred_15 (fun H14 locs hP hD hS => ?_)
        have hP : va_P (dC, dI) vwCl (wD_ d0 s0 z0 b0 q0 t0 dhasSaved dkeptError dmoved ++ wS_ s0 v0 f0 r0 ++ wV_ v0 v_keys v_firsts v_ends v_values v_inferred v_gone cI cZ vkeys vfirsts vends vvalues vinferred vgone vmade ++ wF_ f0 f_keys f_days f_amounts f_versions cI fkeys fdays famounts fversions fcount ++ wR_ r0 r_keys r_days r_values cI rkeys rdays rvalues rcount ++ wO_ o0 cJ (vp_updL ov ((0 : Int32).toNatClampNeg) (0 : Int64))) H14 := hP
        have hD : va_D A (wD_ d0 s0 z0 b0 q0 t0 dhasSaved dkeptError dmoved ++ wS_ s0 v0 f0 r0 ++ wV_ v0 v_keys v_firsts v_ends v_values v_inferred v_gone cI cZ vkeys vfirsts vends vvalues vinferred vgone vmade ++ wF_ f0 f_keys f_days f_amounts f_versions cI fkeys fdays famounts fversions fcount ++ wR_ r0 r_keys r_days r_values cI rkeys rdays rvalues rcount ++ wO_ o0 cJ (vp_updL ov ((0 : Int32).toNatClampNeg) (0 : Int64))) := hD
        obtain ⟨u15, e16, hf⟩ := nm_T hf
        rw [← e16] at hP hD
        refine lv_goto (tgt := 22) hx hb dL_isInferred_16 (by decide) ?_
        refine lv_iconst (v := 0) hx hb dL_isInferred_22 (by decide) ?_
        have hR := Option.some.inj hf
        subst hR
        refine W.widen (k := 1) (n := 6) (Nat.le_of_ble_eq_true rfl) (Nat.le_of_ble_eq_true rfl) ?_
        exact W.iret (v := (0 : Int32)) hx hb hr (fun t ht hW => ⟨⟨(0 : Int32), (), rfl, rfl, by rw [ht]; exact hP, va_K.moved hW.alike hK, hD⟩, hS.F ht⟩) hS.2.2 dL_isInferred_23
      · have hf := ite_F c12 hf
        refine lv_lconst (v := 1) hx hb dL_isInferred_10 (by decide) ?_
        refine lv_goto (tgt := 15) hx hb dL_isInferred_11 (by decide) ?_
        obtain ⟨h17, hf⟩ := gd_T hf
        refine va_last hx hb hK hP hD hS 18 3 rfl rfl h17 dL_isInferred_15 (fun H18 locs hP hD hS => ?_)
        have hP : va_P (dC, dI) vwCl (wD_ d0 s0 z0 b0 q0 t0 dhasSaved dkeptError dmoved ++ wS_ s0 v0 f0 r0 ++ wV_ v0 v_keys v_firsts v_ends v_values v_inferred v_gone cI cZ vkeys vfirsts vends vvalues vinferred vgone vmade ++ wF_ f0 f_keys f_days f_amounts f_versions cI fkeys fdays famounts fversions fcount ++ wR_ r0 r_keys r_days r_values cI rkeys rdays rvalues rcount ++ wO_ o0 cJ (vp_updL ov ((0 : Int32).toNatClampNeg) (1 : Int64))) H18 := hP
        have hD : va_D A (wD_ d0 s0 z0 b0 q0 t0 dhasSaved dkeptError dmoved ++ wS_ s0 v0 f0 r0 ++ wV_ v0 v_keys v_firsts v_ends v_values v_inferred v_gone cI cZ vkeys vfirsts vends vvalues vinferred vgone vmade ++ wF_ f0 f_keys f_days f_amounts f_versions cI fkeys fdays famounts fversions fcount ++ wR_ r0 r_keys r_days r_values cI rkeys rdays rvalues rcount ++ wO_ o0 cJ (vp_updL ov ((0 : Int32).toNatClampNeg) (1 : Int64))) := hD
        obtain ⟨u19, e20, hf⟩ := nm_T hf
        rw [← e20] at hP hD
        refine lv_goto (tgt := 22) hx hb dL_isInferred_16 (by decide) ?_
        refine lv_iconst (v := 0) hx hb dL_isInferred_22 (by decide) ?_
        have hR := Option.some.inj hf
        subst hR
        refine W.widen (k := 1) (n := 6) (Nat.le_of_ble_eq_true rfl) (Nat.le_of_ble_eq_true rfl) ?_
        exact W.iret (v := (0 : Int32)) hx hb hr (fun t ht hW => ⟨⟨(0 : Int32), (), rfl, rfl, by rw [ht]; exact hP, va_K.moved hW.alike hK, hD⟩, hS.F ht⟩) hS.2.2 dL_isInferred_23
theorem hs_L_isInferred : yL_isInferred.cls ≠ "java/lang/invoke/MethodHandle" ∧ yL_isInferred.cls ≠ "java/lang/invoke/VarHandle" ∧ (parseMethodDescriptor yL_isInferred.desc).map (fun d => d.parameters.length) = some 3 := by decide +kernel
def f_L_firstInferred  (D_ : tD_) (S_ : tS_) (V_ : tV_) (F_ : tF_) (R_ : tR_) (ov : tO_) : Option (Int32 × tO_) :=
match D_ with
| (dhasSaved, dkeptError, dmoved) =>
match V_ with
| (vkeys, vfirsts, vends, vvalues, vinferred, vgone, vmade) =>
match F_ with
| (fkeys, fdays, famounts, fversions, fcount) =>
match R_ with
| (rkeys, rdays, rvalues, rcount) =>
bd_ (f_X5_firstInferred (dhasSaved, dkeptError, dmoved) () (vkeys, vfirsts, vends, vvalues, vinferred, vgone, vmade) (fkeys, fdays, famounts, fversions, fcount) (rkeys, rdays, rvalues, rcount)) (fun x1 =>
match x1 with
| Except.error E9 => (if E9 = "java/util/NoSuchElementException" then some ((1 : Int32), ov) else none)
| Except.ok r2 =>
gd_ (0 : Int32) 1 (nm_ (vp_updL ov ((0 : Int32).toNatClampNeg) r2.toInt64) (fun u14 =>
some ((0 : Int32), u14))))
abbrev rm_L_firstInferred : Room := { frames := 8, cells := 1, slots := 6, locals := 129 }
set_option maxHeartbeats 4000000 in
set_option maxRecDepth 100000 in
theorem c_L_firstInferred (l : Launch) (dC : Nat → ClassId) (dI : Nat → Nat → Nat) (cI cZ cC cJ cD : ClassId) (hst : l.stackTraces = false) (d0 s0 z0 b0 q0 t0 v0 f0 r0 v_keys v_firsts v_ends v_values v_inferred v_gone f_keys f_days f_amounts f_versions r_keys r_days r_values o0 : Nat) (sz : Nat) (dhasSaved : Int32) (dkeptError : Int32) (dmoved : Int32) (vkeys : Nat → Int32) (vfirsts : Nat → Int32) (vends : Nat → Int32) (vvalues : Nat → Int32) (vinferred : Nat → Int32) (vgone : Nat → Int32) (vmade : Int32) (fkeys : Nat → Int32) (fdays : Nat → Int32) (famounts : Nat → Int32) (fversions : Nat → Int32) (fcount : Int32) (rkeys : Nat → Int32) (rdays : Nat → Int32) (rvalues : Nat → Int32) (rcount : Int32) (ov : Nat → Int64)  (R : Int32 × tO_) (hf : f_L_firstInferred  (dhasSaved, dkeptError, dmoved) () (vkeys, vfirsts, vends, vvalues, vinferred, vgone, vmade) (fkeys, fdays, famounts, fversions, fcount) (rkeys, rdays, rvalues, rcount) ov = some R) : Met l yL_firstInferred wsL_firstInferred rm_L_firstInferred (PL_ (dC, dI) (ty_ cI cZ cC cJ cD) (wD_ d0 s0 z0 b0 q0 t0 dhasSaved dkeptError dmoved ++ wS_ s0 v0 f0 r0 ++ wV_ v0 v_keys v_firsts v_ends v_values v_inferred v_gone cI cZ vkeys vfirsts vends vvalues vinferred vgone vmade ++ wF_ f0 f_keys f_days f_amounts f_versions cI fkeys fdays famounts fversions fcount ++ wR_ r0 r_keys r_days r_values cI rkeys rdays rvalues rcount ++ wO_ o0 cJ ov) sz [.ref d0, .ref o0]) (Qi_ (dC, dI) (ty_ cI cZ cC cJ cD) R.1 (wD_ d0 s0 z0 b0 q0 t0 dhasSaved dkeptError dmoved ++ wS_ s0 v0 f0 r0 ++ wV_ v0 v_keys v_firsts v_ends v_values v_inferred v_gone cI cZ vkeys vfirsts vends vvalues vinferred vgone vmade ++ wF_ f0 f_keys f_days f_amounts f_versions cI fkeys fdays famounts fversions fcount ++ wR_ r0 r_keys r_days r_values cI rkeys rdays rvalues rcount ++ wO_ o0 cJ R.2) (va_A (wD_ d0 s0 z0 b0 q0 t0 dhasSaved dkeptError dmoved ++ wS_ s0 v0 f0 r0 ++ wV_ v0 v_keys v_firsts v_ends v_values v_inferred v_gone cI cZ vkeys vfirsts vends vvalues vinferred vgone vmade ++ wF_ f0 f_keys f_days f_amounts f_versions cI fkeys fdays famounts fversions fcount ++ wR_ r0 r_keys r_days r_values cI rkeys rdays rvalues rcount ++ wO_ o0 cJ ov) sz)) 1 6 (va_A (wD_ d0 s0 z0 b0 q0 t0 dhasSaved dkeptError dmoved ++ wS_ s0 v0 f0 r0 ++ wV_ v0 v_keys v_firsts v_ends v_values v_inferred v_gone cI cZ vkeys vfirsts vends vvalues vinferred vgone vmade ++ wF_ f0 f_keys f_days f_amounts f_versions cI fkeys fdays famounts fversions fcount ++ wR_ r0 r_keys r_days r_values cI rkeys rdays rvalues rcount ++ wO_ o0 cJ ov) sz) := by
  refine metw_ (cc := cL_firstInferred) (maxL := 3) (ret := (some .int)) (hh := [(0, 8, 11, 26)]) (Qcf := fun A => Qi_ (dC, dI) (ty_ cI cZ cC cJ cD) R.1 (wD_ d0 s0 z0 b0 q0 t0 dhasSaved dkeptError dmoved ++ wS_ s0 v0 f0 r0 ++ wV_ v0 v_keys v_firsts v_ends v_values v_inferred v_gone cI cZ vkeys vfirsts vends vvalues vinferred vgone vmade ++ wF_ f0 f_keys f_days f_amounts f_versions cI fkeys fdays famounts fversions fcount ++ wR_ r0 r_keys r_days r_values cI rkeys rdays rvalues rcount ++ wO_ o0 cJ R.2) A) (by decide) rfl (Nat.le_of_ble_eq_true rfl) ?_
  intro p e s m args below meth c A ls hx hb hr hts hown hlocks hml htab hA hU hN hC hP hK hD hl
  have hown : s.vm.findClass RL = some m.cls := hown
  have hl : lv_has ls 3 [(0, .ref d0), (1, .ref o0)] := hl
  have hS : va_S A s.heap s.heap [] := va_S.rf
  unfold f_L_firstInferred at hf
  dsimp only at hf
  refine lv_aload_n hx hb dL_firstInferred_0 rfl (lv_at hl 1 rfl) ?_
  refine lv_iconst (v := 0) hx hb dL_firstInferred_1 (by decide) ?_
  refine lv_aload_n hx hb dL_firstInferred_2 rfl (lv_at hl 0 rfl) ?_
  obtain ⟨R3, g4, hf⟩ := bd_B hf
  obtain ⟨x1, rfl⟩ : ∃ z, z = R3 := ⟨_, rfl⟩
  have hPc := hP.sub (ws' := wD_ d0 s0 z0 b0 q0 t0 dhasSaved dkeptError dmoved ++ wS_ s0 v0 f0 r0 ++ wV_ v0 v_keys v_firsts v_ends v_values v_inferred v_gone cI cZ vkeys vfirsts vends vvalues vinferred vgone vmade ++ wF_ f0 f_keys f_days f_amounts f_versions cI fkeys fdays famounts fversions fcount ++ wR_ r0 r_keys r_days r_values cI rkeys rdays rvalues rcount) [0, 1, 2, 3, 4, 5, 6, 7, 8, 9, 10, 11, 12, 13, 14, 15, 16, 17] rfl
  have hDc := hD.sub (ws' := wD_ d0 s0 z0 b0 q0 t0 dhasSaved dkeptError dmoved ++ wS_ s0 v0 f0 r0 ++ wV_ v0 v_keys v_firsts v_ends v_values v_inferred v_gone cI cZ vkeys vfirsts vends vvalues vinferred vgone vmade ++ wF_ f0 f_keys f_days f_amounts f_versions cI fkeys fdays famounts fversions fcount ++ wR_ r0 r_keys r_days r_values cI rkeys rdays rvalues rcount) [0, 1, 2, 3, 4, 5, 6, 7, 8, 9, 10, 11, 12, 13, 14, 15, 16, 17] (by decide) rfl
  have hFc := va_free (wc := wD_ d0 s0 z0 b0 q0 t0 dhasSaved dkeptError dmoved ++ wS_ s0 v0 f0 r0 ++ wV_ v0 v_keys v_firsts v_ends v_values v_inferred v_gone cI cZ vkeys vfirsts vends vvalues vinferred vgone vmade ++ wF_ f0 f_keys f_days f_amounts f_versions cI fkeys fdays famounts fversions fcount ++ wR_ r0 r_keys r_days r_values cI rkeys rdays rvalues rcount) hD hS hA [0, 1, 2, 3, 4, 5, 6, 7, 8, 9, 10, 11, 12, 13, 14, 15, 16, 17] rfl
  cases x1 with
  | error E9 =>
    by_cases c10 : E9 = "java/util/NoSuchElementException"
    · have hf := ite_T c10 hf
      subst c10
      refine vx_calli (vx_runV (As := []) (rest := [.int 0, .ref o0]) ⟨hx, hb, hml, hown, hts⟩ (c_X5_firstInferred l dC dI cI cZ cC cJ cD hst d0 s0 z0 b0 q0 t0 v0 f0 r0 v_keys v_firsts v_ends v_values v_inferred v_gone f_keys f_days f_amounts f_versions r_keys r_days r_values s.heap.size dhasSaved dkeptError dmoved vkeys vfirsts vends vvalues vinferred vgone vmade fkeys fdays famounts fversions fcount rkeys rdays rvalues rcount (Except.error "java/util/NoSuchElementException") g4) (cwV 0 hts gL_firstInferred_X5_firstInferred rfl rfl rfl hs_X5_firstInferred ⟨Nat.le_of_ble_eq_true rfl, Nat.le_of_ble_eq_true rfl⟩) (preVy_ (ci := 7) (q0 := 0) hPc hK hDc rfl rfl rfl rfl hS hU hN hFc hC.1) rfl rfl hl.1 rfl (lv_room (Nat.le_of_ble_eq_true rfl)) dL_firstInferred_3 ⟨Nat.le_of_ble_eq_true rfl, Nat.le_of_ble_eq_true rfl⟩) hS (fun q _ h => hFc q h) hFc (fun q _ h => hFc q h) (fun E ce q11 u t H7 locs ht hvm hp hB hz1 hk1 hS hce hcv hcl => ?_) (fun z8 u t H7 locs ht hvm hw hB hz1 hk1 hS => ?_)
      · obtain ⟨hE, hB⟩ := hB
        cases hE
        obtain ⟨hP, hD⟩ := aft_ (Wr := wO_ o0 cJ ov) (Wc' := wD_ d0 s0 z0 b0 q0 t0 dhasSaved dkeptError dmoved ++ wS_ s0 v0 f0 r0 ++ wV_ v0 v_keys v_firsts v_ends v_values v_inferred v_gone cI cZ vkeys vfirsts vends vvalues vinferred vgone vmade ++ wF_ f0 f_keys f_days f_amounts f_versions cI fkeys fdays famounts fversions fcount ++ wR_ r0 r_keys r_days r_values cI rkeys rdays rvalues rcount) (W2 := wD_ d0 s0 z0 b0 q0 t0 dhasSaved dkeptError dmoved ++ wS_ s0 v0 f0 r0 ++ wV_ v0 v_keys v_firsts v_ends v_values v_inferred v_gone cI cZ vkeys vfirsts vends vvalues vinferred vgone vmade ++ wF_ f0 f_keys f_days f_amounts f_versions cI fkeys fdays famounts fversions fcount ++ wR_ r0 r_keys r_days r_values cI rkeys rdays rvalues rcount ++ wO_ o0 cJ ov) hP hD [0, 1, 2, 3, 4, 5, 6, 7, 8, 9, 10, 11, 12, 13, 14, 15, 16, 17] [18] [1, 2, 3, 4, 5, 6, 7, 8, 9, 10, 11, 12, 13, 14, 15, 16, 17, 18, 0] rfl rfl (by decide) (by decide) (by decide) hk1 hFc hB ht rfl
        refine vx_catch (name := "java/util/NoSuchElementException") hown [] ⟨0, 8, 11, 26⟩ [] (htab.trans rfl) (fun z hz => nomatch hz) (by decide +kernel) (by decide) (hts _ (List.mem_of_getElem? (i := 1) rfl)) ((hC.1.1 "java/util/NoSuchElementException" (by decide +kernel)).use rfl) hce hcv hcl ?_
        refine lv_astore_n (lv' := [(2, .ref q11), (0, .ref d0), (1, .ref o0)]) hx hb dL_firstInferred_11 rfl hl (by decide) rfl (fun ls hl => ?_)
        refine lv_iconst (v := 1) hx hb dL_firstInferred_12 (by decide) ?_
        have hR := Option.some.inj hf
        subst hR
        refine W.widen (k := 1) (n := 6) (Nat.le_of_ble_eq_true rfl) (Nat.le_of_ble_eq_true rfl) ?_
        exact W.iret (v := (1 : Int32)) hx hb hr (fun t ht hW => ⟨⟨(1 : Int32), (), rfl, rfl, by rw [ht]; exact hP, va_K.moved hW.alike hK, hD⟩, hS.F ht⟩) hS.2.2 dL_firstInferred_13
      · exact absurd hw (fun h => nomatch h)
    · have hf := ite_F c10 hf
      exact absurd hf (fun h => nomatch h)
  | ok r2 =>
    refine vx_calli (vx_runV (As := []) (rest := [.int 0, .ref o0]) ⟨hx, hb, hml, hown, hts⟩ (c_X5_firstInferred l dC dI cI cZ cC cJ cD hst d0 s0 z0 b0 q0 t0 v0 f0 r0 v_keys v_firsts v_ends v_values v_inferred v_gone f_keys f_days f_amounts f_versions r_keys r_days r_values s.heap.size dhasSaved dkeptError dmoved vkeys vfirsts vends vvalues vinferred vgone vmade fkeys fdays famounts fversions fcount rkeys rdays rvalues rcount (Except.ok r2) g4) (cwV 0 hts gL_firstInferred_X5_firstInferred rfl rfl rfl hs_X5_firstInferred ⟨Nat.le_of_ble_eq_true rfl, Nat.le_of_ble_eq_true rfl⟩) (preVy_ (ci := 7) (q0 := 0) hPc hK hDc rfl rfl rfl rfl hS hU hN hFc hC.1) rfl rfl hl.1 rfl (lv_room (Nat.le_of_ble_eq_true rfl)) dL_firstInferred_3 ⟨Nat.le_of_ble_eq_true rfl, Nat.le_of_ble_eq_true rfl⟩) hS (fun q _ h => hFc q h) hFc (fun q _ h => hFc q h) (fun E ce q9 u t H7 locs ht hvm hp hB hz1 hk1 hS hce hcv hcl => ?_) (fun z8 u t H7 locs ht hvm hw hB hz1 hk1 hS => ?_)
    · exact absurd hB.1 (fun h => nomatch h)
    · have hw : r2 = z8 := Except.ok.inj hw
      subst hw
      obtain ⟨hP, hD⟩ := aft_ (Wr := wO_ o0 cJ ov) (Wc' := wD_ d0 s0 z0 b0 q0 t0 dhasSaved dkeptError dmoved ++ wS_ s0 v0 f0 r0 ++ wV_ v0 v_keys v_firsts v_ends v_values v_inferred v_gone cI cZ vkeys vfirsts vends vvalues vinferred vgone vmade ++ wF_ f0 f_keys f_days f_amounts f_versions cI fkeys fdays famounts fversions fcount ++ wR_ r0 r_keys r_days r_values cI rkeys rdays rvalues rcount) (W2 := wD_ d0 s0 z0 b0 q0 t0 dhasSaved dkeptError dmoved ++ wS_ s0 v0 f0 r0 ++ wV_ v0 v_keys v_firsts v_ends v_values v_inferred v_gone cI cZ vkeys vfirsts vends vvalues vinferred vgone vmade ++ wF_ f0 f_keys f_days f_amounts f_versions cI fkeys fdays famounts fversions fcount ++ wR_ r0 r_keys r_days r_values cI rkeys rdays rvalues rcount ++ wO_ o0 cJ ov) hP hD [0, 1, 2, 3, 4, 5, 6, 7, 8, 9, 10, 11, 12, 13, 14, 15, 16, 17] [18] [1, 2, 3, 4, 5, 6, 7, 8, 9, 10, 11, 12, 13, 14, 15, 16, 17, 18, 0] rfl rfl (by decide) (by decide) (by decide) hk1 hFc hB ht rfl
      refine lv_i2l hx hb dL_firstInferred_6 rfl ?_
      obtain ⟨h12, hf⟩ := gd_T hf
      refine va_last hx hb hK hP hD hS 18 3 rfl rfl h12 dL_firstInferred_7 (fun H13 locs hP hD hS => ?_)
      have hP : va_P (dC, dI) vwCl (wD_ d0 s0 z0 b0 q0 t0 dhasSaved dkeptError dmoved ++ wS_ s0 v0 f0 r0 ++ wV_ v0 v_keys v_firsts v_ends v_values v_inferred v_gone cI cZ vkeys vfirsts vends vvalues vinferred vgone vmade ++ wF_ f0 f_keys f_days f_amounts f_versions cI fkeys fdays famounts fversions fcount ++ wR_ r0 r_keys r_days r_values cI rkeys rdays rvalues rcount ++ wO_ o0 cJ (vp_updL ov ((0 : Int32).toNatClampNeg) r2.toInt64)) H13 := hP
      have hD : va_D A (wD_ d0 s0 z0 b0 q0 t0 dhasSaved dkeptError dmoved ++ wS_ s0 v0 f0 r0 ++ wV_ v0 v_keys v_firsts v_ends v_values v_inferred v_gone cI cZ vkeys vfirsts vends vvalues vinferred vgone vmade ++ wF_ f0 f_keys f_days f_amounts f_versions cI fkeys fdays famounts fversions fcount ++ wR_ r0 r_keys r_days r_values cI rkeys rdays rvalues rcount ++ wO_ o0 cJ (vp_updL ov ((0 : Int32).toNatClampNeg) r2.toInt64)) := hD
      obtain ⟨u14, e15, hf⟩ := nm_T hf
      rw [← e15] at hP hD
      refine lv_goto (tgt := 14) hx hb dL_firstInferred_8 (by decide) ?_
      refine lv_iconst (v := 0) hx hb dL_firstInferred_14 (by decide) ?_
      have hR := Option.some.inj hf
      subst hR
      refine W.widen (k := 1) (n := 6) (Nat.le_of_ble_eq_true rfl) (Nat.le_of_ble_eq_true rfl) ?_
      exact W.iret (v := (0 : Int32)) hx hb hr (fun t ht hW => ⟨⟨(0 : Int32), (), rfl, rfl, by rw [ht]; exact hP, va_K.moved hW.alike hK, hD⟩, hS.F ht⟩) hS.2.2 dL_firstInferred_15
theorem hs_L_firstInferred : yL_firstInferred.cls ≠ "java/lang/invoke/MethodHandle" ∧ yL_firstInferred.cls ≠ "java/lang/invoke/VarHandle" ∧ (parseMethodDescriptor yL_firstInferred.desc).map (fun d => d.parameters.length) = some 2 := by decide +kernel
def f_L_fact (a2 : Int32) (a3 : Int32) (D_ : tD_) (S_ : tS_) (V_ : tV_) (F_ : tF_) (R_ : tR_) (ov : tO_) : Option (Int32 × tO_) :=
match D_ with
| (dhasSaved, dkeptError, dmoved) =>
match V_ with
| (vkeys, vfirsts, vends, vvalues, vinferred, vgone, vmade) =>
match F_ with
| (fkeys, fdays, famounts, fversions, fcount) =>
match R_ with
| (rkeys, rdays, rvalues, rcount) =>
bd_ (f_X5_fact a2 a3 (dhasSaved, dkeptError, dmoved) () (vkeys, vfirsts, vends, vvalues, vinferred, vgone, vmade) (fkeys, fdays, famounts, fversions, fcount) (rkeys, rdays, rvalues, rcount)) (fun x1 =>
match x1 with
| Except.error E9 => (if E9 = "java/lang/IndexOutOfBoundsException" then some ((1 : Int32), ov) else (if E9 = "java/lang/IllegalArgumentException" then some ((2 : Int32), ov) else none))
| Except.ok r2 =>
gd_ (0 : Int32) 1 (nm_ (vp_updL ov ((0 : Int32).toNatClampNeg) r2.toInt64) (fun u16 =>
some ((0 : Int32), u16))))
abbrev rm_L_fact : Room := { frames := 7, cells := 1, slots := 6, locals := 111 }
set_option maxHeartbeats 4000000 in
set_option maxRecDepth 100000 in
theorem c_L_fact (l : Launch) (dC : Nat → ClassId) (dI : Nat → Nat → Nat) (cI cZ cC cJ cD : ClassId) (hst : l.stackTraces = false) (d0 s0 z0 b0 q0 t0 v0 f0 r0 v_keys v_firsts v_ends v_values v_inferred v_gone f_keys f_days f_amounts f_versions r_keys r_days r_values o0 : Nat) (sz : Nat) (dhasSaved : Int32) (dkeptError : Int32) (dmoved : Int32) (vkeys : Nat → Int32) (vfirsts : Nat → Int32) (vends : Nat → Int32) (vvalues : Nat → Int32) (vinferred : Nat → Int32) (vgone : Nat → Int32) (vmade : Int32) (fkeys : Nat → Int32) (fdays : Nat → Int32) (famounts : Nat → Int32) (fversions : Nat → Int32) (fcount : Int32) (rkeys : Nat → Int32) (rdays : Nat → Int32) (rvalues : Nat → Int32) (rcount : Int32) (ov : Nat → Int64) (a2 : Int32) (a3 : Int32) (R : Int32 × tO_) (hf : f_L_fact a2 a3 (dhasSaved, dkeptError, dmoved) () (vkeys, vfirsts, vends, vvalues, vinferred, vgone, vmade) (fkeys, fdays, famounts, fversions, fcount) (rkeys, rdays, rvalues, rcount) ov = some R) : Met l yL_fact wsL_fact rm_L_fact (PL_ (dC, dI) (ty_ cI cZ cC cJ cD) (wD_ d0 s0 z0 b0 q0 t0 dhasSaved dkeptError dmoved ++ wS_ s0 v0 f0 r0 ++ wV_ v0 v_keys v_firsts v_ends v_values v_inferred v_gone cI cZ vkeys vfirsts vends vvalues vinferred vgone vmade ++ wF_ f0 f_keys f_days f_amounts f_versions cI fkeys fdays famounts fversions fcount ++ wR_ r0 r_keys r_days r_values cI rkeys rdays rvalues rcount ++ wO_ o0 cJ ov) sz [.ref d0, .int a2, .int a3, .ref o0]) (Qi_ (dC, dI) (ty_ cI cZ cC cJ cD) R.1 (wD_ d0 s0 z0 b0 q0 t0 dhasSaved dkeptError dmoved ++ wS_ s0 v0 f0 r0 ++ wV_ v0 v_keys v_firsts v_ends v_values v_inferred v_gone cI cZ vkeys vfirsts vends vvalues vinferred vgone vmade ++ wF_ f0 f_keys f_days f_amounts f_versions cI fkeys fdays famounts fversions fcount ++ wR_ r0 r_keys r_days r_values cI rkeys rdays rvalues rcount ++ wO_ o0 cJ R.2) (va_A (wD_ d0 s0 z0 b0 q0 t0 dhasSaved dkeptError dmoved ++ wS_ s0 v0 f0 r0 ++ wV_ v0 v_keys v_firsts v_ends v_values v_inferred v_gone cI cZ vkeys vfirsts vends vvalues vinferred vgone vmade ++ wF_ f0 f_keys f_days f_amounts f_versions cI fkeys fdays famounts fversions fcount ++ wR_ r0 r_keys r_days r_values cI rkeys rdays rvalues rcount ++ wO_ o0 cJ ov) sz)) 1 6 (va_A (wD_ d0 s0 z0 b0 q0 t0 dhasSaved dkeptError dmoved ++ wS_ s0 v0 f0 r0 ++ wV_ v0 v_keys v_firsts v_ends v_values v_inferred v_gone cI cZ vkeys vfirsts vends vvalues vinferred vgone vmade ++ wF_ f0 f_keys f_days f_amounts f_versions cI fkeys fdays famounts fversions fcount ++ wR_ r0 r_keys r_days r_values cI rkeys rdays rvalues rcount ++ wO_ o0 cJ ov) sz) := by
  refine metw_ (cc := cL_fact) (maxL := 5) (ret := (some .int)) (hh := [(0, 10, 13, 13), (0, 10, 17, 15)]) (Qcf := fun A => Qi_ (dC, dI) (ty_ cI cZ cC cJ cD) R.1 (wD_ d0 s0 z0 b0 q0 t0 dhasSaved dkeptError dmoved ++ wS_ s0 v0 f0 r0 ++ wV_ v0 v_keys v_firsts v_ends v_values v_inferred v_gone cI cZ vkeys vfirsts vends vvalues vinferred vgone vmade ++ wF_ f0 f_keys f_days f_amounts f_versions cI fkeys fdays famounts fversions fcount ++ wR_ r0 r_keys r_days r_values cI rkeys rdays rvalues rcount ++ wO_ o0 cJ R.2) A) (by decide) rfl (Nat.le_of_ble_eq_true rfl) ?_
  intro p e s m args below meth c A ls hx hb hr hts hown hlocks hml htab hA hU hN hC hP hK hD hl
  have hown : s.vm.findClass RL = some m.cls := hown
  have hl : lv_has ls 5 [(0, .ref d0), (1, .int a2), (2, .int a3), (3, .ref o0)] := hl
  have hS : va_S A s.heap s.heap [] := va_S.rf
  unfold f_L_fact at hf
  dsimp only at hf
  refine lv_aload_n hx hb dL_fact_0 rfl (lv_at hl 3 rfl) ?_
  refine lv_iconst (v := 0) hx hb dL_fact_1 (by decide) ?_
  refine lv_aload_n hx hb dL_fact_2 rfl (lv_at hl 0 rfl) ?_
  refine lv_iload_n hx hb dL_fact_3 rfl (lv_at hl 1 rfl) ?_
  refine lv_iload_n hx hb dL_fact_4 rfl (lv_at hl 2 rfl) ?_
  obtain ⟨R3, g4, hf⟩ := bd_B hf
  obtain ⟨x1, rfl⟩ : ∃ z, z = R3 := ⟨_, rfl⟩
  have hPc := hP.sub (ws' := wD_ d0 s0 z0 b0 q0 t0 dhasSaved dkeptError dmoved ++ wS_ s0 v0 f0 r0 ++ wV_ v0 v_keys v_firsts v_ends v_values v_inferred v_gone cI cZ vkeys vfirsts vends vvalues vinferred vgone vmade ++ wF_ f0 f_keys f_days f_amounts f_versions cI fkeys fdays famounts fversions fcount ++ wR_ r0 r_keys r_days r_values cI rkeys rdays rvalues rcount) [0, 1, 2, 3, 4, 5, 6, 7, 8, 9, 10, 11, 12, 13, 14, 15, 16, 17] rfl
  have hDc := hD.sub (ws' := wD_ d0 s0 z0 b0 q0 t0 dhasSaved dkeptError dmoved ++ wS_ s0 v0 f0 r0 ++ wV_ v0 v_keys v_firsts v_ends v_values v_inferred v_gone cI cZ vkeys vfirsts vends vvalues vinferred vgone vmade ++ wF_ f0 f_keys f_days f_amounts f_versions cI fkeys fdays famounts fversions fcount ++ wR_ r0 r_keys r_days r_values cI rkeys rdays rvalues rcount) [0, 1, 2, 3, 4, 5, 6, 7, 8, 9, 10, 11, 12, 13, 14, 15, 16, 17] (by decide) rfl
  have hFc := va_free (wc := wD_ d0 s0 z0 b0 q0 t0 dhasSaved dkeptError dmoved ++ wS_ s0 v0 f0 r0 ++ wV_ v0 v_keys v_firsts v_ends v_values v_inferred v_gone cI cZ vkeys vfirsts vends vvalues vinferred vgone vmade ++ wF_ f0 f_keys f_days f_amounts f_versions cI fkeys fdays famounts fversions fcount ++ wR_ r0 r_keys r_days r_values cI rkeys rdays rvalues rcount) hD hS hA [0, 1, 2, 3, 4, 5, 6, 7, 8, 9, 10, 11, 12, 13, 14, 15, 16, 17] rfl
  cases x1 with
  | error E9 =>
    by_cases c10 : E9 = "java/lang/IndexOutOfBoundsException"
    · have hf := ite_T c10 hf
      subst c10
      refine vx_calli (vx_runV (As := [.int a2, .int a3]) (rest := [.int 0, .ref o0]) ⟨hx, hb, hml, hown, hts⟩ (c_X5_fact l dC dI cI cZ cC cJ cD hst d0 s0 z0 b0 q0 t0 v0 f0 r0 v_keys v_firsts v_ends v_values v_inferred v_gone f_keys f_days f_amounts f_versions r_keys r_days r_values s.heap.size dhasSaved dkeptError dmoved vkeys vfirsts vends vvalues vinferred vgone vmade fkeys fdays famounts fversions fcount rkeys rdays rvalues rcount a2 a3 (Except.error "java/lang/IndexOutOfBoundsException") g4) (cwV 2 hts gL_fact_X5_fact rfl rfl rfl hs_X5_fact ⟨Nat.le_of_ble_eq_true rfl, Nat.le_of_ble_eq_true rfl⟩) (preVy_ (ci := 7) (q0 := 0) hPc hK hDc rfl rfl rfl rfl hS hU hN hFc hC.1) rfl rfl hl.1 rfl (lv_room (Nat.le_of_ble_eq_true rfl)) dL_fact_5 ⟨Nat.le_of_ble_eq_true rfl, Nat.le_of_ble_eq_true rfl⟩) hS (fun q _ h => hFc q h) hFc (fun q _ h => hFc q h) (fun E ce q11 u t H7 locs ht hvm hp hB hz1 hk1 hS hce hcv hcl => ?_) (fun z8 u t H7 locs ht hvm hw hB hz1 hk1 hS => ?_)
      · obtain ⟨hE, hB⟩ := hB
        cases hE
        obtain ⟨hP, hD⟩ := aft_ (Wr := wO_ o0 cJ ov) (Wc' := wD_ d0 s0 z0 b0 q0 t0 dhasSaved dkeptError dmoved ++ wS_ s0 v0 f0 r0 ++ wV_ v0 v_keys v_firsts v_ends v_values v_inferred v_gone cI cZ vkeys vfirsts vends vvalues vinferred vgone vmade ++ wF_ f0 f_keys f_days f_amounts f_versions cI fkeys fdays famounts fversions fcount ++ wR_ r0 r_keys r_days r_values cI rkeys rdays rvalues rcount) (W2 := wD_ d0 s0 z0 b0 q0 t0 dhasSaved dkeptError dmoved ++ wS_ s0 v0 f0 r0 ++ wV_ v0 v_keys v_firsts v_ends v_values v_inferred v_gone cI cZ vkeys vfirsts vends vvalues vinferred vgone vmade ++ wF_ f0 f_keys f_days f_amounts f_versions cI fkeys fdays famounts fversions fcount ++ wR_ r0 r_keys r_days r_values cI rkeys rdays rvalues rcount ++ wO_ o0 cJ ov) hP hD [0, 1, 2, 3, 4, 5, 6, 7, 8, 9, 10, 11, 12, 13, 14, 15, 16, 17] [18] [1, 2, 3, 4, 5, 6, 7, 8, 9, 10, 11, 12, 13, 14, 15, 16, 17, 18, 0] rfl rfl (by decide) (by decide) (by decide) hk1 hFc hB ht rfl
        refine vx_catch (name := "java/lang/IndexOutOfBoundsException") hown [] ⟨0, 10, 13, 13⟩ [⟨0, 10, 17, 15⟩] (htab.trans rfl) (fun z hz => nomatch hz) (by decide +kernel) (by decide) (hts _ (List.mem_of_getElem? (i := 1) rfl)) ((hC.1.1 "java/lang/IndexOutOfBoundsException" (by decide +kernel)).use rfl) hce hcv hcl ?_
        refine lv_astore (lv' := [(4, .ref q11), (0, .ref d0), (1, .int a2), (2, .int a3), (3, .ref o0)]) hx hb dL_fact_13 hl (by decide) rfl (fun ls hl => ?_)
        refine lv_iconst (v := 1) hx hb dL_fact_15 (by decide) ?_
        have hR := Option.some.inj hf
        subst hR
        refine W.widen (k := 1) (n := 6) (Nat.le_of_ble_eq_true rfl) (Nat.le_of_ble_eq_true rfl) ?_
        exact W.iret (v := (1 : Int32)) hx hb hr (fun t ht hW => ⟨⟨(1 : Int32), (), rfl, rfl, by rw [ht]; exact hP, va_K.moved hW.alike hK, hD⟩, hS.F ht⟩) hS.2.2 dL_fact_16
      · exact absurd hw (fun h => nomatch h)
    · have hf := ite_F c10 hf
      by_cases c12 : E9 = "java/lang/IllegalArgumentException"
      · have hf := ite_T c12 hf
        subst c12
        refine vx_calli (vx_runV (As := [.int a2, .int a3]) (rest := [.int 0, .ref o0]) ⟨hx, hb, hml, hown, hts⟩ (c_X5_fact l dC dI cI cZ cC cJ cD hst d0 s0 z0 b0 q0 t0 v0 f0 r0 v_keys v_firsts v_ends v_values v_inferred v_gone f_keys f_days f_amounts f_versions r_keys r_days r_values s.heap.size dhasSaved dkeptError dmoved vkeys vfirsts vends vvalues vinferred vgone vmade fkeys fdays famounts fversions fcount rkeys rdays rvalues rcount a2 a3 (Except.error "java/lang/IllegalArgumentException") g4) (cwV 2 hts gL_fact_X5_fact rfl rfl rfl hs_X5_fact ⟨Nat.le_of_ble_eq_true rfl, Nat.le_of_ble_eq_true rfl⟩) (preVy_ (ci := 7) (q0 := 0) hPc hK hDc rfl rfl rfl rfl hS hU hN hFc hC.1) rfl rfl hl.1 rfl (lv_room (Nat.le_of_ble_eq_true rfl)) dL_fact_5 ⟨Nat.le_of_ble_eq_true rfl, Nat.le_of_ble_eq_true rfl⟩) hS (fun q _ h => hFc q h) hFc (fun q _ h => hFc q h) (fun E ce q13 u t H7 locs ht hvm hp hB hz1 hk1 hS hce hcv hcl => ?_) (fun z8 u t H7 locs ht hvm hw hB hz1 hk1 hS => ?_)
        · obtain ⟨hE, hB⟩ := hB
          cases hE
          obtain ⟨hP, hD⟩ := aft_ (Wr := wO_ o0 cJ ov) (Wc' := wD_ d0 s0 z0 b0 q0 t0 dhasSaved dkeptError dmoved ++ wS_ s0 v0 f0 r0 ++ wV_ v0 v_keys v_firsts v_ends v_values v_inferred v_gone cI cZ vkeys vfirsts vends vvalues vinferred vgone vmade ++ wF_ f0 f_keys f_days f_amounts f_versions cI fkeys fdays famounts fversions fcount ++ wR_ r0 r_keys r_days r_values cI rkeys rdays rvalues rcount) (W2 := wD_ d0 s0 z0 b0 q0 t0 dhasSaved dkeptError dmoved ++ wS_ s0 v0 f0 r0 ++ wV_ v0 v_keys v_firsts v_ends v_values v_inferred v_gone cI cZ vkeys vfirsts vends vvalues vinferred vgone vmade ++ wF_ f0 f_keys f_days f_amounts f_versions cI fkeys fdays famounts fversions fcount ++ wR_ r0 r_keys r_days r_values cI rkeys rdays rvalues rcount ++ wO_ o0 cJ ov) hP hD [0, 1, 2, 3, 4, 5, 6, 7, 8, 9, 10, 11, 12, 13, 14, 15, 16, 17] [18] [1, 2, 3, 4, 5, 6, 7, 8, 9, 10, 11, 12, 13, 14, 15, 16, 17, 18, 0] rfl rfl (by decide) (by decide) (by decide) hk1 hFc hB ht rfl
          refine vx_catch (name := "java/lang/IllegalArgumentException") hown [⟨0, 10, 13, 13⟩] ⟨0, 10, 17, 15⟩ [] (htab.trans rfl) (fun z hz => by (rcases List.mem_cons.mp hz with rfl | hz; exact Or.inr ⟨by decide, "java/lang/IndexOutOfBoundsException", hts _ (List.mem_of_getElem? (i := 1) rfl), hC.2 "java/lang/IllegalArgumentException" (by decide +kernel) "java/lang/IndexOutOfBoundsException" (by decide +kernel) (by decide +kernel)⟩; cases hz)) (by decide +kernel) (by decide) (hts _ (List.mem_of_getElem? (i := 2) rfl)) ((hC.1.1 "java/lang/IllegalArgumentException" (by decide +kernel)).use rfl) hce hcv hcl ?_
          refine lv_astore (lv' := [(4, .ref q13), (0, .ref d0), (1, .int a2), (2, .int a3), (3, .ref o0)]) hx hb dL_fact_17 hl (by decide) rfl (fun ls hl => ?_)
          refine lv_iconst (v := 2) hx hb dL_fact_19 (by decide) ?_
          have hR := Option.some.inj hf
          subst hR
          refine W.widen (k := 1) (n := 6) (Nat.le_of_ble_eq_true rfl) (Nat.le_of_ble_eq_true rfl) ?_
          exact W.iret (v := (2 : Int32)) hx hb hr (fun t ht hW => ⟨⟨(2 : Int32), (), rfl, rfl, by rw [ht]; exact hP, va_K.moved hW.alike hK, hD⟩, hS.F ht⟩) hS.2.2 dL_fact_20
        · exact absurd hw (fun h => nomatch h)
      · have hf := ite_F c12 hf
        exact absurd hf (fun h => nomatch h)
  | ok r2 =>
    refine vx_calli (vx_runV (As := [.int a2, .int a3]) (rest := [.int 0, .ref o0]) ⟨hx, hb, hml, hown, hts⟩ (c_X5_fact l dC dI cI cZ cC cJ cD hst d0 s0 z0 b0 q0 t0 v0 f0 r0 v_keys v_firsts v_ends v_values v_inferred v_gone f_keys f_days f_amounts f_versions r_keys r_days r_values s.heap.size dhasSaved dkeptError dmoved vkeys vfirsts vends vvalues vinferred vgone vmade fkeys fdays famounts fversions fcount rkeys rdays rvalues rcount a2 a3 (Except.ok r2) g4) (cwV 2 hts gL_fact_X5_fact rfl rfl rfl hs_X5_fact ⟨Nat.le_of_ble_eq_true rfl, Nat.le_of_ble_eq_true rfl⟩) (preVy_ (ci := 7) (q0 := 0) hPc hK hDc rfl rfl rfl rfl hS hU hN hFc hC.1) rfl rfl hl.1 rfl (lv_room (Nat.le_of_ble_eq_true rfl)) dL_fact_5 ⟨Nat.le_of_ble_eq_true rfl, Nat.le_of_ble_eq_true rfl⟩) hS (fun q _ h => hFc q h) hFc (fun q _ h => hFc q h) (fun E ce q9 u t H7 locs ht hvm hp hB hz1 hk1 hS hce hcv hcl => ?_) (fun z8 u t H7 locs ht hvm hw hB hz1 hk1 hS => ?_)
    · exact absurd hB.1 (fun h => nomatch h)
    · have hw : r2 = z8 := Except.ok.inj hw
      subst hw
      obtain ⟨hP, hD⟩ := aft_ (Wr := wO_ o0 cJ ov) (Wc' := wD_ d0 s0 z0 b0 q0 t0 dhasSaved dkeptError dmoved ++ wS_ s0 v0 f0 r0 ++ wV_ v0 v_keys v_firsts v_ends v_values v_inferred v_gone cI cZ vkeys vfirsts vends vvalues vinferred vgone vmade ++ wF_ f0 f_keys f_days f_amounts f_versions cI fkeys fdays famounts fversions fcount ++ wR_ r0 r_keys r_days r_values cI rkeys rdays rvalues rcount) (W2 := wD_ d0 s0 z0 b0 q0 t0 dhasSaved dkeptError dmoved ++ wS_ s0 v0 f0 r0 ++ wV_ v0 v_keys v_firsts v_ends v_values v_inferred v_gone cI cZ vkeys vfirsts vends vvalues vinferred vgone vmade ++ wF_ f0 f_keys f_days f_amounts f_versions cI fkeys fdays famounts fversions fcount ++ wR_ r0 r_keys r_days r_values cI rkeys rdays rvalues rcount ++ wO_ o0 cJ ov) hP hD [0, 1, 2, 3, 4, 5, 6, 7, 8, 9, 10, 11, 12, 13, 14, 15, 16, 17] [18] [1, 2, 3, 4, 5, 6, 7, 8, 9, 10, 11, 12, 13, 14, 15, 16, 17, 18, 0] rfl rfl (by decide) (by decide) (by decide) hk1 hFc hB ht rfl
      refine lv_i2l hx hb dL_fact_8 rfl ?_
      obtain ⟨h14, hf⟩ := gd_T hf
      refine va_last hx hb hK hP hD hS 18 3 rfl rfl h14 dL_fact_9 (fun H15 locs hP hD hS => ?_)
      have hP : va_P (dC, dI) vwCl (wD_ d0 s0 z0 b0 q0 t0 dhasSaved dkeptError dmoved ++ wS_ s0 v0 f0 r0 ++ wV_ v0 v_keys v_firsts v_ends v_values v_inferred v_gone cI cZ vkeys vfirsts vends vvalues vinferred vgone vmade ++ wF_ f0 f_keys f_days f_amounts f_versions cI fkeys fdays famounts fversions fcount ++ wR_ r0 r_keys r_days r_values cI rkeys rdays rvalues rcount ++ wO_ o0 cJ (vp_updL ov ((0 : Int32).toNatClampNeg) r2.toInt64)) H15 := hP
      have hD : va_D A (wD_ d0 s0 z0 b0 q0 t0 dhasSaved dkeptError dmoved ++ wS_ s0 v0 f0 r0 ++ wV_ v0 v_keys v_firsts v_ends v_values v_inferred v_gone cI cZ vkeys vfirsts vends vvalues vinferred vgone vmade ++ wF_ f0 f_keys f_days f_amounts f_versions cI fkeys fdays famounts fversions fcount ++ wR_ r0 r_keys r_days r_values cI rkeys rdays rvalues rcount ++ wO_ o0 cJ (vp_updL ov ((0 : Int32).toNatClampNeg) r2.toInt64)) := hD
      obtain ⟨u16, e17, hf⟩ := nm_T hf
      rw [← e17] at hP hD
      refine lv_goto (tgt := 21) hx hb dL_fact_10 (by decide) ?_
      refine lv_iconst (v := 0) hx hb dL_fact_21 (by decide) ?_
      have hR := Option.some.inj hf
      subst hR
      refine W.widen (k := 1) (n := 6) (Nat.le_of_ble_eq_true rfl) (Nat.le_of_ble_eq_true rfl) ?_
      exact W.iret (v := (0 : Int32)) hx hb hr (fun t ht hW => ⟨⟨(0 : Int32), (), rfl, rfl, by rw [ht]; exact hP, va_K.moved hW.alike hK, hD⟩, hS.F ht⟩) hS.2.2 dL_fact_22
theorem hs_L_fact : yL_fact.cls ≠ "java/lang/invoke/MethodHandle" ∧ yL_fact.cls ≠ "java/lang/invoke/VarHandle" ∧ (parseMethodDescriptor yL_fact.desc).map (fun d => d.parameters.length) = some 4 := by decide +kernel
def f_L_amountOf (a2 : Int32) (D_ : tD_) (S_ : tS_) (V_ : tV_) (F_ : tF_) (R_ : tR_) (ov : tO_) : Option (Int32 × tO_) :=
match D_ with
| (dhasSaved, dkeptError, dmoved) =>
match V_ with
| (vkeys, vfirsts, vends, vvalues, vinferred, vgone, vmade) =>
match F_ with
| (fkeys, fdays, famounts, fversions, fcount) =>
match R_ with
| (rkeys, rdays, rvalues, rcount) =>
bd_ (f_X5_amountOf a2 (dhasSaved, dkeptError, dmoved) () (vkeys, vfirsts, vends, vvalues, vinferred, vgone, vmade) (fkeys, fdays, famounts, fversions, fcount) (rkeys, rdays, rvalues, rcount)) (fun x1 =>
match x1 with
| Except.error E9 => (if E9 = "java/lang/IndexOutOfBoundsException" then some ((1 : Int32), ov) else none)
| Except.ok r2 =>
gd_ (0 : Int32) 1 (nm_ (vp_updL ov ((0 : Int32).toNatClampNeg) r2) (fun u14 =>
some ((0 : Int32), u14))))
abbrev rm_L_amountOf : Room := { frames := 8, cells := 1, slots := 6, locals := 131 }
set_option maxHeartbeats 4000000 in
set_option maxRecDepth 100000 in
theorem c_L_amountOf (l : Launch) (dC : Nat → ClassId) (dI : Nat → Nat → Nat) (cI cZ cC cJ cD : ClassId) (hst : l.stackTraces = false) (d0 s0 z0 b0 q0 t0 v0 f0 r0 v_keys v_firsts v_ends v_values v_inferred v_gone f_keys f_days f_amounts f_versions r_keys r_days r_values o0 : Nat) (sz : Nat) (dhasSaved : Int32) (dkeptError : Int32) (dmoved : Int32) (vkeys : Nat → Int32) (vfirsts : Nat → Int32) (vends : Nat → Int32) (vvalues : Nat → Int32) (vinferred : Nat → Int32) (vgone : Nat → Int32) (vmade : Int32) (fkeys : Nat → Int32) (fdays : Nat → Int32) (famounts : Nat → Int32) (fversions : Nat → Int32) (fcount : Int32) (rkeys : Nat → Int32) (rdays : Nat → Int32) (rvalues : Nat → Int32) (rcount : Int32) (ov : Nat → Int64) (a2 : Int32) (R : Int32 × tO_) (hf : f_L_amountOf a2 (dhasSaved, dkeptError, dmoved) () (vkeys, vfirsts, vends, vvalues, vinferred, vgone, vmade) (fkeys, fdays, famounts, fversions, fcount) (rkeys, rdays, rvalues, rcount) ov = some R) : Met l yL_amountOf wsL_amountOf rm_L_amountOf (PL_ (dC, dI) (ty_ cI cZ cC cJ cD) (wD_ d0 s0 z0 b0 q0 t0 dhasSaved dkeptError dmoved ++ wS_ s0 v0 f0 r0 ++ wV_ v0 v_keys v_firsts v_ends v_values v_inferred v_gone cI cZ vkeys vfirsts vends vvalues vinferred vgone vmade ++ wF_ f0 f_keys f_days f_amounts f_versions cI fkeys fdays famounts fversions fcount ++ wR_ r0 r_keys r_days r_values cI rkeys rdays rvalues rcount ++ wO_ o0 cJ ov) sz [.ref d0, .int a2, .ref o0]) (Qi_ (dC, dI) (ty_ cI cZ cC cJ cD) R.1 (wD_ d0 s0 z0 b0 q0 t0 dhasSaved dkeptError dmoved ++ wS_ s0 v0 f0 r0 ++ wV_ v0 v_keys v_firsts v_ends v_values v_inferred v_gone cI cZ vkeys vfirsts vends vvalues vinferred vgone vmade ++ wF_ f0 f_keys f_days f_amounts f_versions cI fkeys fdays famounts fversions fcount ++ wR_ r0 r_keys r_days r_values cI rkeys rdays rvalues rcount ++ wO_ o0 cJ R.2) (va_A (wD_ d0 s0 z0 b0 q0 t0 dhasSaved dkeptError dmoved ++ wS_ s0 v0 f0 r0 ++ wV_ v0 v_keys v_firsts v_ends v_values v_inferred v_gone cI cZ vkeys vfirsts vends vvalues vinferred vgone vmade ++ wF_ f0 f_keys f_days f_amounts f_versions cI fkeys fdays famounts fversions fcount ++ wR_ r0 r_keys r_days r_values cI rkeys rdays rvalues rcount ++ wO_ o0 cJ ov) sz)) 1 6 (va_A (wD_ d0 s0 z0 b0 q0 t0 dhasSaved dkeptError dmoved ++ wS_ s0 v0 f0 r0 ++ wV_ v0 v_keys v_firsts v_ends v_values v_inferred v_gone cI cZ vkeys vfirsts vends vvalues vinferred vgone vmade ++ wF_ f0 f_keys f_days f_amounts f_versions cI fkeys fdays famounts fversions fcount ++ wR_ r0 r_keys r_days r_values cI rkeys rdays rvalues rcount ++ wO_ o0 cJ ov) sz) := by
  refine metw_ (cc := cL_amountOf) (maxL := 4) (ret := (some .int)) (hh := [(0, 8, 11, 13)]) (Qcf := fun A => Qi_ (dC, dI) (ty_ cI cZ cC cJ cD) R.1 (wD_ d0 s0 z0 b0 q0 t0 dhasSaved dkeptError dmoved ++ wS_ s0 v0 f0 r0 ++ wV_ v0 v_keys v_firsts v_ends v_values v_inferred v_gone cI cZ vkeys vfirsts vends vvalues vinferred vgone vmade ++ wF_ f0 f_keys f_days f_amounts f_versions cI fkeys fdays famounts fversions fcount ++ wR_ r0 r_keys r_days r_values cI rkeys rdays rvalues rcount ++ wO_ o0 cJ R.2) A) (by decide) rfl (Nat.le_of_ble_eq_true rfl) ?_
  intro p e s m args below meth c A ls hx hb hr hts hown hlocks hml htab hA hU hN hC hP hK hD hl
  have hown : s.vm.findClass RL = some m.cls := hown
  have hl : lv_has ls 4 [(0, .ref d0), (1, .int a2), (2, .ref o0)] := hl
  have hS : va_S A s.heap s.heap [] := va_S.rf
  unfold f_L_amountOf at hf
  dsimp only at hf
  refine lv_aload_n hx hb dL_amountOf_0 rfl (lv_at hl 2 rfl) ?_
  refine lv_iconst (v := 0) hx hb dL_amountOf_1 (by decide) ?_
  refine lv_aload_n hx hb dL_amountOf_2 rfl (lv_at hl 0 rfl) ?_
  refine lv_iload_n hx hb dL_amountOf_3 rfl (lv_at hl 1 rfl) ?_
  obtain ⟨R3, g4, hf⟩ := bd_B hf
  obtain ⟨x1, rfl⟩ : ∃ z, z = R3 := ⟨_, rfl⟩
  have hPc := hP.sub (ws' := wD_ d0 s0 z0 b0 q0 t0 dhasSaved dkeptError dmoved ++ wS_ s0 v0 f0 r0 ++ wV_ v0 v_keys v_firsts v_ends v_values v_inferred v_gone cI cZ vkeys vfirsts vends vvalues vinferred vgone vmade ++ wF_ f0 f_keys f_days f_amounts f_versions cI fkeys fdays famounts fversions fcount ++ wR_ r0 r_keys r_days r_values cI rkeys rdays rvalues rcount) [0, 1, 2, 3, 4, 5, 6, 7, 8, 9, 10, 11, 12, 13, 14, 15, 16, 17] rfl
  have hDc := hD.sub (ws' := wD_ d0 s0 z0 b0 q0 t0 dhasSaved dkeptError dmoved ++ wS_ s0 v0 f0 r0 ++ wV_ v0 v_keys v_firsts v_ends v_values v_inferred v_gone cI cZ vkeys vfirsts vends vvalues vinferred vgone vmade ++ wF_ f0 f_keys f_days f_amounts f_versions cI fkeys fdays famounts fversions fcount ++ wR_ r0 r_keys r_days r_values cI rkeys rdays rvalues rcount) [0, 1, 2, 3, 4, 5, 6, 7, 8, 9, 10, 11, 12, 13, 14, 15, 16, 17] (by decide) rfl
  have hFc := va_free (wc := wD_ d0 s0 z0 b0 q0 t0 dhasSaved dkeptError dmoved ++ wS_ s0 v0 f0 r0 ++ wV_ v0 v_keys v_firsts v_ends v_values v_inferred v_gone cI cZ vkeys vfirsts vends vvalues vinferred vgone vmade ++ wF_ f0 f_keys f_days f_amounts f_versions cI fkeys fdays famounts fversions fcount ++ wR_ r0 r_keys r_days r_values cI rkeys rdays rvalues rcount) hD hS hA [0, 1, 2, 3, 4, 5, 6, 7, 8, 9, 10, 11, 12, 13, 14, 15, 16, 17] rfl
  cases x1 with
  | error E9 =>
    by_cases c10 : E9 = "java/lang/IndexOutOfBoundsException"
    · have hf := ite_T c10 hf
      subst c10
      refine vx_calll (vx_runV (As := [.int a2]) (rest := [.int 0, .ref o0]) ⟨hx, hb, hml, hown, hts⟩ (c_X5_amountOf l dC dI cI cZ cC cJ cD hst d0 s0 z0 b0 q0 t0 v0 f0 r0 v_keys v_firsts v_ends v_values v_inferred v_gone f_keys f_days f_amounts f_versions r_keys r_days r_values s.heap.size dhasSaved dkeptError dmoved vkeys vfirsts vends vvalues vinferred vgone vmade fkeys fdays famounts fversions fcount rkeys rdays rvalues rcount a2 (Except.error "java/lang/IndexOutOfBoundsException") g4) (cwV 1 hts gL_amountOf_X5_amountOf rfl rfl rfl hs_X5_amountOf ⟨Nat.le_of_ble_eq_true rfl, Nat.le_of_ble_eq_true rfl⟩) (preVy_ (ci := 7) (q0 := 0) hPc hK hDc rfl rfl rfl rfl hS hU hN hFc hC.1) rfl rfl hl.1 rfl (lv_room (Nat.le_of_ble_eq_true rfl)) dL_amountOf_4 ⟨Nat.le_of_ble_eq_true rfl, Nat.le_of_ble_eq_true rfl⟩) hS (fun q _ h => hFc q h) hFc (fun q _ h => hFc q h) (fun E ce q11 u t H7 locs ht hvm hp hB hz1 hk1 hS hce hcv hcl => ?_) (fun z8 u t H7 locs ht hvm hw hB hz1 hk1 hS => ?_)
      · obtain ⟨hE, hB⟩ := hB
        cases hE
        obtain ⟨hP, hD⟩ := aft_ (Wr := wO_ o0 cJ ov) (Wc' := wD_ d0 s0 z0 b0 q0 t0 dhasSaved dkeptError dmoved ++ wS_ s0 v0 f0 r0 ++ wV_ v0 v_keys v_firsts v_ends v_values v_inferred v_gone cI cZ vkeys vfirsts vends vvalues vinferred vgone vmade ++ wF_ f0 f_keys f_days f_amounts f_versions cI fkeys fdays famounts fversions fcount ++ wR_ r0 r_keys r_days r_values cI rkeys rdays rvalues rcount) (W2 := wD_ d0 s0 z0 b0 q0 t0 dhasSaved dkeptError dmoved ++ wS_ s0 v0 f0 r0 ++ wV_ v0 v_keys v_firsts v_ends v_values v_inferred v_gone cI cZ vkeys vfirsts vends vvalues vinferred vgone vmade ++ wF_ f0 f_keys f_days f_amounts f_versions cI fkeys fdays famounts fversions fcount ++ wR_ r0 r_keys r_days r_values cI rkeys rdays rvalues rcount ++ wO_ o0 cJ ov) hP hD [0, 1, 2, 3, 4, 5, 6, 7, 8, 9, 10, 11, 12, 13, 14, 15, 16, 17] [18] [1, 2, 3, 4, 5, 6, 7, 8, 9, 10, 11, 12, 13, 14, 15, 16, 17, 18, 0] rfl rfl (by decide) (by decide) (by decide) hk1 hFc hB ht rfl
        refine vx_catch (name := "java/lang/IndexOutOfBoundsException") hown [] ⟨0, 8, 11, 13⟩ [] (htab.trans rfl) (fun z hz => nomatch hz) (by decide +kernel) (by decide) (hts _ (List.mem_of_getElem? (i := 1) rfl)) ((hC.1.1 "java/lang/IndexOutOfBoundsException" (by decide +kernel)).use rfl) hce hcv hcl ?_
        refine lv_astore_n (lv' := [(3, .ref q11), (0, .ref d0), (1, .int a2), (2, .ref o0)]) hx hb dL_amountOf_11 rfl hl (by decide) rfl (fun ls hl => ?_)
        refine lv_iconst (v := 1) hx hb dL_amountOf_12 (by decide) ?_
        have hR := Option.some.inj hf
        subst hR
        refine W.widen (k := 1) (n := 6) (Nat.le_of_ble_eq_true rfl) (Nat.le_of_ble_eq_true rfl) ?_
        exact W.iret (v := (1 : Int32)) hx hb hr (fun t ht hW => ⟨⟨(1 : Int32), (), rfl, rfl, by rw [ht]; exact hP, va_K.moved hW.alike hK, hD⟩, hS.F ht⟩) hS.2.2 dL_amountOf_13
      · exact absurd hw (fun h => nomatch h)
    · have hf := ite_F c10 hf
      exact absurd hf (fun h => nomatch h)
  | ok r2 =>
    refine vx_calll (vx_runV (As := [.int a2]) (rest := [.int 0, .ref o0]) ⟨hx, hb, hml, hown, hts⟩ (c_X5_amountOf l dC dI cI cZ cC cJ cD hst d0 s0 z0 b0 q0 t0 v0 f0 r0 v_keys v_firsts v_ends v_values v_inferred v_gone f_keys f_days f_amounts f_versions r_keys r_days r_values s.heap.size dhasSaved dkeptError dmoved vkeys vfirsts vends vvalues vinferred vgone vmade fkeys fdays famounts fversions fcount rkeys rdays rvalues rcount a2 (Except.ok r2) g4) (cwV 1 hts gL_amountOf_X5_amountOf rfl rfl rfl hs_X5_amountOf ⟨Nat.le_of_ble_eq_true rfl, Nat.le_of_ble_eq_true rfl⟩) (preVy_ (ci := 7) (q0 := 0) hPc hK hDc rfl rfl rfl rfl hS hU hN hFc hC.1) rfl rfl hl.1 rfl (lv_room (Nat.le_of_ble_eq_true rfl)) dL_amountOf_4 ⟨Nat.le_of_ble_eq_true rfl, Nat.le_of_ble_eq_true rfl⟩) hS (fun q _ h => hFc q h) hFc (fun q _ h => hFc q h) (fun E ce q9 u t H7 locs ht hvm hp hB hz1 hk1 hS hce hcv hcl => ?_) (fun z8 u t H7 locs ht hvm hw hB hz1 hk1 hS => ?_)
    · exact absurd hB.1 (fun h => nomatch h)
    · have hw : r2 = z8 := Except.ok.inj hw
      subst hw
      obtain ⟨hP, hD⟩ := aft_ (Wr := wO_ o0 cJ ov) (Wc' := wD_ d0 s0 z0 b0 q0 t0 dhasSaved dkeptError dmoved ++ wS_ s0 v0 f0 r0 ++ wV_ v0 v_keys v_firsts v_ends v_values v_inferred v_gone cI cZ vkeys vfirsts vends vvalues vinferred vgone vmade ++ wF_ f0 f_keys f_days f_amounts f_versions cI fkeys fdays famounts fversions fcount ++ wR_ r0 r_keys r_days r_values cI rkeys rdays rvalues rcount) (W2 := wD_ d0 s0 z0 b0 q0 t0 dhasSaved dkeptError dmoved ++ wS_ s0 v0 f0 r0 ++ wV_ v0 v_keys v_firsts v_ends v_values v_inferred v_gone cI cZ vkeys vfirsts vends vvalues vinferred vgone vmade ++ wF_ f0 f_keys f_days f_amounts f_versions cI fkeys fdays famounts fversions fcount ++ wR_ r0 r_keys r_days r_values cI rkeys rdays rvalues rcount ++ wO_ o0 cJ ov) hP hD [0, 1, 2, 3, 4, 5, 6, 7, 8, 9, 10, 11, 12, 13, 14, 15, 16, 17] [18] [1, 2, 3, 4, 5, 6, 7, 8, 9, 10, 11, 12, 13, 14, 15, 16, 17, 18, 0] rfl rfl (by decide) (by decide) (by decide) hk1 hFc hB ht rfl
      obtain ⟨h12, hf⟩ := gd_T hf
      refine va_last hx hb hK hP hD hS 18 3 rfl rfl h12 dL_amountOf_7 (fun H13 locs hP hD hS => ?_)
      have hP : va_P (dC, dI) vwCl (wD_ d0 s0 z0 b0 q0 t0 dhasSaved dkeptError dmoved ++ wS_ s0 v0 f0 r0 ++ wV_ v0 v_keys v_firsts v_ends v_values v_inferred v_gone cI cZ vkeys vfirsts vends vvalues vinferred vgone vmade ++ wF_ f0 f_keys f_days f_amounts f_versions cI fkeys fdays famounts fversions fcount ++ wR_ r0 r_keys r_days r_values cI rkeys rdays rvalues rcount ++ wO_ o0 cJ (vp_updL ov ((0 : Int32).toNatClampNeg) r2)) H13 := hP
      have hD : va_D A (wD_ d0 s0 z0 b0 q0 t0 dhasSaved dkeptError dmoved ++ wS_ s0 v0 f0 r0 ++ wV_ v0 v_keys v_firsts v_ends v_values v_inferred v_gone cI cZ vkeys vfirsts vends vvalues vinferred vgone vmade ++ wF_ f0 f_keys f_days f_amounts f_versions cI fkeys fdays famounts fversions fcount ++ wR_ r0 r_keys r_days r_values cI rkeys rdays rvalues rcount ++ wO_ o0 cJ (vp_updL ov ((0 : Int32).toNatClampNeg) r2)) := hD
      obtain ⟨u14, e15, hf⟩ := nm_T hf
      rw [← e15] at hP hD
      refine lv_goto (tgt := 14) hx hb dL_amountOf_8 (by decide) ?_
      refine lv_iconst (v := 0) hx hb dL_amountOf_14 (by decide) ?_
      have hR := Option.some.inj hf
      subst hR
      refine W.widen (k := 1) (n := 6) (Nat.le_of_ble_eq_true rfl) (Nat.le_of_ble_eq_true rfl) ?_
      exact W.iret (v := (0 : Int32)) hx hb hr (fun t ht hW => ⟨⟨(0 : Int32), (), rfl, rfl, by rw [ht]; exact hP, va_K.moved hW.alike hK, hD⟩, hS.F ht⟩) hS.2.2 dL_amountOf_15
theorem hs_L_amountOf : yL_amountOf.cls ≠ "java/lang/invoke/MethodHandle" ∧ yL_amountOf.cls ≠ "java/lang/invoke/VarHandle" ∧ (parseMethodDescriptor yL_amountOf.desc).map (fun d => d.parameters.length) = some 3 := by decide +kernel
def f_L_amountFor (a2 : Int32) (a3 : Int32) (D_ : tD_) (S_ : tS_) (V_ : tV_) (F_ : tF_) (R_ : tR_) (ov : tO_) : Option (Int32 × tO_) :=
match D_ with
| (dhasSaved, dkeptError, dmoved) =>
match V_ with
| (vkeys, vfirsts, vends, vvalues, vinferred, vgone, vmade) =>
match F_ with
| (fkeys, fdays, famounts, fversions, fcount) =>
match R_ with
| (rkeys, rdays, rvalues, rcount) =>
bd_ (f_X5_amountFor a2 a3 (dhasSaved, dkeptError, dmoved) () (vkeys, vfirsts, vends, vvalues, vinferred, vgone, vmade) (fkeys, fdays, famounts, fversions, fcount) (rkeys, rdays, rvalues, rcount)) (fun x1 =>
match x1 with
| Except.error E9 => (if E9 = "java/lang/IndexOutOfBoundsException" then some ((1 : Int32), ov) else none)
| Except.ok r2 =>
gd_ (0 : Int32) 1 (nm_ (vp_updL ov ((0 : Int32).toNatClampNeg) r2) (fun u14 =>
some ((0 : Int32), u14))))
abbrev rm_L_amountFor : Room := { frames := 8, cells := 1, slots := 6, locals := 135 }
set_option maxHeartbeats 4000000 in
set_option maxRecDepth 100000 in
theorem c_L_amountFor (l : Launch) (dC : Nat → ClassId) (dI : Nat → Nat → Nat) (cI cZ cC cJ cD : ClassId) (hst : l.stackTraces = false) (d0 s0 z0 b0 q0 t0 v0 f0 r0 v_keys v_firsts v_ends v_values v_inferred v_gone f_keys f_days f_amounts f_versions r_keys r_days r_values o0 : Nat) (sz : Nat) (dhasSaved : Int32) (dkeptError : Int32) (dmoved : Int32) (vkeys : Nat → Int32) (vfirsts : Nat → Int32) (vends : Nat → Int32) (vvalues : Nat → Int32) (vinferred : Nat → Int32) (vgone : Nat → Int32) (vmade : Int32) (fkeys : Nat → Int32) (fdays : Nat → Int32) (famounts : Nat → Int32) (fversions : Nat → Int32) (fcount : Int32) (rkeys : Nat → Int32) (rdays : Nat → Int32) (rvalues : Nat → Int32) (rcount : Int32) (ov : Nat → Int64) (a2 : Int32) (a3 : Int32) (R : Int32 × tO_) (hf : f_L_amountFor a2 a3 (dhasSaved, dkeptError, dmoved) () (vkeys, vfirsts, vends, vvalues, vinferred, vgone, vmade) (fkeys, fdays, famounts, fversions, fcount) (rkeys, rdays, rvalues, rcount) ov = some R) : Met l yL_amountFor wsL_amountFor rm_L_amountFor (PL_ (dC, dI) (ty_ cI cZ cC cJ cD) (wD_ d0 s0 z0 b0 q0 t0 dhasSaved dkeptError dmoved ++ wS_ s0 v0 f0 r0 ++ wV_ v0 v_keys v_firsts v_ends v_values v_inferred v_gone cI cZ vkeys vfirsts vends vvalues vinferred vgone vmade ++ wF_ f0 f_keys f_days f_amounts f_versions cI fkeys fdays famounts fversions fcount ++ wR_ r0 r_keys r_days r_values cI rkeys rdays rvalues rcount ++ wO_ o0 cJ ov) sz [.ref d0, .int a2, .int a3, .ref o0]) (Qi_ (dC, dI) (ty_ cI cZ cC cJ cD) R.1 (wD_ d0 s0 z0 b0 q0 t0 dhasSaved dkeptError dmoved ++ wS_ s0 v0 f0 r0 ++ wV_ v0 v_keys v_firsts v_ends v_values v_inferred v_gone cI cZ vkeys vfirsts vends vvalues vinferred vgone vmade ++ wF_ f0 f_keys f_days f_amounts f_versions cI fkeys fdays famounts fversions fcount ++ wR_ r0 r_keys r_days r_values cI rkeys rdays rvalues rcount ++ wO_ o0 cJ R.2) (va_A (wD_ d0 s0 z0 b0 q0 t0 dhasSaved dkeptError dmoved ++ wS_ s0 v0 f0 r0 ++ wV_ v0 v_keys v_firsts v_ends v_values v_inferred v_gone cI cZ vkeys vfirsts vends vvalues vinferred vgone vmade ++ wF_ f0 f_keys f_days f_amounts f_versions cI fkeys fdays famounts fversions fcount ++ wR_ r0 r_keys r_days r_values cI rkeys rdays rvalues rcount ++ wO_ o0 cJ ov) sz)) 1 6 (va_A (wD_ d0 s0 z0 b0 q0 t0 dhasSaved dkeptError dmoved ++ wS_ s0 v0 f0 r0 ++ wV_ v0 v_keys v_firsts v_ends v_values v_inferred v_gone cI cZ vkeys vfirsts vends vvalues vinferred vgone vmade ++ wF_ f0 f_keys f_days f_amounts f_versions cI fkeys fdays famounts fversions fcount ++ wR_ r0 r_keys r_days r_values cI rkeys rdays rvalues rcount ++ wO_ o0 cJ ov) sz) := by
  refine metw_ (cc := cL_amountFor) (maxL := 5) (ret := (some .int)) (hh := [(0, 9, 12, 13)]) (Qcf := fun A => Qi_ (dC, dI) (ty_ cI cZ cC cJ cD) R.1 (wD_ d0 s0 z0 b0 q0 t0 dhasSaved dkeptError dmoved ++ wS_ s0 v0 f0 r0 ++ wV_ v0 v_keys v_firsts v_ends v_values v_inferred v_gone cI cZ vkeys vfirsts vends vvalues vinferred vgone vmade ++ wF_ f0 f_keys f_days f_amounts f_versions cI fkeys fdays famounts fversions fcount ++ wR_ r0 r_keys r_days r_values cI rkeys rdays rvalues rcount ++ wO_ o0 cJ R.2) A) (by decide) rfl (Nat.le_of_ble_eq_true rfl) ?_
  intro p e s m args below meth c A ls hx hb hr hts hown hlocks hml htab hA hU hN hC hP hK hD hl
  have hown : s.vm.findClass RL = some m.cls := hown
  have hl : lv_has ls 5 [(0, .ref d0), (1, .int a2), (2, .int a3), (3, .ref o0)] := hl
  have hS : va_S A s.heap s.heap [] := va_S.rf
  unfold f_L_amountFor at hf
  dsimp only at hf
  refine lv_aload_n hx hb dL_amountFor_0 rfl (lv_at hl 3 rfl) ?_
  refine lv_iconst (v := 0) hx hb dL_amountFor_1 (by decide) ?_
  refine lv_aload_n hx hb dL_amountFor_2 rfl (lv_at hl 0 rfl) ?_
  refine lv_iload_n hx hb dL_amountFor_3 rfl (lv_at hl 1 rfl) ?_
  refine lv_iload_n hx hb dL_amountFor_4 rfl (lv_at hl 2 rfl) ?_
  obtain ⟨R3, g4, hf⟩ := bd_B hf
  obtain ⟨x1, rfl⟩ : ∃ z, z = R3 := ⟨_, rfl⟩
  have hPc := hP.sub (ws' := wD_ d0 s0 z0 b0 q0 t0 dhasSaved dkeptError dmoved ++ wS_ s0 v0 f0 r0 ++ wV_ v0 v_keys v_firsts v_ends v_values v_inferred v_gone cI cZ vkeys vfirsts vends vvalues vinferred vgone vmade ++ wF_ f0 f_keys f_days f_amounts f_versions cI fkeys fdays famounts fversions fcount ++ wR_ r0 r_keys r_days r_values cI rkeys rdays rvalues rcount) [0, 1, 2, 3, 4, 5, 6, 7, 8, 9, 10, 11, 12, 13, 14, 15, 16, 17] rfl
  have hDc := hD.sub (ws' := wD_ d0 s0 z0 b0 q0 t0 dhasSaved dkeptError dmoved ++ wS_ s0 v0 f0 r0 ++ wV_ v0 v_keys v_firsts v_ends v_values v_inferred v_gone cI cZ vkeys vfirsts vends vvalues vinferred vgone vmade ++ wF_ f0 f_keys f_days f_amounts f_versions cI fkeys fdays famounts fversions fcount ++ wR_ r0 r_keys r_days r_values cI rkeys rdays rvalues rcount) [0, 1, 2, 3, 4, 5, 6, 7, 8, 9, 10, 11, 12, 13, 14, 15, 16, 17] (by decide) rfl
  have hFc := va_free (wc := wD_ d0 s0 z0 b0 q0 t0 dhasSaved dkeptError dmoved ++ wS_ s0 v0 f0 r0 ++ wV_ v0 v_keys v_firsts v_ends v_values v_inferred v_gone cI cZ vkeys vfirsts vends vvalues vinferred vgone vmade ++ wF_ f0 f_keys f_days f_amounts f_versions cI fkeys fdays famounts fversions fcount ++ wR_ r0 r_keys r_days r_values cI rkeys rdays rvalues rcount) hD hS hA [0, 1, 2, 3, 4, 5, 6, 7, 8, 9, 10, 11, 12, 13, 14, 15, 16, 17] rfl
  cases x1 with
  | error E9 =>
    by_cases c10 : E9 = "java/lang/IndexOutOfBoundsException"
    · have hf := ite_T c10 hf
      subst c10
      refine vx_calll (vx_runV (As := [.int a2, .int a3]) (rest := [.int 0, .ref o0]) ⟨hx, hb, hml, hown, hts⟩ (c_X5_amountFor l dC dI cI cZ cC cJ cD hst d0 s0 z0 b0 q0 t0 v0 f0 r0 v_keys v_firsts v_ends v_values v_inferred v_gone f_keys f_days f_amounts f_versions r_keys r_days r_values s.heap.size dhasSaved dkeptError dmoved vkeys vfirsts vends vvalues vinferred vgone vmade fkeys fdays famounts fversions fcount rkeys rdays rvalues rcount a2 a3 (Except.error "java/lang/IndexOutOfBoundsException") g4) (cwV 2 hts gL_amountFor_X5_amountFor rfl rfl rfl hs_X5_amountFor ⟨Nat.le_of_ble_eq_true rfl, Nat.le_of_ble_eq_true rfl⟩) (preVy_ (ci := 7) (q0 := 0) hPc hK hDc rfl rfl rfl rfl hS hU hN hFc hC.1) rfl rfl hl.1 rfl (lv_room (Nat.le_of_ble_eq_true rfl)) dL_amountFor_5 ⟨Nat.le_of_ble_eq_true rfl, Nat.le_of_ble_eq_true rfl⟩) hS (fun q _ h => hFc q h) hFc (fun q _ h => hFc q h) (fun E ce q11 u t H7 locs ht hvm hp hB hz1 hk1 hS hce hcv hcl => ?_) (fun z8 u t H7 locs ht hvm hw hB hz1 hk1 hS => ?_)
      · obtain ⟨hE, hB⟩ := hB
        cases hE
        obtain ⟨hP, hD⟩ := aft_ (Wr := wO_ o0 cJ ov) (Wc' := wD_ d0 s0 z0 b0 q0 t0 dhasSaved dkeptError dmoved ++ wS_ s0 v0 f0 r0 ++ wV_ v0 v_keys v_firsts v_ends v_values v_inferred v_gone cI cZ vkeys vfirsts vends vvalues vinferred vgone vmade ++ wF_ f0 f_keys f_days f_amounts f_versions cI fkeys fdays famounts fversions fcount ++ wR_ r0 r_keys r_days r_values cI rkeys rdays rvalues rcount) (W2 := wD_ d0 s0 z0 b0 q0 t0 dhasSaved dkeptError dmoved ++ wS_ s0 v0 f0 r0 ++ wV_ v0 v_keys v_firsts v_ends v_values v_inferred v_gone cI cZ vkeys vfirsts vends vvalues vinferred vgone vmade ++ wF_ f0 f_keys f_days f_amounts f_versions cI fkeys fdays famounts fversions fcount ++ wR_ r0 r_keys r_days r_values cI rkeys rdays rvalues rcount ++ wO_ o0 cJ ov) hP hD [0, 1, 2, 3, 4, 5, 6, 7, 8, 9, 10, 11, 12, 13, 14, 15, 16, 17] [18] [1, 2, 3, 4, 5, 6, 7, 8, 9, 10, 11, 12, 13, 14, 15, 16, 17, 18, 0] rfl rfl (by decide) (by decide) (by decide) hk1 hFc hB ht rfl
        refine vx_catch (name := "java/lang/IndexOutOfBoundsException") hown [] ⟨0, 9, 12, 13⟩ [] (htab.trans rfl) (fun z hz => nomatch hz) (by decide +kernel) (by decide) (hts _ (List.mem_of_getElem? (i := 1) rfl)) ((hC.1.1 "java/lang/IndexOutOfBoundsException" (by decide +kernel)).use rfl) hce hcv hcl ?_
        refine lv_astore (lv' := [(4, .ref q11), (0, .ref d0), (1, .int a2), (2, .int a3), (3, .ref o0)]) hx hb dL_amountFor_12 hl (by decide) rfl (fun ls hl => ?_)
        refine lv_iconst (v := 1) hx hb dL_amountFor_14 (by decide) ?_
        have hR := Option.some.inj hf
        subst hR
        refine W.widen (k := 1) (n := 6) (Nat.le_of_ble_eq_true rfl) (Nat.le_of_ble_eq_true rfl) ?_
        exact W.iret (v := (1 : Int32)) hx hb hr (fun t ht hW => ⟨⟨(1 : Int32), (), rfl, rfl, by rw [ht]; exact hP, va_K.moved hW.alike hK, hD⟩, hS.F ht⟩) hS.2.2 dL_amountFor_15
      · exact absurd hw (fun h => nomatch h)
    · have hf := ite_F c10 hf
      exact absurd hf (fun h => nomatch h)
  | ok r2 =>
    refine vx_calll (vx_runV (As := [.int a2, .int a3]) (rest := [.int 0, .ref o0]) ⟨hx, hb, hml, hown, hts⟩ (c_X5_amountFor l dC dI cI cZ cC cJ cD hst d0 s0 z0 b0 q0 t0 v0 f0 r0 v_keys v_firsts v_ends v_values v_inferred v_gone f_keys f_days f_amounts f_versions r_keys r_days r_values s.heap.size dhasSaved dkeptError dmoved vkeys vfirsts vends vvalues vinferred vgone vmade fkeys fdays famounts fversions fcount rkeys rdays rvalues rcount a2 a3 (Except.ok r2) g4) (cwV 2 hts gL_amountFor_X5_amountFor rfl rfl rfl hs_X5_amountFor ⟨Nat.le_of_ble_eq_true rfl, Nat.le_of_ble_eq_true rfl⟩) (preVy_ (ci := 7) (q0 := 0) hPc hK hDc rfl rfl rfl rfl hS hU hN hFc hC.1) rfl rfl hl.1 rfl (lv_room (Nat.le_of_ble_eq_true rfl)) dL_amountFor_5 ⟨Nat.le_of_ble_eq_true rfl, Nat.le_of_ble_eq_true rfl⟩) hS (fun q _ h => hFc q h) hFc (fun q _ h => hFc q h) (fun E ce q9 u t H7 locs ht hvm hp hB hz1 hk1 hS hce hcv hcl => ?_) (fun z8 u t H7 locs ht hvm hw hB hz1 hk1 hS => ?_)
    · exact absurd hB.1 (fun h => nomatch h)
    · have hw : r2 = z8 := Except.ok.inj hw
      subst hw
      obtain ⟨hP, hD⟩ := aft_ (Wr := wO_ o0 cJ ov) (Wc' := wD_ d0 s0 z0 b0 q0 t0 dhasSaved dkeptError dmoved ++ wS_ s0 v0 f0 r0 ++ wV_ v0 v_keys v_firsts v_ends v_values v_inferred v_gone cI cZ vkeys vfirsts vends vvalues vinferred vgone vmade ++ wF_ f0 f_keys f_days f_amounts f_versions cI fkeys fdays famounts fversions fcount ++ wR_ r0 r_keys r_days r_values cI rkeys rdays rvalues rcount) (W2 := wD_ d0 s0 z0 b0 q0 t0 dhasSaved dkeptError dmoved ++ wS_ s0 v0 f0 r0 ++ wV_ v0 v_keys v_firsts v_ends v_values v_inferred v_gone cI cZ vkeys vfirsts vends vvalues vinferred vgone vmade ++ wF_ f0 f_keys f_days f_amounts f_versions cI fkeys fdays famounts fversions fcount ++ wR_ r0 r_keys r_days r_values cI rkeys rdays rvalues rcount ++ wO_ o0 cJ ov) hP hD [0, 1, 2, 3, 4, 5, 6, 7, 8, 9, 10, 11, 12, 13, 14, 15, 16, 17] [18] [1, 2, 3, 4, 5, 6, 7, 8, 9, 10, 11, 12, 13, 14, 15, 16, 17, 18, 0] rfl rfl (by decide) (by decide) (by decide) hk1 hFc hB ht rfl
      obtain ⟨h12, hf⟩ := gd_T hf
      refine va_last hx hb hK hP hD hS 18 3 rfl rfl h12 dL_amountFor_8 (fun H13 locs hP hD hS => ?_)
      have hP : va_P (dC, dI) vwCl (wD_ d0 s0 z0 b0 q0 t0 dhasSaved dkeptError dmoved ++ wS_ s0 v0 f0 r0 ++ wV_ v0 v_keys v_firsts v_ends v_values v_inferred v_gone cI cZ vkeys vfirsts vends vvalues vinferred vgone vmade ++ wF_ f0 f_keys f_days f_amounts f_versions cI fkeys fdays famounts fversions fcount ++ wR_ r0 r_keys r_days r_values cI rkeys rdays rvalues rcount ++ wO_ o0 cJ (vp_updL ov ((0 : Int32).toNatClampNeg) r2)) H13 := hP
      have hD : va_D A (wD_ d0 s0 z0 b0 q0 t0 dhasSaved dkeptError dmoved ++ wS_ s0 v0 f0 r0 ++ wV_ v0 v_keys v_firsts v_ends v_values v_inferred v_gone cI cZ vkeys vfirsts vends vvalues vinferred vgone vmade ++ wF_ f0 f_keys f_days f_amounts f_versions cI fkeys fdays famounts fversions fcount ++ wR_ r0 r_keys r_days r_values cI rkeys rdays rvalues rcount ++ wO_ o0 cJ (vp_updL ov ((0 : Int32).toNatClampNeg) r2)) := hD
      obtain ⟨u14, e15, hf⟩ := nm_T hf
      rw [← e15] at hP hD
      refine lv_goto (tgt := 16) hx hb dL_amountFor_9 (by decide) ?_
      refine lv_iconst (v := 0) hx hb dL_amountFor_16 (by decide) ?_
      have hR := Option.some.inj hf
      subst hR
      refine W.widen (k := 1) (n := 6) (Nat.le_of_ble_eq_true rfl) (Nat.le_of_ble_eq_true rfl) ?_
      exact W.iret (v := (0 : Int32)) hx hb hr (fun t ht hW => ⟨⟨(0 : Int32), (), rfl, rfl, by rw [ht]; exact hP, va_K.moved hW.alike hK, hD⟩, hS.F ht⟩) hS.2.2 dL_amountFor_17
theorem hs_L_amountFor : yL_amountFor.cls ≠ "java/lang/invoke/MethodHandle" ∧ yL_amountFor.cls ≠ "java/lang/invoke/VarHandle" ∧ (parseMethodDescriptor yL_amountFor.desc).map (fun d => d.parameters.length) = some 4 := by decide +kernel
def f_L_gaps (a2 : Int32) (D_ : tD_) (S_ : tS_) (V_ : tV_) (F_ : tF_) (R_ : tR_) (ov : tO_) : Option (Int32 × tO_) :=
match D_ with
| (dhasSaved, dkeptError, dmoved) =>
match V_ with
| (vkeys, vfirsts, vends, vvalues, vinferred, vgone, vmade) =>
match F_ with
| (fkeys, fdays, famounts, fversions, fcount) =>
match R_ with
| (rkeys, rdays, rvalues, rcount) =>
bd_ (f_X5_gaps a2 (dhasSaved, dkeptError, dmoved) () (vkeys, vfirsts, vends, vvalues, vinferred, vgone, vmade) (fkeys, fdays, famounts, fversions, fcount) (rkeys, rdays, rvalues, rcount)) (fun x1 =>
match x1 with
| Except.error E9 => (if E9 = "java/lang/IndexOutOfBoundsException" then some ((1 : Int32), ov) else none)
| Except.ok r2 =>
gd_ (0 : Int32) 1 (nm_ (vp_updL ov ((0 : Int32).toNatClampNeg) r2.toInt64) (fun u14 =>
some ((0 : Int32), u14))))
abbrev rm_L_gaps : Room := { frames := 8, cells := 1, slots := 6, locals := 155 }
set_option maxHeartbeats 4000000 in
set_option maxRecDepth 100000 in
theorem c_L_gaps (l : Launch) (dC : Nat → ClassId) (dI : Nat → Nat → Nat) (cI cZ cC cJ cD : ClassId) (hst : l.stackTraces = false) (d0 s0 z0 b0 q0 t0 v0 f0 r0 v_keys v_firsts v_ends v_values v_inferred v_gone f_keys f_days f_amounts f_versions r_keys r_days r_values o0 : Nat) (sz : Nat) (dhasSaved : Int32) (dkeptError : Int32) (dmoved : Int32) (vkeys : Nat → Int32) (vfirsts : Nat → Int32) (vends : Nat → Int32) (vvalues : Nat → Int32) (vinferred : Nat → Int32) (vgone : Nat → Int32) (vmade : Int32) (fkeys : Nat → Int32) (fdays : Nat → Int32) (famounts : Nat → Int32) (fversions : Nat → Int32) (fcount : Int32) (rkeys : Nat → Int32) (rdays : Nat → Int32) (rvalues : Nat → Int32) (rcount : Int32) (ov : Nat → Int64) (a2 : Int32) (R : Int32 × tO_) (hf : f_L_gaps a2 (dhasSaved, dkeptError, dmoved) () (vkeys, vfirsts, vends, vvalues, vinferred, vgone, vmade) (fkeys, fdays, famounts, fversions, fcount) (rkeys, rdays, rvalues, rcount) ov = some R) : Met l yL_gaps wsL_gaps rm_L_gaps (PL_ (dC, dI) (ty_ cI cZ cC cJ cD) (wD_ d0 s0 z0 b0 q0 t0 dhasSaved dkeptError dmoved ++ wS_ s0 v0 f0 r0 ++ wV_ v0 v_keys v_firsts v_ends v_values v_inferred v_gone cI cZ vkeys vfirsts vends vvalues vinferred vgone vmade ++ wF_ f0 f_keys f_days f_amounts f_versions cI fkeys fdays famounts fversions fcount ++ wR_ r0 r_keys r_days r_values cI rkeys rdays rvalues rcount ++ wO_ o0 cJ ov) sz [.ref d0, .int a2, .ref o0]) (Qi_ (dC, dI) (ty_ cI cZ cC cJ cD) R.1 (wD_ d0 s0 z0 b0 q0 t0 dhasSaved dkeptError dmoved ++ wS_ s0 v0 f0 r0 ++ wV_ v0 v_keys v_firsts v_ends v_values v_inferred v_gone cI cZ vkeys vfirsts vends vvalues vinferred vgone vmade ++ wF_ f0 f_keys f_days f_amounts f_versions cI fkeys fdays famounts fversions fcount ++ wR_ r0 r_keys r_days r_values cI rkeys rdays rvalues rcount ++ wO_ o0 cJ R.2) (va_A (wD_ d0 s0 z0 b0 q0 t0 dhasSaved dkeptError dmoved ++ wS_ s0 v0 f0 r0 ++ wV_ v0 v_keys v_firsts v_ends v_values v_inferred v_gone cI cZ vkeys vfirsts vends vvalues vinferred vgone vmade ++ wF_ f0 f_keys f_days f_amounts f_versions cI fkeys fdays famounts fversions fcount ++ wR_ r0 r_keys r_days r_values cI rkeys rdays rvalues rcount ++ wO_ o0 cJ ov) sz)) 1 6 (va_A (wD_ d0 s0 z0 b0 q0 t0 dhasSaved dkeptError dmoved ++ wS_ s0 v0 f0 r0 ++ wV_ v0 v_keys v_firsts v_ends v_values v_inferred v_gone cI cZ vkeys vfirsts vends vvalues vinferred vgone vmade ++ wF_ f0 f_keys f_days f_amounts f_versions cI fkeys fdays famounts fversions fcount ++ wR_ r0 r_keys r_days r_values cI rkeys rdays rvalues rcount ++ wO_ o0 cJ ov) sz) := by
  refine metw_ (cc := cL_gaps) (maxL := 4) (ret := (some .int)) (hh := [(0, 9, 12, 13)]) (Qcf := fun A => Qi_ (dC, dI) (ty_ cI cZ cC cJ cD) R.1 (wD_ d0 s0 z0 b0 q0 t0 dhasSaved dkeptError dmoved ++ wS_ s0 v0 f0 r0 ++ wV_ v0 v_keys v_firsts v_ends v_values v_inferred v_gone cI cZ vkeys vfirsts vends vvalues vinferred vgone vmade ++ wF_ f0 f_keys f_days f_amounts f_versions cI fkeys fdays famounts fversions fcount ++ wR_ r0 r_keys r_days r_values cI rkeys rdays rvalues rcount ++ wO_ o0 cJ R.2) A) (by decide) rfl (Nat.le_of_ble_eq_true rfl) ?_
  intro p e s m args below meth c A ls hx hb hr hts hown hlocks hml htab hA hU hN hC hP hK hD hl
  have hown : s.vm.findClass RL = some m.cls := hown
  have hl : lv_has ls 4 [(0, .ref d0), (1, .int a2), (2, .ref o0)] := hl
  have hS : va_S A s.heap s.heap [] := va_S.rf
  unfold f_L_gaps at hf
  dsimp only at hf
  refine lv_aload_n hx hb dL_gaps_0 rfl (lv_at hl 2 rfl) ?_
  refine lv_iconst (v := 0) hx hb dL_gaps_1 (by decide) ?_
  refine lv_aload_n hx hb dL_gaps_2 rfl (lv_at hl 0 rfl) ?_
  refine lv_iload_n hx hb dL_gaps_3 rfl (lv_at hl 1 rfl) ?_
  obtain ⟨R3, g4, hf⟩ := bd_B hf
  obtain ⟨x1, rfl⟩ : ∃ z, z = R3 := ⟨_, rfl⟩
  have hPc := hP.sub (ws' := wD_ d0 s0 z0 b0 q0 t0 dhasSaved dkeptError dmoved ++ wS_ s0 v0 f0 r0 ++ wV_ v0 v_keys v_firsts v_ends v_values v_inferred v_gone cI cZ vkeys vfirsts vends vvalues vinferred vgone vmade ++ wF_ f0 f_keys f_days f_amounts f_versions cI fkeys fdays famounts fversions fcount ++ wR_ r0 r_keys r_days r_values cI rkeys rdays rvalues rcount) [0, 1, 2, 3, 4, 5, 6, 7, 8, 9, 10, 11, 12, 13, 14, 15, 16, 17] rfl
  have hDc := hD.sub (ws' := wD_ d0 s0 z0 b0 q0 t0 dhasSaved dkeptError dmoved ++ wS_ s0 v0 f0 r0 ++ wV_ v0 v_keys v_firsts v_ends v_values v_inferred v_gone cI cZ vkeys vfirsts vends vvalues vinferred vgone vmade ++ wF_ f0 f_keys f_days f_amounts f_versions cI fkeys fdays famounts fversions fcount ++ wR_ r0 r_keys r_days r_values cI rkeys rdays rvalues rcount) [0, 1, 2, 3, 4, 5, 6, 7, 8, 9, 10, 11, 12, 13, 14, 15, 16, 17] (by decide) rfl
  have hFc := va_free (wc := wD_ d0 s0 z0 b0 q0 t0 dhasSaved dkeptError dmoved ++ wS_ s0 v0 f0 r0 ++ wV_ v0 v_keys v_firsts v_ends v_values v_inferred v_gone cI cZ vkeys vfirsts vends vvalues vinferred vgone vmade ++ wF_ f0 f_keys f_days f_amounts f_versions cI fkeys fdays famounts fversions fcount ++ wR_ r0 r_keys r_days r_values cI rkeys rdays rvalues rcount) hD hS hA [0, 1, 2, 3, 4, 5, 6, 7, 8, 9, 10, 11, 12, 13, 14, 15, 16, 17] rfl
  cases x1 with
  | error E9 =>
    by_cases c10 : E9 = "java/lang/IndexOutOfBoundsException"
    · have hf := ite_T c10 hf
      subst c10
      refine vx_calli (vx_runV (As := [.int a2]) (rest := [.int 0, .ref o0]) ⟨hx, hb, hml, hown, hts⟩ (c_X5_gaps l dC dI cI cZ cC cJ cD hst d0 s0 z0 b0 q0 t0 v0 f0 r0 v_keys v_firsts v_ends v_values v_inferred v_gone f_keys f_days f_amounts f_versions r_keys r_days r_values s.heap.size dhasSaved dkeptError dmoved vkeys vfirsts vends vvalues vinferred vgone vmade fkeys fdays famounts fversions fcount rkeys rdays rvalues rcount a2 (Except.error "java/lang/IndexOutOfBoundsException") g4) (cwV 1 hts gL_gaps_X5_gaps rfl rfl rfl hs_X5_gaps ⟨Nat.le_of_ble_eq_true rfl, Nat.le_of_ble_eq_true rfl⟩) (preVy_ (ci := 7) (q0 := 0) hPc hK hDc rfl rfl rfl rfl hS hU hN hFc hC.1) rfl rfl hl.1 rfl (lv_room (Nat.le_of_ble_eq_true rfl)) dL_gaps_4 ⟨Nat.le_of_ble_eq_true rfl, Nat.le_of_ble_eq_true rfl⟩) hS (fun q _ h => hFc q h) hFc (fun q _ h => hFc q h) (fun E ce q11 u t H7 locs ht hvm hp hB hz1 hk1 hS hce hcv hcl => ?_) (fun z8 u t H7 locs ht hvm hw hB hz1 hk1 hS => ?_)
      · obtain ⟨hE, hB⟩ := hB
        cases hE
        obtain ⟨hP, hD⟩ := aft_ (Wr := wO_ o0 cJ ov) (Wc' := wD_ d0 s0 z0 b0 q0 t0 dhasSaved dkeptError dmoved ++ wS_ s0 v0 f0 r0 ++ wV_ v0 v_keys v_firsts v_ends v_values v_inferred v_gone cI cZ vkeys vfirsts vends vvalues vinferred vgone vmade ++ wF_ f0 f_keys f_days f_amounts f_versions cI fkeys fdays famounts fversions fcount ++ wR_ r0 r_keys r_days r_values cI rkeys rdays rvalues rcount) (W2 := wD_ d0 s0 z0 b0 q0 t0 dhasSaved dkeptError dmoved ++ wS_ s0 v0 f0 r0 ++ wV_ v0 v_keys v_firsts v_ends v_values v_inferred v_gone cI cZ vkeys vfirsts vends vvalues vinferred vgone vmade ++ wF_ f0 f_keys f_days f_amounts f_versions cI fkeys fdays famounts fversions fcount ++ wR_ r0 r_keys r_days r_values cI rkeys rdays rvalues rcount ++ wO_ o0 cJ ov) hP hD [0, 1, 2, 3, 4, 5, 6, 7, 8, 9, 10, 11, 12, 13, 14, 15, 16, 17] [18] [1, 2, 3, 4, 5, 6, 7, 8, 9, 10, 11, 12, 13, 14, 15, 16, 17, 18, 0] rfl rfl (by decide) (by decide) (by decide) hk1 hFc hB ht rfl
        refine vx_catch (name := "java/lang/IndexOutOfBoundsException") hown [] ⟨0, 9, 12, 13⟩ [] (htab.trans rfl) (fun z hz => nomatch hz) (by decide +kernel) (by decide) (hts _ (List.mem_of_getElem? (i := 1) rfl)) ((hC.1.1 "java/lang/IndexOutOfBoundsException" (by decide +kernel)).use rfl) hce hcv hcl ?_
        refine lv_astore_n (lv' := [(3, .ref q11), (0, .ref d0), (1, .int a2), (2, .ref o0)]) hx hb dL_gaps_12 rfl hl (by decide) rfl (fun ls hl => ?_)
        refine lv_iconst (v := 1) hx hb dL_gaps_13 (by decide) ?_
        have hR := Option.some.inj hf
        subst hR
        refine W.widen (k := 1) (n := 6) (Nat.le_of_ble_eq_true rfl) (Nat.le_of_ble_eq_true rfl) ?_
        exact W.iret (v := (1 : Int32)) hx hb hr (fun t ht hW => ⟨⟨(1 : Int32), (), rfl, rfl, by rw [ht]; exact hP, va_K.moved hW.alike hK, hD⟩, hS.F ht⟩) hS.2.2 dL_gaps_14
      · exact absurd hw (fun h => nomatch h)
    · have hf := ite_F c10 hf
      exact absurd hf (fun h => nomatch h)
  | ok r2 =>
    refine vx_calli (vx_runV (As := [.int a2]) (rest := [.int 0, .ref o0]) ⟨hx, hb, hml, hown, hts⟩ (c_X5_gaps l dC dI cI cZ cC cJ cD hst d0 s0 z0 b0 q0 t0 v0 f0 r0 v_keys v_firsts v_ends v_values v_inferred v_gone f_keys f_days f_amounts f_versions r_keys r_days r_values s.heap.size dhasSaved dkeptError dmoved vkeys vfirsts vends vvalues vinferred vgone vmade fkeys fdays famounts fversions fcount rkeys rdays rvalues rcount a2 (Except.ok r2) g4) (cwV 1 hts gL_gaps_X5_gaps rfl rfl rfl hs_X5_gaps ⟨Nat.le_of_ble_eq_true rfl, Nat.le_of_ble_eq_true rfl⟩) (preVy_ (ci := 7) (q0 := 0) hPc hK hDc rfl rfl rfl rfl hS hU hN hFc hC.1) rfl rfl hl.1 rfl (lv_room (Nat.le_of_ble_eq_true rfl)) dL_gaps_4 ⟨Nat.le_of_ble_eq_true rfl, Nat.le_of_ble_eq_true rfl⟩) hS (fun q _ h => hFc q h) hFc (fun q _ h => hFc q h) (fun E ce q9 u t H7 locs ht hvm hp hB hz1 hk1 hS hce hcv hcl => ?_) (fun z8 u t H7 locs ht hvm hw hB hz1 hk1 hS => ?_)
    · exact absurd hB.1 (fun h => nomatch h)
    · have hw : r2 = z8 := Except.ok.inj hw
      subst hw
      obtain ⟨hP, hD⟩ := aft_ (Wr := wO_ o0 cJ ov) (Wc' := wD_ d0 s0 z0 b0 q0 t0 dhasSaved dkeptError dmoved ++ wS_ s0 v0 f0 r0 ++ wV_ v0 v_keys v_firsts v_ends v_values v_inferred v_gone cI cZ vkeys vfirsts vends vvalues vinferred vgone vmade ++ wF_ f0 f_keys f_days f_amounts f_versions cI fkeys fdays famounts fversions fcount ++ wR_ r0 r_keys r_days r_values cI rkeys rdays rvalues rcount) (W2 := wD_ d0 s0 z0 b0 q0 t0 dhasSaved dkeptError dmoved ++ wS_ s0 v0 f0 r0 ++ wV_ v0 v_keys v_firsts v_ends v_values v_inferred v_gone cI cZ vkeys vfirsts vends vvalues vinferred vgone vmade ++ wF_ f0 f_keys f_days f_amounts f_versions cI fkeys fdays famounts fversions fcount ++ wR_ r0 r_keys r_days r_values cI rkeys rdays rvalues rcount ++ wO_ o0 cJ ov) hP hD [0, 1, 2, 3, 4, 5, 6, 7, 8, 9, 10, 11, 12, 13, 14, 15, 16, 17] [18] [1, 2, 3, 4, 5, 6, 7, 8, 9, 10, 11, 12, 13, 14, 15, 16, 17, 18, 0] rfl rfl (by decide) (by decide) (by decide) hk1 hFc hB ht rfl
      refine lv_i2l hx hb dL_gaps_7 rfl ?_
      obtain ⟨h12, hf⟩ := gd_T hf
      refine va_last hx hb hK hP hD hS 18 3 rfl rfl h12 dL_gaps_8 (fun H13 locs hP hD hS => ?_)
      have hP : va_P (dC, dI) vwCl (wD_ d0 s0 z0 b0 q0 t0 dhasSaved dkeptError dmoved ++ wS_ s0 v0 f0 r0 ++ wV_ v0 v_keys v_firsts v_ends v_values v_inferred v_gone cI cZ vkeys vfirsts vends vvalues vinferred vgone vmade ++ wF_ f0 f_keys f_days f_amounts f_versions cI fkeys fdays famounts fversions fcount ++ wR_ r0 r_keys r_days r_values cI rkeys rdays rvalues rcount ++ wO_ o0 cJ (vp_updL ov ((0 : Int32).toNatClampNeg) r2.toInt64)) H13 := hP
      have hD : va_D A (wD_ d0 s0 z0 b0 q0 t0 dhasSaved dkeptError dmoved ++ wS_ s0 v0 f0 r0 ++ wV_ v0 v_keys v_firsts v_ends v_values v_inferred v_gone cI cZ vkeys vfirsts vends vvalues vinferred vgone vmade ++ wF_ f0 f_keys f_days f_amounts f_versions cI fkeys fdays famounts fversions fcount ++ wR_ r0 r_keys r_days r_values cI rkeys rdays rvalues rcount ++ wO_ o0 cJ (vp_updL ov ((0 : Int32).toNatClampNeg) r2.toInt64)) := hD
      obtain ⟨u14, e15, hf⟩ := nm_T hf
      rw [← e15] at hP hD
      refine lv_goto (tgt := 15) hx hb dL_gaps_9 (by decide) ?_
      refine lv_iconst (v := 0) hx hb dL_gaps_15 (by decide) ?_
      have hR := Option.some.inj hf
      subst hR
      refine W.widen (k := 1) (n := 6) (Nat.le_of_ble_eq_true rfl) (Nat.le_of_ble_eq_true rfl) ?_
      exact W.iret (v := (0 : Int32)) hx hb hr (fun t ht hW => ⟨⟨(0 : Int32), (), rfl, rfl, by rw [ht]; exact hP, va_K.moved hW.alike hK, hD⟩, hS.F ht⟩) hS.2.2 dL_gaps_16
theorem hs_L_gaps : yL_gaps.cls ≠ "java/lang/invoke/MethodHandle" ∧ yL_gaps.cls ≠ "java/lang/invoke/VarHandle" ∧ (parseMethodDescriptor yL_gaps.desc).map (fun d => d.parameters.length) = some 3 := by decide +kernel
def f_L_gapDay (a2 : Int32) (a3 : Int32) (a4 : Int32) (D_ : tD_) (S_ : tS_) (V_ : tV_) (F_ : tF_) (R_ : tR_) (ov : tO_) : Option (Int32 × tO_) :=
match D_ with
| (dhasSaved, dkeptError, dmoved) =>
match V_ with
| (vkeys, vfirsts, vends, vvalues, vinferred, vgone, vmade) =>
match F_ with
| (fkeys, fdays, famounts, fversions, fcount) =>
match R_ with
| (rkeys, rdays, rvalues, rcount) =>
bd_ (f_X5_gapDay a2 a3 a4 (dhasSaved, dkeptError, dmoved) () (vkeys, vfirsts, vends, vvalues, vinferred, vgone, vmade) (fkeys, fdays, famounts, fversions, fcount) (rkeys, rdays, rvalues, rcount)) (fun x1 =>
match x1 with
| Except.error E9 => (if E9 = "java/lang/IndexOutOfBoundsException" then some ((1 : Int32), ov) else (if E9 = "java/util/NoSuchElementException" then some ((2 : Int32), ov) else none))
| Except.ok r2 =>
gd_ (0 : Int32) 1 (nm_ (vp_updL ov ((0 : Int32).toNatClampNeg) r2.toInt64) (fun u16 =>
some ((0 : Int32), u16))))
abbrev rm_L_gapDay : Room := { frames := 8, cells := 2, slots := 12, locals := 161 }
set_option maxHeartbeats 4000000 in
set_option maxRecDepth 100000 in
theorem c_L_gapDay (l : Launch) (dC : Nat → ClassId) (dI : Nat → Nat → Nat) (cI cZ cC cJ cD : ClassId) (hst : l.stackTraces = false) (d0 s0 z0 b0 q0 t0 v0 f0 r0 v_keys v_firsts v_ends v_values v_inferred v_gone f_keys f_days f_amounts f_versions r_keys r_days r_values o0 : Nat) (sz : Nat) (dhasSaved : Int32) (dkeptError : Int32) (dmoved : Int32) (vkeys : Nat → Int32) (vfirsts : Nat → Int32) (vends : Nat → Int32) (vvalues : Nat → Int32) (vinferred : Nat → Int32) (vgone : Nat → Int32) (vmade : Int32) (fkeys : Nat → Int32) (fdays : Nat → Int32) (famounts : Nat → Int32) (fversions : Nat → Int32) (fcount : Int32) (rkeys : Nat → Int32) (rdays : Nat → Int32) (rvalues : Nat → Int32) (rcount : Int32) (ov : Nat → Int64) (a2 : Int32) (a3 : Int32) (a4 : Int32) (R : Int32 × tO_) (hf : f_L_gapDay a2 a3 a4 (dhasSaved, dkeptError, dmoved) () (vkeys, vfirsts, vends, vvalues, vinferred, vgone, vmade) (fkeys, fdays, famounts, fversions, fcount) (rkeys, rdays, rvalues, rcount) ov = some R) : Met l yL_gapDay wsL_gapDay rm_L_gapDay (PL_ (dC, dI) (ty_ cI cZ cC cJ cD) (wD_ d0 s0 z0 b0 q0 t0 dhasSaved dkeptError dmoved ++ wS_ s0 v0 f0 r0 ++ wV_ v0 v_keys v_firsts v_ends v_values v_inferred v_gone cI cZ vkeys vfirsts vends vvalues vinferred vgone vmade ++ wF_ f0 f_keys f_days f_amounts f_versions cI fkeys fdays famounts fversions fcount ++ wR_ r0 r_keys r_days r_values cI rkeys rdays rvalues rcount ++ wO_ o0 cJ ov) sz [.ref d0, .int a2, .int a3, .int a4, .ref o0]) (Qi_ (dC, dI) (ty_ cI cZ cC cJ cD) R.1 (wD_ d0 s0 z0 b0 q0 t0 dhasSaved dkeptError dmoved ++ wS_ s0 v0 f0 r0 ++ wV_ v0 v_keys v_firsts v_ends v_values v_inferred v_gone cI cZ vkeys vfirsts vends vvalues vinferred vgone vmade ++ wF_ f0 f_keys f_days f_amounts f_versions cI fkeys fdays famounts fversions fcount ++ wR_ r0 r_keys r_days r_values cI rkeys rdays rvalues rcount ++ wO_ o0 cJ R.2) (va_A (wD_ d0 s0 z0 b0 q0 t0 dhasSaved dkeptError dmoved ++ wS_ s0 v0 f0 r0 ++ wV_ v0 v_keys v_firsts v_ends v_values v_inferred v_gone cI cZ vkeys vfirsts vends vvalues vinferred vgone vmade ++ wF_ f0 f_keys f_days f_amounts f_versions cI fkeys fdays famounts fversions fcount ++ wR_ r0 r_keys r_days r_values cI rkeys rdays rvalues rcount ++ wO_ o0 cJ ov) sz)) 2 12 (va_A (wD_ d0 s0 z0 b0 q0 t0 dhasSaved dkeptError dmoved ++ wS_ s0 v0 f0 r0 ++ wV_ v0 v_keys v_firsts v_ends v_values v_inferred v_gone cI cZ vkeys vfirsts vends vvalues vinferred vgone vmade ++ wF_ f0 f_keys f_days f_amounts f_versions cI fkeys fdays famounts fversions fcount ++ wR_ r0 r_keys r_days r_values cI rkeys rdays rvalues rcount ++ wO_ o0 cJ ov) sz) := by
  refine metw_ (cc := cL_gapDay) (maxL := 6) (ret := (some .int)) (hh := [(0, 12, 15, 13), (0, 12, 19, 26)]) (Qcf := fun A => Qi_ (dC, dI) (ty_ cI cZ cC cJ cD) R.1 (wD_ d0 s0 z0 b0 q0 t0 dhasSaved dkeptError dmoved ++ wS_ s0 v0 f0 r0 ++ wV_ v0 v_keys v_firsts v_ends v_values v_inferred v_gone cI cZ vkeys vfirsts vends vvalues vinferred vgone vmade ++ wF_ f0 f_keys f_days f_amounts f_versions cI fkeys fdays famounts fversions fcount ++ wR_ r0 r_keys r_days r_values cI rkeys rdays rvalues rcount ++ wO_ o0 cJ R.2) A) (by decide) rfl (Nat.le_of_ble_eq_true rfl) ?_
  intro p e s m args below meth c A ls hx hb hr hts hown hlocks hml htab hA hU hN hC hP hK hD hl
  have hown : s.vm.findClass RL = some m.cls := hown
  have hl : lv_has ls 6 [(0, .ref d0), (1, .int a2), (2, .int a3), (3, .int a4), (4, .ref o0)] := hl
  have hS : va_S A s.heap s.heap [] := va_S.rf
  unfold f_L_gapDay at hf
  dsimp only at hf
  refine lv_aload hx hb dL_gapDay_0 (lv_at hl 4 rfl) ?_
  refine lv_iconst (v := 0) hx hb dL_gapDay_2 (by decide) ?_
  refine lv_aload_n hx hb dL_gapDay_3 rfl (lv_at hl 0 rfl) ?_
  refine lv_iload_n hx hb dL_gapDay_4 rfl (lv_at hl 1 rfl) ?_
  refine lv_iload_n hx hb dL_gapDay_5 rfl (lv_at hl 2 rfl) ?_
  refine lv_iload_n hx hb dL_gapDay_6 rfl (lv_at hl 3 rfl) ?_
  obtain ⟨R3, g4, hf⟩ := bd_B hf
  obtain ⟨x1, rfl⟩ : ∃ z, z = R3 := ⟨_, rfl⟩
  have hPc := hP.sub (ws' := wD_ d0 s0 z0 b0 q0 t0 dhasSaved dkeptError dmoved ++ wS_ s0 v0 f0 r0 ++ wV_ v0 v_keys v_firsts v_ends v_values v_inferred v_gone cI cZ vkeys vfirsts vends vvalues vinferred vgone vmade ++ wF_ f0 f_keys f_days f_amounts f_versions cI fkeys fdays famounts fversions fcount ++ wR_ r0 r_keys r_days r_values cI rkeys rdays rvalues rcount) [0, 1, 2, 3, 4, 5, 6, 7, 8, 9, 10, 11, 12, 13, 14, 15, 16, 17] rfl
  have hDc := hD.sub (ws' := wD_ d0 s0 z0 b0 q0 t0 dhasSaved dkeptError dmoved ++ wS_ s0 v0 f0 r0 ++ wV_ v0 v_keys v_firsts v_ends v_values v_inferred v_gone cI cZ vkeys vfirsts vends vvalues vinferred vgone vmade ++ wF_ f0 f_keys f_days f_amounts f_versions cI fkeys fdays famounts fversions fcount ++ wR_ r0 r_keys r_days r_values cI rkeys rdays rvalues rcount) [0, 1, 2, 3, 4, 5, 6, 7, 8, 9, 10, 11, 12, 13, 14, 15, 16, 17] (by decide) rfl
  have hFc := va_free (wc := wD_ d0 s0 z0 b0 q0 t0 dhasSaved dkeptError dmoved ++ wS_ s0 v0 f0 r0 ++ wV_ v0 v_keys v_firsts v_ends v_values v_inferred v_gone cI cZ vkeys vfirsts vends vvalues vinferred vgone vmade ++ wF_ f0 f_keys f_days f_amounts f_versions cI fkeys fdays famounts fversions fcount ++ wR_ r0 r_keys r_days r_values cI rkeys rdays rvalues rcount) hD hS hA [0, 1, 2, 3, 4, 5, 6, 7, 8, 9, 10, 11, 12, 13, 14, 15, 16, 17] rfl
  cases x1 with
  | error E9 =>
    by_cases c10 : E9 = "java/lang/IndexOutOfBoundsException"
    · have hf := ite_T c10 hf
      subst c10
      refine vx_calli (vx_runV (As := [.int a2, .int a3, .int a4]) (rest := [.int 0, .ref o0]) ⟨hx, hb, hml, hown, hts⟩ (c_X5_gapDay l dC dI cI cZ cC cJ cD hst d0 s0 z0 b0 q0 t0 v0 f0 r0 v_keys v_firsts v_ends v_values v_inferred v_gone f_keys f_days f_amounts f_versions r_keys r_days r_values s.heap.size dhasSaved dkeptError dmoved vkeys vfirsts vends vvalues vinferred vgone vmade fkeys fdays famounts fversions fcount rkeys rdays rvalues rcount a2 a3 a4 (Except.error "java/lang/IndexOutOfBoundsException") g4) (cwV 3 hts gL_gapDay_X5_gapDay rfl rfl rfl hs_X5_gapDay ⟨Nat.le_of_ble_eq_true rfl, Nat.le_of_ble_eq_true rfl⟩) (preVy_ (ci := 7) (q0 := 0) hPc hK hDc rfl rfl rfl rfl hS hU hN hFc hC.1) rfl rfl hl.1 rfl (lv_room (Nat.le_of_ble_eq_true rfl)) dL_gapDay_7 ⟨Nat.le_of_ble_eq_true rfl, Nat.le_of_ble_eq_true rfl⟩) hS (fun q _ h => hFc q h) hFc (fun q _ h => hFc q h) (fun E ce q11 u t H7 locs ht hvm hp hB hz1 hk1 hS hce hcv hcl => ?_) (fun z8 u t H7 locs ht hvm hw hB hz1 hk1 hS => ?_)
      · obtain ⟨hE, hB⟩ := hB
        cases hE
        obtain ⟨hP, hD⟩ := aft_ (Wr := wO_ o0 cJ ov) (Wc' := wD_ d0 s0 z0 b0 q0 t0 dhasSaved dkeptError dmoved ++ wS_ s0 v0 f0 r0 ++ wV_ v0 v_keys v_firsts v_ends v_values v_inferred v_gone cI cZ vkeys vfirsts vends vvalues vinferred vgone vmade ++ wF_ f0 f_keys f_days f_amounts f_versions cI fkeys fdays famounts fversions fcount ++ wR_ r0 r_keys r_days r_values cI rkeys rdays rvalues rcount) (W2 := wD_ d0 s0 z0 b0 q0 t0 dhasSaved dkeptError dmoved ++ wS_ s0 v0 f0 r0 ++ wV_ v0 v_keys v_firsts v_ends v_values v_inferred v_gone cI cZ vkeys vfirsts vends vvalues vinferred vgone vmade ++ wF_ f0 f_keys f_days f_amounts f_versions cI fkeys fdays famounts fversions fcount ++ wR_ r0 r_keys r_days r_values cI rkeys rdays rvalues rcount ++ wO_ o0 cJ ov) hP hD [0, 1, 2, 3, 4, 5, 6, 7, 8, 9, 10, 11, 12, 13, 14, 15, 16, 17] [18] [1, 2, 3, 4, 5, 6, 7, 8, 9, 10, 11, 12, 13, 14, 15, 16, 17, 18, 0] rfl rfl (by decide) (by decide) (by decide) hk1 hFc hB ht rfl
        refine vx_catch (name := "java/lang/IndexOutOfBoundsException") hown [] ⟨0, 12, 15, 13⟩ [⟨0, 12, 19, 26⟩] (htab.trans rfl) (fun z hz => nomatch hz) (by decide +kernel) (by decide) (hts _ (List.mem_of_getElem? (i := 1) rfl)) ((hC.1.1 "java/lang/IndexOutOfBoundsException" (by decide +kernel)).use rfl) hce hcv hcl ?_
        refine lv_astore (lv' := [(5, .ref q11), (0, .ref d0), (1, .int a2), (2, .int a3), (3, .int a4), (4, .ref o0)]) hx hb dL_gapDay_15 hl (by decide) rfl (fun ls hl => ?_)
        refine lv_iconst (v := 1) hx hb dL_gapDay_17 (by decide) ?_
        have hR := Option.some.inj hf
        subst hR
        refine W.widen (k := 2) (n := 12) (Nat.le_of_ble_eq_true rfl) (Nat.le_of_ble_eq_true rfl) ?_
        exact W.iret (v := (1 : Int32)) hx hb hr (fun t ht hW => ⟨⟨(1 : Int32), (), rfl, rfl, by rw [ht]; exact hP, va_K.moved hW.alike hK, hD⟩, hS.F ht⟩) hS.2.2 dL_gapDay_18
      · exact absurd hw (fun h => nomatch h)
    · have hf := ite_F c10 hf
      by_cases c12 : E9 = "java/util/NoSuchElementException"
      · have hf := ite_T c12 hf
        subst c12
        refine vx_calli (vx_runV (As := [.int a2, .int a3, .int a4]) (rest := [.int 0, .ref o0]) ⟨hx, hb, hml, hown, hts⟩ (c_X5_gapDay l dC dI cI cZ cC cJ cD hst d0 s0 z0 b0 q0 t0 v0 f0 r0 v_keys v_firsts v_ends v_values v_inferred v_gone f_keys f_days f_amounts f_versions r_keys r_days r_values s.heap.size dhasSaved dkeptError dmoved vkeys vfirsts vends vvalues vinferred vgone vmade fkeys fdays famounts fversions fcount rkeys rdays rvalues rcount a2 a3 a4 (Except.error "java/util/NoSuchElementException") g4) (cwV 3 hts gL_gapDay_X5_gapDay rfl rfl rfl hs_X5_gapDay ⟨Nat.le_of_ble_eq_true rfl, Nat.le_of_ble_eq_true rfl⟩) (preVy_ (ci := 7) (q0 := 0) hPc hK hDc rfl rfl rfl rfl hS hU hN hFc hC.1) rfl rfl hl.1 rfl (lv_room (Nat.le_of_ble_eq_true rfl)) dL_gapDay_7 ⟨Nat.le_of_ble_eq_true rfl, Nat.le_of_ble_eq_true rfl⟩) hS (fun q _ h => hFc q h) hFc (fun q _ h => hFc q h) (fun E ce q13 u t H7 locs ht hvm hp hB hz1 hk1 hS hce hcv hcl => ?_) (fun z8 u t H7 locs ht hvm hw hB hz1 hk1 hS => ?_)
        · obtain ⟨hE, hB⟩ := hB
          cases hE
          obtain ⟨hP, hD⟩ := aft_ (Wr := wO_ o0 cJ ov) (Wc' := wD_ d0 s0 z0 b0 q0 t0 dhasSaved dkeptError dmoved ++ wS_ s0 v0 f0 r0 ++ wV_ v0 v_keys v_firsts v_ends v_values v_inferred v_gone cI cZ vkeys vfirsts vends vvalues vinferred vgone vmade ++ wF_ f0 f_keys f_days f_amounts f_versions cI fkeys fdays famounts fversions fcount ++ wR_ r0 r_keys r_days r_values cI rkeys rdays rvalues rcount) (W2 := wD_ d0 s0 z0 b0 q0 t0 dhasSaved dkeptError dmoved ++ wS_ s0 v0 f0 r0 ++ wV_ v0 v_keys v_firsts v_ends v_values v_inferred v_gone cI cZ vkeys vfirsts vends vvalues vinferred vgone vmade ++ wF_ f0 f_keys f_days f_amounts f_versions cI fkeys fdays famounts fversions fcount ++ wR_ r0 r_keys r_days r_values cI rkeys rdays rvalues rcount ++ wO_ o0 cJ ov) hP hD [0, 1, 2, 3, 4, 5, 6, 7, 8, 9, 10, 11, 12, 13, 14, 15, 16, 17] [18] [1, 2, 3, 4, 5, 6, 7, 8, 9, 10, 11, 12, 13, 14, 15, 16, 17, 18, 0] rfl rfl (by decide) (by decide) (by decide) hk1 hFc hB ht rfl
          refine vx_catch (name := "java/util/NoSuchElementException") hown [⟨0, 12, 15, 13⟩] ⟨0, 12, 19, 26⟩ [] (htab.trans rfl) (fun z hz => by (rcases List.mem_cons.mp hz with rfl | hz; exact Or.inr ⟨by decide, "java/lang/IndexOutOfBoundsException", hts _ (List.mem_of_getElem? (i := 1) rfl), hC.2 "java/util/NoSuchElementException" (by decide +kernel) "java/lang/IndexOutOfBoundsException" (by decide +kernel) (by decide +kernel)⟩; cases hz)) (by decide +kernel) (by decide) (hts _ (List.mem_of_getElem? (i := 2) rfl)) ((hC.1.1 "java/util/NoSuchElementException" (by decide +kernel)).use rfl) hce hcv hcl ?_
          refine lv_astore (lv' := [(5, .ref q13), (0, .ref d0), (1, .int a2), (2, .int a3), (3, .int a4), (4, .ref o0)]) hx hb dL_gapDay_19 hl (by decide) rfl (fun ls hl => ?_)
          refine lv_iconst (v := 2) hx hb dL_gapDay_21 (by decide) ?_
          have hR := Option.some.inj hf
          subst hR
          refine W.widen (k := 2) (n := 12) (Nat.le_of_ble_eq_true rfl) (Nat.le_of_ble_eq_true rfl) ?_
          exact W.iret (v := (2 : Int32)) hx hb hr (fun t ht hW => ⟨⟨(2 : Int32), (), rfl, rfl, by rw [ht]; exact hP, va_K.moved hW.alike hK, hD⟩, hS.F ht⟩) hS.2.2 dL_gapDay_22
        · exact absurd hw (fun h => nomatch h)
      · have hf := ite_F c12 hf
        exact absurd hf (fun h => nomatch h)
  | ok r2 =>
    refine vx_calli (vx_runV (As := [.int a2, .int a3, .int a4]) (rest := [.int 0, .ref o0]) ⟨hx, hb, hml, hown, hts⟩ (c_X5_gapDay l dC dI cI cZ cC cJ cD hst d0 s0 z0 b0 q0 t0 v0 f0 r0 v_keys v_firsts v_ends v_values v_inferred v_gone f_keys f_days f_amounts f_versions r_keys r_days r_values s.heap.size dhasSaved dkeptError dmoved vkeys vfirsts vends vvalues vinferred vgone vmade fkeys fdays famounts fversions fcount rkeys rdays rvalues rcount a2 a3 a4 (Except.ok r2) g4) (cwV 3 hts gL_gapDay_X5_gapDay rfl rfl rfl hs_X5_gapDay ⟨Nat.le_of_ble_eq_true rfl, Nat.le_of_ble_eq_true rfl⟩) (preVy_ (ci := 7) (q0 := 0) hPc hK hDc rfl rfl rfl rfl hS hU hN hFc hC.1) rfl rfl hl.1 rfl (lv_room (Nat.le_of_ble_eq_true rfl)) dL_gapDay_7 ⟨Nat.le_of_ble_eq_true rfl, Nat.le_of_ble_eq_true rfl⟩) hS (fun q _ h => hFc q h) hFc (fun q _ h => hFc q h) (fun E ce q9 u t H7 locs ht hvm hp hB hz1 hk1 hS hce hcv hcl => ?_) (fun z8 u t H7 locs ht hvm hw hB hz1 hk1 hS => ?_)
    · exact absurd hB.1 (fun h => nomatch h)
    · have hw : r2 = z8 := Except.ok.inj hw
      subst hw
      obtain ⟨hP, hD⟩ := aft_ (Wr := wO_ o0 cJ ov) (Wc' := wD_ d0 s0 z0 b0 q0 t0 dhasSaved dkeptError dmoved ++ wS_ s0 v0 f0 r0 ++ wV_ v0 v_keys v_firsts v_ends v_values v_inferred v_gone cI cZ vkeys vfirsts vends vvalues vinferred vgone vmade ++ wF_ f0 f_keys f_days f_amounts f_versions cI fkeys fdays famounts fversions fcount ++ wR_ r0 r_keys r_days r_values cI rkeys rdays rvalues rcount) (W2 := wD_ d0 s0 z0 b0 q0 t0 dhasSaved dkeptError dmoved ++ wS_ s0 v0 f0 r0 ++ wV_ v0 v_keys v_firsts v_ends v_values v_inferred v_gone cI cZ vkeys vfirsts vends vvalues vinferred vgone vmade ++ wF_ f0 f_keys f_days f_amounts f_versions cI fkeys fdays famounts fversions fcount ++ wR_ r0 r_keys r_days r_values cI rkeys rdays rvalues rcount ++ wO_ o0 cJ ov) hP hD [0, 1, 2, 3, 4, 5, 6, 7, 8, 9, 10, 11, 12, 13, 14, 15, 16, 17] [18] [1, 2, 3, 4, 5, 6, 7, 8, 9, 10, 11, 12, 13, 14, 15, 16, 17, 18, 0] rfl rfl (by decide) (by decide) (by decide) hk1 hFc hB ht rfl
      refine lv_i2l hx hb dL_gapDay_10 rfl ?_
      obtain ⟨h14, hf⟩ := gd_T hf
      refine va_last hx hb hK hP hD hS 18 3 rfl rfl h14 dL_gapDay_11 (fun H15 locs hP hD hS => ?_)
      have hP : va_P (dC, dI) vwCl (wD_ d0 s0 z0 b0 q0 t0 dhasSaved dkeptError dmoved ++ wS_ s0 v0 f0 r0 ++ wV_ v0 v_keys v_firsts v_ends v_values v_inferred v_gone cI cZ vkeys vfirsts vends vvalues vinferred vgone vmade ++ wF_ f0 f_keys f_days f_amounts f_versions cI fkeys fdays famounts fversions fcount ++ wR_ r0 r_keys r_days r_values cI rkeys rdays rvalues rcount ++ wO_ o0 cJ (vp_updL ov ((0 : Int32).toNatClampNeg) r2.toInt64)) H15 := hP
      have hD : va_D A (wD_ d0 s0 z0 b0 q0 t0 dhasSaved dkeptError dmoved ++ wS_ s0 v0 f0 r0 ++ wV_ v0 v_keys v_firsts v_ends v_values v_inferred v_gone cI cZ vkeys vfirsts vends vvalues vinferred vgone vmade ++ wF_ f0 f_keys f_days f_amounts f_versions cI fkeys fdays famounts fversions fcount ++ wR_ r0 r_keys r_days r_values cI rkeys rdays rvalues rcount ++ wO_ o0 cJ (vp_updL ov ((0 : Int32).toNatClampNeg) r2.toInt64)) := hD
      obtain ⟨u16, e17, hf⟩ := nm_T hf
      rw [← e17] at hP hD
      refine lv_goto (tgt := 23) hx hb dL_gapDay_12 (by decide) ?_
      refine lv_iconst (v := 0) hx hb dL_gapDay_23 (by decide) ?_
      have hR := Option.some.inj hf
      subst hR
      refine W.widen (k := 2) (n := 12) (Nat.le_of_ble_eq_true rfl) (Nat.le_of_ble_eq_true rfl) ?_
      exact W.iret (v := (0 : Int32)) hx hb hr (fun t ht hW => ⟨⟨(0 : Int32), (), rfl, rfl, by rw [ht]; exact hP, va_K.moved hW.alike hK, hD⟩, hS.F ht⟩) hS.2.2 dL_gapDay_24
theorem hs_L_gapDay : yL_gapDay.cls ≠ "java/lang/invoke/MethodHandle" ∧ yL_gapDay.cls ≠ "java/lang/invoke/VarHandle" ∧ (parseMethodDescriptor yL_gapDay.desc).map (fun d => d.parameters.length) = some 5 := by decide +kernel
def f_L_coverage (a2 : Int32) (D_ : tD_) (S_ : tS_) (V_ : tV_) (F_ : tF_) (R_ : tR_) (pv : tP_) : Option (Int32 × tP_) :=
match D_ with
| (dhasSaved, dkeptError, dmoved) =>
match V_ with
| (vkeys, vfirsts, vends, vvalues, vinferred, vgone, vmade) =>
match F_ with
| (fkeys, fdays, famounts, fversions, fcount) =>
match R_ with
| (rkeys, rdays, rvalues, rcount) =>
bd_ (f_X5_coverage a2 (dhasSaved, dkeptError, dmoved) () (vkeys, vfirsts, vends, vvalues, vinferred, vgone, vmade) (fkeys, fdays, famounts, fversions, fcount) (rkeys, rdays, rvalues, rcount)) (fun x1 =>
match x1 with
| Except.error E9 => (if E9 = "java/lang/IndexOutOfBoundsException" then some ((1 : Int32), pv) else (if E9 = "java/lang/ArithmeticException" then some ((2 : Int32), pv) else none))
| Except.ok r2 =>
gd_ (0 : Int32) 1 (nm_ (vf_upd pv ((0 : Int32).toNatClampNeg) r2) (fun u16 =>
some ((0 : Int32), u16))))
abbrev rm_L_coverage : Room := { frames := 8, cells := 2, slots := 12, locals := 130 }
set_option maxHeartbeats 4000000 in
set_option maxRecDepth 100000 in
theorem c_L_coverage (l : Launch) (dC : Nat → ClassId) (dI : Nat → Nat → Nat) (cI cZ cC cJ cD : ClassId) (hst : l.stackTraces = false) (d0 s0 z0 b0 q0 t0 v0 f0 r0 v_keys v_firsts v_ends v_values v_inferred v_gone f_keys f_days f_amounts f_versions r_keys r_days r_values p0 : Nat) (sz : Nat) (dhasSaved : Int32) (dkeptError : Int32) (dmoved : Int32) (vkeys : Nat → Int32) (vfirsts : Nat → Int32) (vends : Nat → Int32) (vvalues : Nat → Int32) (vinferred : Nat → Int32) (vgone : Nat → Int32) (vmade : Int32) (fkeys : Nat → Int32) (fdays : Nat → Int32) (famounts : Nat → Int32) (fversions : Nat → Int32) (fcount : Int32) (rkeys : Nat → Int32) (rdays : Nat → Int32) (rvalues : Nat → Int32) (rcount : Int32) (pv : Nat → UInt64) (a2 : Int32) (R : Int32 × tP_) (hf : f_L_coverage a2 (dhasSaved, dkeptError, dmoved) () (vkeys, vfirsts, vends, vvalues, vinferred, vgone, vmade) (fkeys, fdays, famounts, fversions, fcount) (rkeys, rdays, rvalues, rcount) pv = some R) : Met l yL_coverage wsL_coverage rm_L_coverage (PL_ (dC, dI) (ty_ cI cZ cC cJ cD) (wD_ d0 s0 z0 b0 q0 t0 dhasSaved dkeptError dmoved ++ wS_ s0 v0 f0 r0 ++ wV_ v0 v_keys v_firsts v_ends v_values v_inferred v_gone cI cZ vkeys vfirsts vends vvalues vinferred vgone vmade ++ wF_ f0 f_keys f_days f_amounts f_versions cI fkeys fdays famounts fversions fcount ++ wR_ r0 r_keys r_days r_values cI rkeys rdays rvalues rcount ++ wP_ p0 cD pv) sz [.ref d0, .int a2, .ref p0]) (Qi_ (dC, dI) (ty_ cI cZ cC cJ cD) R.1 (wD_ d0 s0 z0 b0 q0 t0 dhasSaved dkeptError dmoved ++ wS_ s0 v0 f0 r0 ++ wV_ v0 v_keys v_firsts v_ends v_values v_inferred v_gone cI cZ vkeys vfirsts vends vvalues vinferred vgone vmade ++ wF_ f0 f_keys f_days f_amounts f_versions cI fkeys fdays famounts fversions fcount ++ wR_ r0 r_keys r_days r_values cI rkeys rdays rvalues rcount ++ wP_ p0 cD R.2) (va_A (wD_ d0 s0 z0 b0 q0 t0 dhasSaved dkeptError dmoved ++ wS_ s0 v0 f0 r0 ++ wV_ v0 v_keys v_firsts v_ends v_values v_inferred v_gone cI cZ vkeys vfirsts vends vvalues vinferred vgone vmade ++ wF_ f0 f_keys f_days f_amounts f_versions cI fkeys fdays famounts fversions fcount ++ wR_ r0 r_keys r_days r_values cI rkeys rdays rvalues rcount ++ wP_ p0 cD pv) sz)) 2 12 (va_A (wD_ d0 s0 z0 b0 q0 t0 dhasSaved dkeptError dmoved ++ wS_ s0 v0 f0 r0 ++ wV_ v0 v_keys v_firsts v_ends v_values v_inferred v_gone cI cZ vkeys vfirsts vends vvalues vinferred vgone vmade ++ wF_ f0 f_keys f_days f_amounts f_versions cI fkeys fdays famounts fversions fcount ++ wR_ r0 r_keys r_days r_values cI rkeys rdays rvalues rcount ++ wP_ p0 cD pv) sz) := by
  refine metw_ (cc := cL_coverage) (maxL := 4) (ret := (some .int)) (hh := [(0, 8, 11, 13), (0, 8, 14, 83)]) (Qcf := fun A => Qi_ (dC, dI) (ty_ cI cZ cC cJ cD) R.1 (wD_ d0 s0 z0 b0 q0 t0 dhasSaved dkeptError dmoved ++ wS_ s0 v0 f0 r0 ++ wV_ v0 v_keys v_firsts v_ends v_values v_inferred v_gone cI cZ vkeys vfirsts vends vvalues vinferred vgone vmade ++ wF_ f0 f_keys f_days f_amounts f_versions cI fkeys fdays famounts fversions fcount ++ wR_ r0 r_keys r_days r_values cI rkeys rdays rvalues rcount ++ wP_ p0 cD R.2) A) (by decide) rfl (Nat.le_of_ble_eq_true rfl) ?_
  intro p e s m args below meth c A ls hx hb hr hts hown hlocks hml htab hA hU hN hC hP hK hD hl
  have hown : s.vm.findClass RL = some m.cls := hown
  have hl : lv_has ls 4 [(0, .ref d0), (1, .int a2), (2, .ref p0)] := hl
  have hS : va_S A s.heap s.heap [] := va_S.rf
  unfold f_L_coverage at hf
  dsimp only at hf
  refine lv_aload_n hx hb dL_coverage_0 rfl (lv_at hl 2 rfl) ?_
  refine lv_iconst (v := 0) hx hb dL_coverage_1 (by decide) ?_
  refine lv_aload_n hx hb dL_coverage_2 rfl (lv_at hl 0 rfl) ?_
  refine lv_iload_n hx hb dL_coverage_3 rfl (lv_at hl 1 rfl) ?_
  obtain ⟨R3, g4, hf⟩ := bd_B hf
  obtain ⟨x1, rfl⟩ : ∃ z, z = R3 := ⟨_, rfl⟩
  have hPc := hP.sub (ws' := wD_ d0 s0 z0 b0 q0 t0 dhasSaved dkeptError dmoved ++ wS_ s0 v0 f0 r0 ++ wV_ v0 v_keys v_firsts v_ends v_values v_inferred v_gone cI cZ vkeys vfirsts vends vvalues vinferred vgone vmade ++ wF_ f0 f_keys f_days f_amounts f_versions cI fkeys fdays famounts fversions fcount ++ wR_ r0 r_keys r_days r_values cI rkeys rdays rvalues rcount) [0, 1, 2, 3, 4, 5, 6, 7, 8, 9, 10, 11, 12, 13, 14, 15, 16, 17] rfl
  have hDc := hD.sub (ws' := wD_ d0 s0 z0 b0 q0 t0 dhasSaved dkeptError dmoved ++ wS_ s0 v0 f0 r0 ++ wV_ v0 v_keys v_firsts v_ends v_values v_inferred v_gone cI cZ vkeys vfirsts vends vvalues vinferred vgone vmade ++ wF_ f0 f_keys f_days f_amounts f_versions cI fkeys fdays famounts fversions fcount ++ wR_ r0 r_keys r_days r_values cI rkeys rdays rvalues rcount) [0, 1, 2, 3, 4, 5, 6, 7, 8, 9, 10, 11, 12, 13, 14, 15, 16, 17] (by decide) rfl
  have hFc := va_free (wc := wD_ d0 s0 z0 b0 q0 t0 dhasSaved dkeptError dmoved ++ wS_ s0 v0 f0 r0 ++ wV_ v0 v_keys v_firsts v_ends v_values v_inferred v_gone cI cZ vkeys vfirsts vends vvalues vinferred vgone vmade ++ wF_ f0 f_keys f_days f_amounts f_versions cI fkeys fdays famounts fversions fcount ++ wR_ r0 r_keys r_days r_values cI rkeys rdays rvalues rcount) hD hS hA [0, 1, 2, 3, 4, 5, 6, 7, 8, 9, 10, 11, 12, 13, 14, 15, 16, 17] rfl
  cases x1 with
  | error E9 =>
    by_cases c10 : E9 = "java/lang/IndexOutOfBoundsException"
    · have hf := ite_T c10 hf
      subst c10
      refine vx_calld (vx_runV (As := [.int a2]) (rest := [.int 0, .ref p0]) ⟨hx, hb, hml, hown, hts⟩ (c_X5_coverage l dC dI cI cZ cC cJ cD hst d0 s0 z0 b0 q0 t0 v0 f0 r0 v_keys v_firsts v_ends v_values v_inferred v_gone f_keys f_days f_amounts f_versions r_keys r_days r_values s.heap.size dhasSaved dkeptError dmoved vkeys vfirsts vends vvalues vinferred vgone vmade fkeys fdays famounts fversions fcount rkeys rdays rvalues rcount a2 (Except.error "java/lang/IndexOutOfBoundsException") g4) (cwV 1 hts gL_coverage_X5_coverage rfl rfl rfl hs_X5_coverage ⟨Nat.le_of_ble_eq_true rfl, Nat.le_of_ble_eq_true rfl⟩) (preVy_ (ci := 7) (q0 := 0) hPc hK hDc rfl rfl rfl rfl hS hU hN hFc hC.1) rfl rfl hl.1 rfl (lv_room (Nat.le_of_ble_eq_true rfl)) dL_coverage_4 ⟨Nat.le_of_ble_eq_true rfl, Nat.le_of_ble_eq_true rfl⟩) hS (fun q _ h => hFc q h) hFc (fun q _ h => hFc q h) (fun E ce q11 u t H7 locs ht hvm hp hB hz1 hk1 hS hce hcv hcl => ?_) (fun z8 u t H7 locs ht hvm hw hB hz1 hk1 hS => ?_)
      · obtain ⟨hE, hB⟩ := hB
        cases hE
        obtain ⟨hP, hD⟩ := aft_ (Wr := wP_ p0 cD pv) (Wc' := wD_ d0 s0 z0 b0 q0 t0 dhasSaved dkeptError dmoved ++ wS_ s0 v0 f0 r0 ++ wV_ v0 v_keys v_firsts v_ends v_values v_inferred v_gone cI cZ vkeys vfirsts vends vvalues vinferred vgone vmade ++ wF_ f0 f_keys f_days f_amounts f_versions cI fkeys fdays famounts fversions fcount ++ wR_ r0 r_keys r_days r_values cI rkeys rdays rvalues rcount) (W2 := wD_ d0 s0 z0 b0 q0 t0 dhasSaved dkeptError dmoved ++ wS_ s0 v0 f0 r0 ++ wV_ v0 v_keys v_firsts v_ends v_values v_inferred v_gone cI cZ vkeys vfirsts vends vvalues vinferred vgone vmade ++ wF_ f0 f_keys f_days f_amounts f_versions cI fkeys fdays famounts fversions fcount ++ wR_ r0 r_keys r_days r_values cI rkeys rdays rvalues rcount ++ wP_ p0 cD pv) hP hD [0, 1, 2, 3, 4, 5, 6, 7, 8, 9, 10, 11, 12, 13, 14, 15, 16, 17] [18] [1, 2, 3, 4, 5, 6, 7, 8, 9, 10, 11, 12, 13, 14, 15, 16, 17, 18, 0] rfl rfl (by decide) (by decide) (by decide) hk1 hFc hB ht rfl
        refine vx_catch (name := "java/lang/IndexOutOfBoundsException") hown [] ⟨0, 8, 11, 13⟩ [⟨0, 8, 14, 83⟩] (htab.trans rfl) (fun z hz => nomatch hz) (by decide +kernel) (by decide) (hts _ (List.mem_of_getElem? (i := 1) rfl)) ((hC.1.1 "java/lang/IndexOutOfBoundsException" (by decide +kernel)).use rfl) hce hcv hcl ?_
        refine lv_astore_n (lv' := [(3, .ref q11), (0, .ref d0), (1, .int a2), (2, .ref p0)]) hx hb dL_coverage_11 rfl hl (by decide) rfl (fun ls hl => ?_)
        refine lv_iconst (v := 1) hx hb dL_coverage_12 (by decide) ?_
        have hR := Option.some.inj hf
        subst hR
        refine W.widen (k := 2) (n := 12) (Nat.le_of_ble_eq_true rfl) (Nat.le_of_ble_eq_true rfl) ?_
        exact W.iret (v := (1 : Int32)) hx hb hr (fun t ht hW => ⟨⟨(1 : Int32), (), rfl, rfl, by rw [ht]; exact hP, va_K.moved hW.alike hK, hD⟩, hS.F ht⟩) hS.2.2 dL_coverage_13
      · exact absurd hw (fun h => nomatch h)
    · have hf := ite_F c10 hf
      by_cases c12 : E9 = "java/lang/ArithmeticException"
      · have hf := ite_T c12 hf
        subst c12
        refine vx_calld (vx_runV (As := [.int a2]) (rest := [.int 0, .ref p0]) ⟨hx, hb, hml, hown, hts⟩ (c_X5_coverage l dC dI cI cZ cC cJ cD hst d0 s0 z0 b0 q0 t0 v0 f0 r0 v_keys v_firsts v_ends v_values v_inferred v_gone f_keys f_days f_amounts f_versions r_keys r_days r_values s.heap.size dhasSaved dkeptError dmoved vkeys vfirsts vends vvalues vinferred vgone vmade fkeys fdays famounts fversions fcount rkeys rdays rvalues rcount a2 (Except.error "java/lang/ArithmeticException") g4) (cwV 1 hts gL_coverage_X5_coverage rfl rfl rfl hs_X5_coverage ⟨Nat.le_of_ble_eq_true rfl, Nat.le_of_ble_eq_true rfl⟩) (preVy_ (ci := 7) (q0 := 0) hPc hK hDc rfl rfl rfl rfl hS hU hN hFc hC.1) rfl rfl hl.1 rfl (lv_room (Nat.le_of_ble_eq_true rfl)) dL_coverage_4 ⟨Nat.le_of_ble_eq_true rfl, Nat.le_of_ble_eq_true rfl⟩) hS (fun q _ h => hFc q h) hFc (fun q _ h => hFc q h) (fun E ce q13 u t H7 locs ht hvm hp hB hz1 hk1 hS hce hcv hcl => ?_) (fun z8 u t H7 locs ht hvm hw hB hz1 hk1 hS => ?_)
        · obtain ⟨hE, hB⟩ := hB
          cases hE
          obtain ⟨hP, hD⟩ := aft_ (Wr := wP_ p0 cD pv) (Wc' := wD_ d0 s0 z0 b0 q0 t0 dhasSaved dkeptError dmoved ++ wS_ s0 v0 f0 r0 ++ wV_ v0 v_keys v_firsts v_ends v_values v_inferred v_gone cI cZ vkeys vfirsts vends vvalues vinferred vgone vmade ++ wF_ f0 f_keys f_days f_amounts f_versions cI fkeys fdays famounts fversions fcount ++ wR_ r0 r_keys r_days r_values cI rkeys rdays rvalues rcount) (W2 := wD_ d0 s0 z0 b0 q0 t0 dhasSaved dkeptError dmoved ++ wS_ s0 v0 f0 r0 ++ wV_ v0 v_keys v_firsts v_ends v_values v_inferred v_gone cI cZ vkeys vfirsts vends vvalues vinferred vgone vmade ++ wF_ f0 f_keys f_days f_amounts f_versions cI fkeys fdays famounts fversions fcount ++ wR_ r0 r_keys r_days r_values cI rkeys rdays rvalues rcount ++ wP_ p0 cD pv) hP hD [0, 1, 2, 3, 4, 5, 6, 7, 8, 9, 10, 11, 12, 13, 14, 15, 16, 17] [18] [1, 2, 3, 4, 5, 6, 7, 8, 9, 10, 11, 12, 13, 14, 15, 16, 17, 18, 0] rfl rfl (by decide) (by decide) (by decide) hk1 hFc hB ht rfl
          refine vx_catch (name := "java/lang/ArithmeticException") hown [⟨0, 8, 11, 13⟩] ⟨0, 8, 14, 83⟩ [] (htab.trans rfl) (fun z hz => by (rcases List.mem_cons.mp hz with rfl | hz; exact Or.inr ⟨by decide, "java/lang/IndexOutOfBoundsException", hts _ (List.mem_of_getElem? (i := 1) rfl), hC.2 "java/lang/ArithmeticException" (by decide +kernel) "java/lang/IndexOutOfBoundsException" (by decide +kernel) (by decide +kernel)⟩; cases hz)) (by decide +kernel) (by decide) (hts _ (List.mem_of_getElem? (i := 2) rfl)) ((hC.1.1 "java/lang/ArithmeticException" (by decide +kernel)).use rfl) hce hcv hcl ?_
          refine lv_astore_n (lv' := [(3, .ref q13), (0, .ref d0), (1, .int a2), (2, .ref p0)]) hx hb dL_coverage_14 rfl hl (by decide) rfl (fun ls hl => ?_)
          refine lv_iconst (v := 2) hx hb dL_coverage_15 (by decide) ?_
          have hR := Option.some.inj hf
          subst hR
          refine W.widen (k := 2) (n := 12) (Nat.le_of_ble_eq_true rfl) (Nat.le_of_ble_eq_true rfl) ?_
          exact W.iret (v := (2 : Int32)) hx hb hr (fun t ht hW => ⟨⟨(2 : Int32), (), rfl, rfl, by rw [ht]; exact hP, va_K.moved hW.alike hK, hD⟩, hS.F ht⟩) hS.2.2 dL_coverage_16
        · exact absurd hw (fun h => nomatch h)
      · have hf := ite_F c12 hf
        exact absurd hf (fun h => nomatch h)
  | ok r2 =>
    refine vx_calld (vx_runV (As := [.int a2]) (rest := [.int 0, .ref p0]) ⟨hx, hb, hml, hown, hts⟩ (c_X5_coverage l dC dI cI cZ cC cJ cD hst d0 s0 z0 b0 q0 t0 v0 f0 r0 v_keys v_firsts v_ends v_values v_inferred v_gone f_keys f_days f_amounts f_versions r_keys r_days r_values s.heap.size dhasSaved dkeptError dmoved vkeys vfirsts vends vvalues vinferred vgone vmade fkeys fdays famounts fversions fcount rkeys rdays rvalues rcount a2 (Except.ok r2) g4) (cwV 1 hts gL_coverage_X5_coverage rfl rfl rfl hs_X5_coverage ⟨Nat.le_of_ble_eq_true rfl, Nat.le_of_ble_eq_true rfl⟩) (preVy_ (ci := 7) (q0 := 0) hPc hK hDc rfl rfl rfl rfl hS hU hN hFc hC.1) rfl rfl hl.1 rfl (lv_room (Nat.le_of_ble_eq_true rfl)) dL_coverage_4 ⟨Nat.le_of_ble_eq_true rfl, Nat.le_of_ble_eq_true rfl⟩) hS (fun q _ h => hFc q h) hFc (fun q _ h => hFc q h) (fun E ce q9 u t H7 locs ht hvm hp hB hz1 hk1 hS hce hcv hcl => ?_) (fun z8 u t H7 locs ht hvm hw hB hz1 hk1 hS => ?_)
    · exact absurd hB.1 (fun h => nomatch h)
    · have hw : r2 = z8 := Except.ok.inj hw
      subst hw
      obtain ⟨hP, hD⟩ := aft_ (Wr := wP_ p0 cD pv) (Wc' := wD_ d0 s0 z0 b0 q0 t0 dhasSaved dkeptError dmoved ++ wS_ s0 v0 f0 r0 ++ wV_ v0 v_keys v_firsts v_ends v_values v_inferred v_gone cI cZ vkeys vfirsts vends vvalues vinferred vgone vmade ++ wF_ f0 f_keys f_days f_amounts f_versions cI fkeys fdays famounts fversions fcount ++ wR_ r0 r_keys r_days r_values cI rkeys rdays rvalues rcount) (W2 := wD_ d0 s0 z0 b0 q0 t0 dhasSaved dkeptError dmoved ++ wS_ s0 v0 f0 r0 ++ wV_ v0 v_keys v_firsts v_ends v_values v_inferred v_gone cI cZ vkeys vfirsts vends vvalues vinferred vgone vmade ++ wF_ f0 f_keys f_days f_amounts f_versions cI fkeys fdays famounts fversions fcount ++ wR_ r0 r_keys r_days r_values cI rkeys rdays rvalues rcount ++ wP_ p0 cD pv) hP hD [0, 1, 2, 3, 4, 5, 6, 7, 8, 9, 10, 11, 12, 13, 14, 15, 16, 17] [18] [1, 2, 3, 4, 5, 6, 7, 8, 9, 10, 11, 12, 13, 14, 15, 16, 17, 18, 0] rfl rfl (by decide) (by decide) (by decide) hk1 hFc hB ht rfl
      obtain ⟨h14, hf⟩ := gd_T hf
      refine va_dast hx hb hK hP hD hS 18 4 rfl rfl h14 dL_coverage_7 (fun H15 locs hP hD hS => ?_)
      have hP : va_P (dC, dI) vwCl (wD_ d0 s0 z0 b0 q0 t0 dhasSaved dkeptError dmoved ++ wS_ s0 v0 f0 r0 ++ wV_ v0 v_keys v_firsts v_ends v_values v_inferred v_gone cI cZ vkeys vfirsts vends vvalues vinferred vgone vmade ++ wF_ f0 f_keys f_days f_amounts f_versions cI fkeys fdays famounts fversions fcount ++ wR_ r0 r_keys r_days r_values cI rkeys rdays rvalues rcount ++ wP_ p0 cD (vf_upd pv ((0 : Int32).toNatClampNeg) r2)) H15 := hP
      have hD : va_D A (wD_ d0 s0 z0 b0 q0 t0 dhasSaved dkeptError dmoved ++ wS_ s0 v0 f0 r0 ++ wV_ v0 v_keys v_firsts v_ends v_values v_inferred v_gone cI cZ vkeys vfirsts vends vvalues vinferred vgone vmade ++ wF_ f0 f_keys f_days f_amounts f_versions cI fkeys fdays famounts fversions fcount ++ wR_ r0 r_keys r_days r_values cI rkeys rdays rvalues rcount ++ wP_ p0 cD (vf_upd pv ((0 : Int32).toNatClampNeg) r2)) := hD
      obtain ⟨u16, e17, hf⟩ := nm_T hf
      rw [← e17] at hP hD
      refine lv_goto (tgt := 17) hx hb dL_coverage_8 (by decide) ?_
      refine lv_iconst (v := 0) hx hb dL_coverage_17 (by decide) ?_
      have hR := Option.some.inj hf
      subst hR
      refine W.widen (k := 2) (n := 12) (Nat.le_of_ble_eq_true rfl) (Nat.le_of_ble_eq_true rfl) ?_
      exact W.iret (v := (0 : Int32)) hx hb hr (fun t ht hW => ⟨⟨(0 : Int32), (), rfl, rfl, by rw [ht]; exact hP, va_K.moved hW.alike hK, hD⟩, hS.F ht⟩) hS.2.2 dL_coverage_18
theorem hs_L_coverage : yL_coverage.cls ≠ "java/lang/invoke/MethodHandle" ∧ yL_coverage.cls ≠ "java/lang/invoke/VarHandle" ∧ (parseMethodDescriptor yL_coverage.desc).map (fun d => d.parameters.length) = some 3 := by decide +kernel
def f_L_isCovered (a2 : Int32) (a3 : Int32) (a4 : Int32) (D_ : tD_) (S_ : tS_) (V_ : tV_) (F_ : tF_) (R_ : tR_) (ov : tO_) : Option (Int32 × tO_) :=
match D_ with
| (dhasSaved, dkeptError, dmoved) =>
match V_ with
| (vkeys, vfirsts, vends, vvalues, vinferred, vgone, vmade) =>
match F_ with
| (fkeys, fdays, famounts, fversions, fcount) =>
match R_ with
| (rkeys, rdays, rvalues, rcount) =>
bd_ (f_X5_isCovered a2 a3 a4 (dhasSaved, dkeptError, dmoved) () (vkeys, vfirsts, vends, vvalues, vinferred, vgone, vmade) (fkeys, fdays, famounts, fversions, fcount) (rkeys, rdays, rvalues, rcount)) (fun x1 =>
match x1 with
| Except.error E9 => (if E9 = "java/lang/IndexOutOfBoundsException" then some ((1 : Int32), ov) else (if E9 = "java/lang/IllegalArgumentException" then some ((2 : Int32), ov) else none))
| Except.ok r2 =>
if r2 = 0 then
gd_ (0 : Int32) 1 (nm_ (vp_updL ov ((0 : Int32).toNatClampNeg) (0 : Int64)) (fun u17 =>
some ((0 : Int32), u17)))
else
gd_ (0 : Int32) 1 (nm_ (vp_updL ov ((0 : Int32).toNatClampNeg) (1 : Int64)) (fun u21 =>
some ((0 : Int32), u21))))
abbrev rm_L_isCovered : Room := { frames := 8, cells := 3, slots := 18, locals := 132 }
set_option maxHeartbeats 4000000 in
set_option maxRecDepth 100000 in
theorem c_L_isCovered (l : Launch) (dC : Nat → ClassId) (dI : Nat → Nat → Nat) (cI cZ cC cJ cD : ClassId) (hst : l.stackTraces = false) (d0 s0 z0 b0 q0 t0 v0 f0 r0 v_keys v_firsts v_ends v_values v_inferred v_gone f_keys f_days f_amounts f_versions r_keys r_days r_values o0 : Nat) (sz : Nat) (dhasSaved : Int32) (dkeptError : Int32) (dmoved : Int32) (vkeys : Nat → Int32) (vfirsts : Nat → Int32) (vends : Nat → Int32) (vvalues : Nat → Int32) (vinferred : Nat → Int32) (vgone : Nat → Int32) (vmade : Int32) (fkeys : Nat → Int32) (fdays : Nat → Int32) (famounts : Nat → Int32) (fversions : Nat → Int32) (fcount : Int32) (rkeys : Nat → Int32) (rdays : Nat → Int32) (rvalues : Nat → Int32) (rcount : Int32) (ov : Nat → Int64) (a2 : Int32) (a3 : Int32) (a4 : Int32) (R : Int32 × tO_) (hf : f_L_isCovered a2 a3 a4 (dhasSaved, dkeptError, dmoved) () (vkeys, vfirsts, vends, vvalues, vinferred, vgone, vmade) (fkeys, fdays, famounts, fversions, fcount) (rkeys, rdays, rvalues, rcount) ov = some R) : Met l yL_isCovered wsL_isCovered rm_L_isCovered (PL_ (dC, dI) (ty_ cI cZ cC cJ cD) (wD_ d0 s0 z0 b0 q0 t0 dhasSaved dkeptError dmoved ++ wS_ s0 v0 f0 r0 ++ wV_ v0 v_keys v_firsts v_ends v_values v_inferred v_gone cI cZ vkeys vfirsts vends vvalues vinferred vgone vmade ++ wF_ f0 f_keys f_days f_amounts f_versions cI fkeys fdays famounts fversions fcount ++ wR_ r0 r_keys r_days r_values cI rkeys rdays rvalues rcount ++ wO_ o0 cJ ov) sz [.ref d0, .int a2, .int a3, .int a4, .ref o0]) (Qi_ (dC, dI) (ty_ cI cZ cC cJ cD) R.1 (wD_ d0 s0 z0 b0 q0 t0 dhasSaved dkeptError dmoved ++ wS_ s0 v0 f0 r0 ++ wV_ v0 v_keys v_firsts v_ends v_values v_inferred v_gone cI cZ vkeys vfirsts vends vvalues vinferred vgone vmade ++ wF_ f0 f_keys f_days f_amounts f_versions cI fkeys fdays famounts fversions fcount ++ wR_ r0 r_keys r_days r_values cI rkeys rdays rvalues rcount ++ wO_ o0 cJ R.2) (va_A (wD_ d0 s0 z0 b0 q0 t0 dhasSaved dkeptError dmoved ++ wS_ s0 v0 f0 r0 ++ wV_ v0 v_keys v_firsts v_ends v_values v_inferred v_gone cI cZ vkeys vfirsts vends vvalues vinferred vgone vmade ++ wF_ f0 f_keys f_days f_amounts f_versions cI fkeys fdays famounts fversions fcount ++ wR_ r0 r_keys r_days r_values cI rkeys rdays rvalues rcount ++ wO_ o0 cJ ov) sz)) 3 18 (va_A (wD_ d0 s0 z0 b0 q0 t0 dhasSaved dkeptError dmoved ++ wS_ s0 v0 f0 r0 ++ wV_ v0 v_keys v_firsts v_ends v_values v_inferred v_gone cI cZ vkeys vfirsts vends vvalues vinferred vgone vmade ++ wF_ f0 f_keys f_days f_amounts f_versions cI fkeys fdays famounts fversions fcount ++ wR_ r0 r_keys r_days r_values cI rkeys rdays rvalues rcount ++ wO_ o0 cJ ov) sz) := by
  refine metw_ (cc := cL_isCovered) (maxL := 6) (ret := (some .int)) (hh := [(0, 19, 22, 13), (0, 19, 26, 15)]) (Qcf := fun A => Qi_ (dC, dI) (ty_ cI cZ cC cJ cD) R.1 (wD_ d0 s0 z0 b0 q0 t0 dhasSaved dkeptError dmoved ++ wS_ s0 v0 f0 r0 ++ wV_ v0 v_keys v_firsts v_ends v_values v_inferred v_gone cI cZ vkeys vfirsts vends vvalues vinferred vgone vmade ++ wF_ f0 f_keys f_days f_amounts f_versions cI fkeys fdays famounts fversions fcount ++ wR_ r0 r_keys r_days r_values cI rkeys rdays rvalues rcount ++ wO_ o0 cJ R.2) A) (by decide) rfl (Nat.le_of_ble_eq_true rfl) ?_
  intro p e s m args below meth c A ls hx hb hr hts hown hlocks hml htab hA hU hN hC hP hK hD hl
  have hown : s.vm.findClass RL = some m.cls := hown
  have hl : lv_has ls 6 [(0, .ref d0), (1, .int a2), (2, .int a3), (3, .int a4), (4, .ref o0)] := hl
  have hS : va_S A s.heap s.heap [] := va_S.rf
  unfold f_L_isCovered at hf
  dsimp only at hf
  refine lv_aload hx hb dL_isCovered_0 (lv_at hl 4 rfl) ?_
  refine lv_iconst (v := 0) hx hb dL_isCovered_2 (by decide) ?_
  refine lv_aload_n hx hb dL_isCovered_3 rfl (lv_at hl 0 rfl) ?_
  refine lv_iload_n hx hb dL_isCovered_4 rfl (lv_at hl 1 rfl) ?_
  refine lv_iload_n hx hb dL_isCovered_5 rfl (lv_at hl 2 rfl) ?_
  refine lv_iload_n hx hb dL_isCovered_6 rfl (lv_at hl 3 rfl) ?_
  obtain ⟨R3, g4, hf⟩ := bd_B hf
  obtain ⟨x1, rfl⟩ : ∃ z, z = R3 := ⟨_, rfl⟩
  have hPc := hP.sub (ws' := wD_ d0 s0 z0 b0 q0 t0 dhasSaved dkeptError dmoved ++ wS_ s0 v0 f0 r0 ++ wV_ v0 v_keys v_firsts v_ends v_values v_inferred v_gone cI cZ vkeys vfirsts vends vvalues vinferred vgone vmade ++ wF_ f0 f_keys f_days f_amounts f_versions cI fkeys fdays famounts fversions fcount ++ wR_ r0 r_keys r_days r_values cI rkeys rdays rvalues rcount) [0, 1, 2, 3, 4, 5, 6, 7, 8, 9, 10, 11, 12, 13, 14, 15, 16, 17] rfl
  have hDc := hD.sub (ws' := wD_ d0 s0 z0 b0 q0 t0 dhasSaved dkeptError dmoved ++ wS_ s0 v0 f0 r0 ++ wV_ v0 v_keys v_firsts v_ends v_values v_inferred v_gone cI cZ vkeys vfirsts vends vvalues vinferred vgone vmade ++ wF_ f0 f_keys f_days f_amounts f_versions cI fkeys fdays famounts fversions fcount ++ wR_ r0 r_keys r_days r_values cI rkeys rdays rvalues rcount) [0, 1, 2, 3, 4, 5, 6, 7, 8, 9, 10, 11, 12, 13, 14, 15, 16, 17] (by decide) rfl
  have hFc := va_free (wc := wD_ d0 s0 z0 b0 q0 t0 dhasSaved dkeptError dmoved ++ wS_ s0 v0 f0 r0 ++ wV_ v0 v_keys v_firsts v_ends v_values v_inferred v_gone cI cZ vkeys vfirsts vends vvalues vinferred vgone vmade ++ wF_ f0 f_keys f_days f_amounts f_versions cI fkeys fdays famounts fversions fcount ++ wR_ r0 r_keys r_days r_values cI rkeys rdays rvalues rcount) hD hS hA [0, 1, 2, 3, 4, 5, 6, 7, 8, 9, 10, 11, 12, 13, 14, 15, 16, 17] rfl
  cases x1 with
  | error E9 =>
    by_cases c10 : E9 = "java/lang/IndexOutOfBoundsException"
    · have hf := ite_T c10 hf
      subst c10
      refine vx_calli (vx_runV (As := [.int a2, .int a3, .int a4]) (rest := [.int 0, .ref o0]) ⟨hx, hb, hml, hown, hts⟩ (c_X5_isCovered l dC dI cI cZ cC cJ cD hst d0 s0 z0 b0 q0 t0 v0 f0 r0 v_keys v_firsts v_ends v_values v_inferred v_gone f_keys f_days f_amounts f_versions r_keys r_days r_values s.heap.size dhasSaved dkeptError dmoved vkeys vfirsts vends vvalues vinferred vgone vmade fkeys fdays famounts fversions fcount rkeys rdays rvalues rcount a2 a3 a4 (Except.error "java/lang/IndexOutOfBoundsException") g4) (cwV 3 hts gL_isCovered_X5_isCovered rfl rfl rfl hs_X5_isCovered ⟨Nat.le_of_ble_eq_true rfl, Nat.le_of_ble_eq_true rfl⟩) (preVy_ (ci := 7) (q0 := 0) hPc hK hDc rfl rfl rfl rfl hS hU hN hFc hC.1) rfl rfl hl.1 rfl (lv_room (Nat.le_of_ble_eq_true rfl)) dL_isCovered_7 ⟨Nat.le_of_ble_eq_true rfl, Nat.le_of_ble_eq_true rfl⟩) hS (fun q _ h => hFc q h) hFc (fun q _ h => hFc q h) (fun E ce q11 u t H7 locs ht hvm hp hB hz1 hk1 hS hce hcv hcl => ?_) (fun z8 u t H7 locs ht hvm hw hB hz1 hk1 hS => ?_)
      · obtain ⟨hE, hB⟩ := hB
        cases hE
        obtain ⟨hP, hD⟩ := aft_ (Wr := wO_ o0 cJ ov) (Wc' := wD_ d0 s0 z0 b0 q0 t0 dhasSaved dkeptError dmoved ++ wS_ s0 v0 f0 r0 ++ wV_ v0 v_keys v_firsts v_ends v_values v_inferred v_gone cI cZ vkeys vfirsts vends vvalues vinferred vgone vmade ++ wF_ f0 f_keys f_days f_amounts f_versions cI fkeys fdays famounts fversions fcount ++ wR_ r0 r_keys r_days r_values cI rkeys rdays rvalues rcount) (W2 := wD_ d0 s0 z0 b0 q0 t0 dhasSaved dkeptError dmoved ++ wS_ s0 v0 f0 r0 ++ wV_ v0 v_keys v_firsts v_ends v_values v_inferred v_gone cI cZ vkeys vfirsts vends vvalues vinferred vgone vmade ++ wF_ f0 f_keys f_days f_amounts f_versions cI fkeys fdays famounts fversions fcount ++ wR_ r0 r_keys r_days r_values cI rkeys rdays rvalues rcount ++ wO_ o0 cJ ov) hP hD [0, 1, 2, 3, 4, 5, 6, 7, 8, 9, 10, 11, 12, 13, 14, 15, 16, 17] [18] [1, 2, 3, 4, 5, 6, 7, 8, 9, 10, 11, 12, 13, 14, 15, 16, 17, 18, 0] rfl rfl (by decide) (by decide) (by decide) hk1 hFc hB ht rfl
        refine vx_catch (name := "java/lang/IndexOutOfBoundsException") hown [] ⟨0, 19, 22, 13⟩ [⟨0, 19, 26, 15⟩] (htab.trans rfl) (fun z hz => nomatch hz) (by decide +kernel) (by decide) (hts _ (List.mem_of_getElem? (i := 1) rfl)) ((hC.1.1 "java/lang/IndexOutOfBoundsException" (by decide +kernel)).use rfl) hce hcv hcl ?_
        refine lv_astore (lv' := [(5, .ref q11), (0, .ref d0), (1, .int a2), (2, .int a3), (3, .int a4), (4, .ref o0)]) hx hb dL_isCovered_22 hl (by decide) rfl (fun ls hl => ?_)
        refine lv_iconst (v := 1) hx hb dL_isCovered_24 (by decide) ?_
        have hR := Option.some.inj hf
        subst hR
        refine W.widen (k := 3) (n := 18) (Nat.le_of_ble_eq_true rfl) (Nat.le_of_ble_eq_true rfl) ?_
        exact W.iret (v := (1 : Int32)) hx hb hr (fun t ht hW => ⟨⟨(1 : Int32), (), rfl, rfl, by rw [ht]; exact hP, va_K.moved hW.alike hK, hD⟩, hS.F ht⟩) hS.2.2 dL_isCovered_25
      · exact absurd hw (fun h => nomatch h)
    · have hf := ite_F c10 hf
      by_cases c12 : E9 = "java/lang/IllegalArgumentException"
      · have hf := ite_T c12 hf
        subst c12
        refine vx_calli (vx_runV (As := [.int a2, .int a3, .int a4]) (rest := [.int 0, .ref o0]) ⟨hx, hb, hml, hown, hts⟩ (c_X5_isCovered l dC dI cI cZ cC cJ cD hst d0 s0 z0 b0 q0 t0 v0 f0 r0 v_keys v_firsts v_ends v_values v_inferred v_gone f_keys f_days f_amounts f_versions r_keys r_days r_values s.heap.size dhasSaved dkeptError dmoved vkeys vfirsts vends vvalues vinferred vgone vmade fkeys fdays famounts fversions fcount rkeys rdays rvalues rcount a2 a3 a4 (Except.error "java/lang/IllegalArgumentException") g4) (cwV 3 hts gL_isCovered_X5_isCovered rfl rfl rfl hs_X5_isCovered ⟨Nat.le_of_ble_eq_true rfl, Nat.le_of_ble_eq_true rfl⟩) (preVy_ (ci := 7) (q0 := 0) hPc hK hDc rfl rfl rfl rfl hS hU hN hFc hC.1) rfl rfl hl.1 rfl (lv_room (Nat.le_of_ble_eq_true rfl)) dL_isCovered_7 ⟨Nat.le_of_ble_eq_true rfl, Nat.le_of_ble_eq_true rfl⟩) hS (fun q _ h => hFc q h) hFc (fun q _ h => hFc q h) (fun E ce q13 u t H7 locs ht hvm hp hB hz1 hk1 hS hce hcv hcl => ?_) (fun z8 u t H7 locs ht hvm hw hB hz1 hk1 hS => ?_)
        · obtain ⟨hE, hB⟩ := hB
          cases hE
          obtain ⟨hP, hD⟩ := aft_ (Wr := wO_ o0 cJ ov) (Wc' := wD_ d0 s0 z0 b0 q0 t0 dhasSaved dkeptError dmoved ++ wS_ s0 v0 f0 r0 ++ wV_ v0 v_keys v_firsts v_ends v_values v_inferred v_gone cI cZ vkeys vfirsts vends vvalues vinferred vgone vmade ++ wF_ f0 f_keys f_days f_amounts f_versions cI fkeys fdays famounts fversions fcount ++ wR_ r0 r_keys r_days r_values cI rkeys rdays rvalues rcount) (W2 := wD_ d0 s0 z0 b0 q0 t0 dhasSaved dkeptError dmoved ++ wS_ s0 v0 f0 r0 ++ wV_ v0 v_keys v_firsts v_ends v_values v_inferred v_gone cI cZ vkeys vfirsts vends vvalues vinferred vgone vmade ++ wF_ f0 f_keys f_days f_amounts f_versions cI fkeys fdays famounts fversions fcount ++ wR_ r0 r_keys r_days r_values cI rkeys rdays rvalues rcount ++ wO_ o0 cJ ov) hP hD [0, 1, 2, 3, 4, 5, 6, 7, 8, 9, 10, 11, 12, 13, 14, 15, 16, 17] [18] [1, 2, 3, 4, 5, 6, 7, 8, 9, 10, 11, 12, 13, 14, 15, 16, 17, 18, 0] rfl rfl (by decide) (by decide) (by decide) hk1 hFc hB ht rfl
          refine vx_catch (name := "java/lang/IllegalArgumentException") hown [⟨0, 19, 22, 13⟩] ⟨0, 19, 26, 15⟩ [] (htab.trans rfl) (fun z hz => by (rcases List.mem_cons.mp hz with rfl | hz; exact Or.inr ⟨by decide, "java/lang/IndexOutOfBoundsException", hts _ (List.mem_of_getElem? (i := 1) rfl), hC.2 "java/lang/IllegalArgumentException" (by decide +kernel) "java/lang/IndexOutOfBoundsException" (by decide +kernel) (by decide +kernel)⟩; cases hz)) (by decide +kernel) (by decide) (hts _ (List.mem_of_getElem? (i := 2) rfl)) ((hC.1.1 "java/lang/IllegalArgumentException" (by decide +kernel)).use rfl) hce hcv hcl ?_
          refine lv_astore (lv' := [(5, .ref q13), (0, .ref d0), (1, .int a2), (2, .int a3), (3, .int a4), (4, .ref o0)]) hx hb dL_isCovered_26 hl (by decide) rfl (fun ls hl => ?_)
          refine lv_iconst (v := 2) hx hb dL_isCovered_28 (by decide) ?_
          have hR := Option.some.inj hf
          subst hR
          refine W.widen (k := 3) (n := 18) (Nat.le_of_ble_eq_true rfl) (Nat.le_of_ble_eq_true rfl) ?_
          exact W.iret (v := (2 : Int32)) hx hb hr (fun t ht hW => ⟨⟨(2 : Int32), (), rfl, rfl, by rw [ht]; exact hP, va_K.moved hW.alike hK, hD⟩, hS.F ht⟩) hS.2.2 dL_isCovered_29
        · exact absurd hw (fun h => nomatch h)
      · have hf := ite_F c12 hf
        exact absurd hf (fun h => nomatch h)
  | ok r2 =>
    refine vx_calli (vx_runV (As := [.int a2, .int a3, .int a4]) (rest := [.int 0, .ref o0]) ⟨hx, hb, hml, hown, hts⟩ (c_X5_isCovered l dC dI cI cZ cC cJ cD hst d0 s0 z0 b0 q0 t0 v0 f0 r0 v_keys v_firsts v_ends v_values v_inferred v_gone f_keys f_days f_amounts f_versions r_keys r_days r_values s.heap.size dhasSaved dkeptError dmoved vkeys vfirsts vends vvalues vinferred vgone vmade fkeys fdays famounts fversions fcount rkeys rdays rvalues rcount a2 a3 a4 (Except.ok r2) g4) (cwV 3 hts gL_isCovered_X5_isCovered rfl rfl rfl hs_X5_isCovered ⟨Nat.le_of_ble_eq_true rfl, Nat.le_of_ble_eq_true rfl⟩) (preVy_ (ci := 7) (q0 := 0) hPc hK hDc rfl rfl rfl rfl hS hU hN hFc hC.1) rfl rfl hl.1 rfl (lv_room (Nat.le_of_ble_eq_true rfl)) dL_isCovered_7 ⟨Nat.le_of_ble_eq_true rfl, Nat.le_of_ble_eq_true rfl⟩) hS (fun q _ h => hFc q h) hFc (fun q _ h => hFc q h) (fun E ce q9 u t H7 locs ht hvm hp hB hz1 hk1 hS hce hcv hcl => ?_) (fun z8 u t H7 locs ht hvm hw hB hz1 hk1 hS => ?_)
    · exact absurd hB.1 (fun h => nomatch h)
    · have hw : r2 = z8 := Except.ok.inj hw
      subst hw
      obtain ⟨hP, hD⟩ := aft_ (Wr := wO_ o0 cJ ov) (Wc' := wD_ d0 s0 z0 b0 q0 t0 dhasSaved dkeptError dmoved ++ wS_ s0 v0 f0 r0 ++ wV_ v0 v_keys v_firsts v_ends v_values v_inferred v_gone cI cZ vkeys vfirsts vends vvalues vinferred vgone vmade ++ wF_ f0 f_keys f_days f_amounts f_versions cI fkeys fdays famounts fversions fcount ++ wR_ r0 r_keys r_days r_values cI rkeys rdays rvalues rcount) (W2 := wD_ d0 s0 z0 b0 q0 t0 dhasSaved dkeptError dmoved ++ wS_ s0 v0 f0 r0 ++ wV_ v0 v_keys v_firsts v_ends v_values v_inferred v_gone cI cZ vkeys vfirsts vends vvalues vinferred vgone vmade ++ wF_ f0 f_keys f_days f_amounts f_versions cI fkeys fdays famounts fversions fcount ++ wR_ r0 r_keys r_days r_values cI rkeys rdays rvalues rcount ++ wO_ o0 cJ ov) hP hD [0, 1, 2, 3, 4, 5, 6, 7, 8, 9, 10, 11, 12, 13, 14, 15, 16, 17] [18] [1, 2, 3, 4, 5, 6, 7, 8, 9, 10, 11, 12, 13, 14, 15, 16, 17, 18, 0] rfl rfl (by decide) (by decide) (by decide) hk1 hFc hB ht rfl
      refine lv_if_eq (tgt := 17) hx hb dL_isCovered_10 (by decide) (fun c14 => ?_) (fun c14 => ?_)
      · have hf := ite_T c14 hf
        refine lv_lconst (v := 0) hx hb dL_isCovered_17 (by decide) ?_
        obtain ⟨h15, hf⟩ := gd_T hf
        refine va_last hx hb hK hP hD hS 18 3 rfl rfl h15 dL_isCovered_18 (fun H16 locs hP hD hS => ?_)
        have hP : va_P (dC, dI) vwCl (wD_ d0 s0 z0 b0 q0 t0 dhasSaved dkeptError dmoved ++ wS_ s0 v0 f0 r0 ++ wV_ v0 v_keys v_firsts v_ends v_values v_inferred v_gone cI cZ vkeys vfirsts vends vvalues vinferred vgone vmade ++ wF_ f0 f_keys f_days f_amounts f_versions cI fkeys fdays famounts fversions fcount ++ wR_ r0 r_keys r_days r_values cI rkeys rdays rvalues rcount ++ wO_ o0 cJ (vp_updL ov ((0 : Int32).toNatClampNeg) (0 : Int64))) H16 := hP
        have hD : va_D A (wD_ d0 s0 z0 b0 q0 t0 dhasSaved dkeptError dmoved ++ wS_ s0 v0 f0 r0 ++ wV_ v0 v_keys v_firsts v_ends v_values v_inferred v_gone cI cZ vkeys vfirsts vends vvalues vinferred vgone vmade ++ wF_ f0 f_keys f_days f_amounts f_versions cI fkeys fdays famounts fversions fcount ++ wR_ r0 r_keys r_days r_values cI rkeys rdays rvalues rcount ++ wO_ o0 cJ (vp_updL ov ((0 : Int32).toNatClampNeg) (0 : Int64))) := hD
        obtain ⟨u17, e18, hf⟩ := nm_T hf
        rw [← e18] at hP hD
        refine lv_goto (tgt := 30) hx hb dL_isCovered_19 (by decide) ?_
        refine lv_iconst (v := 0) hx hb dL_isCovered_30 (by decide) ?_
        have hR := Option.some.inj hf
        subst hR
        refine W.widen (k := 3) (n := 18) (Nat.le_of_ble_eq_true rfl) (Nat.le_of_ble_eq_true rfl) ?_
        exact W.iret (v := (0 : Int32)) hx hb hr (fun t ht hW => ⟨⟨(0 : Int32), (), rfl, rfl, by rw [ht]; exact hP, va_K.moved hW.alike hK, hD⟩, hS.F ht⟩) hS.2.2 dL_isCovered_31
      · have hf := ite_F c14 hf
        refine lv_lconst (v := 1) hx hb dL_isCovered_13 (by decide) ?_
        refine lv_goto (tgt := 18) hx hb dL_isCovered_14 (by decide) ?_
        obtain ⟨h19, hf⟩ := gd_T hf
        refine va_last hx hb hK hP hD hS 18 3 rfl rfl h19 dL_isCovered_18 (fun H20 locs hP hD hS => ?_)
        have hP : va_P (dC, dI) vwCl (wD_ d0 s0 z0 b0 q0 t0 dhasSaved dkeptError dmoved ++ wS_ s0 v0 f0 r0 ++ wV_ v0 v_keys v_firsts v_ends v_values v_inferred v_gone cI cZ vkeys vfirsts vends vvalues vinferred vgone vmade ++ wF_ f0 f_keys f_days f_amounts f_versions cI fkeys fdays famounts fversions fcount ++ wR_ r0 r_keys r_days r_values cI rkeys rdays rvalues rcount ++ wO_ o0 cJ (vp_updL ov ((0 : Int32).toNatClampNeg) (1 : Int64))) H20 := hP
        have hD : va_D A (wD_ d0 s0 z0 b0 q0 t0 dhasSaved dkeptError dmoved ++ wS_ s0 v0 f0 r0 ++ wV_ v0 v_keys v_firsts v_ends v_values v_inferred v_gone cI cZ vkeys vfirsts vends vvalues vinferred vgone vmade ++ wF_ f0 f_keys f_days f_amounts f_versions cI fkeys fdays famounts fversions fcount ++ wR_ r0 r_keys r_days r_values cI rkeys rdays rvalues rcount ++ wO_ o0 cJ (vp_updL ov ((0 : Int32).toNatClampNeg) (1 : Int64))) := hD
        obtain ⟨u21, e22, hf⟩ := nm_T hf
        rw [← e22] at hP hD
        refine lv_goto (tgt := 30) hx hb dL_isCovered_19 (by decide) ?_
        refine lv_iconst (v := 0) hx hb dL_isCovered_30 (by decide) ?_
        have hR := Option.some.inj hf
        subst hR
        refine W.widen (k := 3) (n := 18) (Nat.le_of_ble_eq_true rfl) (Nat.le_of_ble_eq_true rfl) ?_
        exact W.iret (v := (0 : Int32)) hx hb hr (fun t ht hW => ⟨⟨(0 : Int32), (), rfl, rfl, by rw [ht]; exact hP, va_K.moved hW.alike hK, hD⟩, hS.F ht⟩) hS.2.2 dL_isCovered_31
theorem hs_L_isCovered : yL_isCovered.cls ≠ "java/lang/invoke/MethodHandle" ∧ yL_isCovered.cls ≠ "java/lang/invoke/VarHandle" ∧ (parseMethodDescriptor yL_isCovered.desc).map (fun d => d.parameters.length) = some 5 := by decide +kernel
def f_L_stage (a2 : Int32) (a3 : Int32) (a4 : Int32) (D_ : tD_) (S_ : tS_) (V_ : tV_) (F_ : tF_) (R_ : tR_) (ov : tO_) : Option (Int32 × tR_ × tO_) :=
match D_ with
| (dhasSaved, dkeptError, dmoved) =>
match V_ with
| (vkeys, vfirsts, vends, vvalues, vinferred, vgone, vmade) =>
match F_ with
| (fkeys, fdays, famounts, fversions, fcount) =>
match R_ with
| (rkeys, rdays, rvalues, rcount) =>
bd_ (f_X5_stage a2 a3 a4 (dhasSaved, dkeptError, dmoved) () (vkeys, vfirsts, vends, vvalues, vinferred, vgone, vmade) (fkeys, fdays, famounts, fversions, fcount) (rkeys, rdays, rvalues, rcount)) (fun (x1, (rk3, rd4, rv5, rc6)) =>
match x1 with
| Except.error E13 => (if E13 = "java/lang/IndexOutOfBoundsException" then some ((1 : Int32), (rk3, rd4, rv5, rc6), ov) else (if E13 = "java/lang/IllegalArgumentException" then some ((2 : Int32), (rk3, rd4, rv5, rc6), ov) else (if E13 = "java/lang/IllegalStateException" then some ((3 : Int32), (rk3, rd4, rv5, rc6), ov) else none)))
| Except.ok r2 =>
gd_ (0 : Int32) 1 (nm_ (vp_updL ov ((0 : Int32).toNatClampNeg) r2.toInt64) (fun u22 =>
some ((0 : Int32), (rk3, rd4, rv5, rc6), u22))))
abbrev rm_L_stage : Room := { frames := 8, cells := 3, slots := 18, locals := 132 }
set_option maxHeartbeats 4000000 in
set_option maxRecDepth 100000 in
theorem c_L_stage (l : Launch) (dC : Nat → ClassId) (dI : Nat → Nat → Nat) (cI cZ cC cJ cD : ClassId) (hst : l.stackTraces = false) (d0 s0 z0 b0 q0 t0 v0 f0 r0 v_keys v_firsts v_ends v_values v_inferred v_gone f_keys f_days f_amounts f_versions r_keys r_days r_values o0 : Nat) (sz : Nat) (dhasSaved : Int32) (dkeptError : Int32) (dmoved : Int32) (vkeys : Nat → Int32) (vfirsts : Nat → Int32) (vends : Nat → Int32) (vvalues : Nat → Int32) (vinferred : Nat → Int32) (vgone : Nat → Int32) (vmade : Int32) (fkeys : Nat → Int32) (fdays : Nat → Int32) (famounts : Nat → Int32) (fversions : Nat → Int32) (fcount : Int32) (rkeys : Nat → Int32) (rdays : Nat → Int32) (rvalues : Nat → Int32) (rcount : Int32) (ov : Nat → Int64) (a2 : Int32) (a3 : Int32) (a4 : Int32) (R : Int32 × tR_ × tO_) (hf : f_L_stage a2 a3 a4 (dhasSaved, dkeptError, dmoved) () (vkeys, vfirsts, vends, vvalues, vinferred, vgone, vmade) (fkeys, fdays, famounts, fversions, fcount) (rkeys, rdays, rvalues, rcount) ov = some R) : Met l yL_stage wsL_stage rm_L_stage (PL_ (dC, dI) (ty_ cI cZ cC cJ cD) (wD_ d0 s0 z0 b0 q0 t0 dhasSaved dkeptError dmoved ++ wS_ s0 v0 f0 r0 ++ wV_ v0 v_keys v_firsts v_ends v_values v_inferred v_gone cI cZ vkeys vfirsts vends vvalues vinferred vgone vmade ++ wF_ f0 f_keys f_days f_amounts f_versions cI fkeys fdays famounts fversions fcount ++ wR_ r0 r_keys r_days r_values cI rkeys rdays rvalues rcount ++ wO_ o0 cJ ov) sz [.ref d0, .int a2, .int a3, .int a4, .ref o0]) (Qi_ (dC, dI) (ty_ cI cZ cC cJ cD) R.1 (wD_ d0 s0 z0 b0 q0 t0 dhasSaved dkeptError dmoved ++ wS_ s0 v0 f0 r0 ++ wV_ v0 v_keys v_firsts v_ends v_values v_inferred v_gone cI cZ vkeys vfirsts vends vvalues vinferred vgone vmade ++ wF_ f0 f_keys f_days f_amounts f_versions cI fkeys fdays famounts fversions fcount ++ wR_ r0 r_keys r_days r_values cI R.2.1.1 R.2.1.2.1 R.2.1.2.2.1 R.2.1.2.2.2 ++ wO_ o0 cJ R.2.2) (va_A (wD_ d0 s0 z0 b0 q0 t0 dhasSaved dkeptError dmoved ++ wS_ s0 v0 f0 r0 ++ wV_ v0 v_keys v_firsts v_ends v_values v_inferred v_gone cI cZ vkeys vfirsts vends vvalues vinferred vgone vmade ++ wF_ f0 f_keys f_days f_amounts f_versions cI fkeys fdays famounts fversions fcount ++ wR_ r0 r_keys r_days r_values cI rkeys rdays rvalues rcount ++ wO_ o0 cJ ov) sz)) 3 18 (va_A (wD_ d0 s0 z0 b0 q0 t0 dhasSaved dkeptError dmoved ++ wS_ s0 v0 f0 r0 ++ wV_ v0 v_keys v_firsts v_ends v_values v_inferred v_gone cI cZ vkeys vfirsts vends vvalues vinferred vgone vmade ++ wF_ f0 f_keys f_days f_amounts f_versions cI fkeys fdays famounts fversions fcount ++ wR_ r0 r_keys r_days r_values cI rkeys rdays rvalues rcount ++ wO_ o0 cJ ov) sz) := by
  refine metw_ (cc := cL_stage) (maxL := 6) (ret := (some .int)) (hh := [(0, 12, 15, 13), (0, 12, 19, 15), (0, 12, 23, 17)]) (Qcf := fun A => Qi_ (dC, dI) (ty_ cI cZ cC cJ cD) R.1 (wD_ d0 s0 z0 b0 q0 t0 dhasSaved dkeptError dmoved ++ wS_ s0 v0 f0 r0 ++ wV_ v0 v_keys v_firsts v_ends v_values v_inferred v_gone cI cZ vkeys vfirsts vends vvalues vinferred vgone vmade ++ wF_ f0 f_keys f_days f_amounts f_versions cI fkeys fdays famounts fversions fcount ++ wR_ r0 r_keys r_days r_values cI R.2.1.1 R.2.1.2.1 R.2.1.2.2.1 R.2.1.2.2.2 ++ wO_ o0 cJ R.2.2) A) (by decide) rfl (Nat.le_of_ble_eq_true rfl) ?_
  intro p e s m args below meth c A ls hx hb hr hts hown hlocks hml htab hA hU hN hC hP hK hD hl
  have hown : s.vm.findClass RL = some m.cls := hown
  have hl : lv_has ls 6 [(0, .ref d0), (1, .int a2), (2, .int a3), (3, .int a4), (4, .ref o0)] := hl
  have hS : va_S A s.heap s.heap [] := va_S.rf
  unfold f_L_stage at hf
  dsimp only at hf
  refine lv_aload hx hb dL_stage_0 (lv_at hl 4 rfl) ?_
  refine lv_iconst (v := 0) hx hb dL_stage_2 (by decide) ?_
  refine lv_aload_n hx hb dL_stage_3 rfl (lv_at hl 0 rfl) ?_
  refine lv_iload_n hx hb dL_stage_4 rfl (lv_at hl 1 rfl) ?_
  refine lv_iload_n hx hb dL_stage_5 rfl (lv_at hl 2 rfl) ?_
  refine lv_iload_n hx hb dL_stage_6 rfl (lv_at hl 3 rfl) ?_
  obtain ⟨R7, g8, hf⟩ := bd_B hf
  obtain ⟨x1, ⟨rk3, rd4, rv5, rc6⟩⟩ := R7
  dsimp only at hf
  have hPc := hP.sub (ws' := wD_ d0 s0 z0 b0 q0 t0 dhasSaved dkeptError dmoved ++ wS_ s0 v0 f0 r0 ++ wV_ v0 v_keys v_firsts v_ends v_values v_inferred v_gone cI cZ vkeys vfirsts vends vvalues vinferred vgone vmade ++ wF_ f0 f_keys f_days f_amounts f_versions cI fkeys fdays famounts fversions fcount ++ wR_ r0 r_keys r_days r_values cI rkeys rdays rvalues rcount) [0, 1, 2, 3, 4, 5, 6, 7, 8, 9, 10, 11, 12, 13, 14, 15, 16, 17] rfl
  have hDc := hD.sub (ws' := wD_ d0 s0 z0 b0 q0 t0 dhasSaved dkeptError dmoved ++ wS_ s0 v0 f0 r0 ++ wV_ v0 v_keys v_firsts v_ends v_values v_inferred v_gone cI cZ vkeys vfirsts vends vvalues vinferred vgone vmade ++ wF_ f0 f_keys f_days f_amounts f_versions cI fkeys fdays famounts fversions fcount ++ wR_ r0 r_keys r_days r_values cI rkeys rdays rvalues rcount) [0, 1, 2, 3, 4, 5, 6, 7, 8, 9, 10, 11, 12, 13, 14, 15, 16, 17] (by decide) rfl
  have hFc := va_free (wc := wD_ d0 s0 z0 b0 q0 t0 dhasSaved dkeptError dmoved ++ wS_ s0 v0 f0 r0 ++ wV_ v0 v_keys v_firsts v_ends v_values v_inferred v_gone cI cZ vkeys vfirsts vends vvalues vinferred vgone vmade ++ wF_ f0 f_keys f_days f_amounts f_versions cI fkeys fdays famounts fversions fcount ++ wR_ r0 r_keys r_days r_values cI rkeys rdays rvalues rcount) hD hS hA [0, 1, 2, 3, 4, 5, 6, 7, 8, 9, 10, 11, 12, 13, 14, 15, 16, 17] rfl
  cases x1 with
  | error E13 =>
    by_cases c14 : E13 = "java/lang/IndexOutOfBoundsException"
    · have hf := ite_T c14 hf
      subst c14
      refine vx_calli (vx_runV (As := [.int a2, .int a3, .int a4]) (rest := [.int 0, .ref o0]) ⟨hx, hb, hml, hown, hts⟩ (c_X5_stage l dC dI cI cZ cC cJ cD hst d0 s0 z0 b0 q0 t0 v0 f0 r0 v_keys v_firsts v_ends v_values v_inferred v_gone f_keys f_days f_amounts f_versions r_keys r_days r_values s.heap.size dhasSaved dkeptError dmoved vkeys vfirsts vends vvalues vinferred vgone vmade fkeys fdays famounts fversions fcount rkeys rdays rvalues rcount a2 a3 a4 ((Except.error "java/lang/IndexOutOfBoundsException"), (rk3, rd4, rv5, rc6)) g8) (cwV 3 hts gL_stage_X5_stage rfl rfl rfl hs_X5_stage ⟨Nat.le_of_ble_eq_true rfl, Nat.le_of_ble_eq_true rfl⟩) (preVy_ (ci := 7) (q0 := 0) hPc hK hDc rfl rfl rfl rfl hS hU hN hFc hC.1) rfl rfl hl.1 rfl (lv_room (Nat.le_of_ble_eq_true rfl)) dL_stage_7 ⟨Nat.le_of_ble_eq_true rfl, Nat.le_of_ble_eq_true rfl⟩) hS (fun q _ h => hFc q h) hFc (fun q _ h => hFc q h) (fun E ce q15 u t H11 locs ht hvm hp hB hz1 hk1 hS hce hcv hcl => ?_) (fun z12 u t H11 locs ht hvm hw hB hz1 hk1 hS => ?_)
      · obtain ⟨hE, hB⟩ := hB
        cases hE
        obtain ⟨hP, hD⟩ := aft_ (Wr := wO_ o0 cJ ov) (Wc' := wD_ d0 s0 z0 b0 q0 t0 dhasSaved dkeptError dmoved ++ wS_ s0 v0 f0 r0 ++ wV_ v0 v_keys v_firsts v_ends v_values v_inferred v_gone cI cZ vkeys vfirsts vends vvalues vinferred vgone vmade ++ wF_ f0 f_keys f_days f_amounts f_versions cI fkeys fdays famounts fversions fcount ++ wR_ r0 r_keys r_days r_values cI rk3 rd4 rv5 rc6) (W2 := wD_ d0 s0 z0 b0 q0 t0 dhasSaved dkeptError dmoved ++ wS_ s0 v0 f0 r0 ++ wV_ v0 v_keys v_firsts v_ends v_values v_inferred v_gone cI cZ vkeys vfirsts vends vvalues vinferred vgone vmade ++ wF_ f0 f_keys f_days f_amounts f_versions cI fkeys fdays famounts fversions fcount ++ wR_ r0 r_keys r_days r_values cI rk3 rd4 rv5 rc6 ++ wO_ o0 cJ ov) hP hD [0, 1, 2, 3, 4, 5, 6, 7, 8, 9, 10, 11, 12, 13, 14, 15, 16, 17] [18] [1, 2, 3, 4, 5, 6, 7, 8, 9, 10, 11, 12, 13, 14, 15, 16, 17, 18, 0] rfl rfl (by decide) (by decide) (by decide) hk1 hFc hB ht rfl
        refine vx_catch (name := "java/lang/IndexOutOfBoundsException") hown [] ⟨0, 12, 15, 13⟩ [⟨0, 12, 19, 15⟩, ⟨0, 12, 23, 17⟩] (htab.trans rfl) (fun z hz => nomatch hz) (by decide +kernel) (by decide) (hts _ (List.mem_of_getElem? (i := 1) rfl)) ((hC.1.1 "java/lang/IndexOutOfBoundsException" (by decide +kernel)).use rfl) hce hcv hcl ?_
        refine lv_astore (lv' := [(5, .ref q15), (0, .ref d0), (1, .int a2), (2, .int a3), (3, .int a4), (4, .ref o0)]) hx hb dL_stage_15 hl (by decide) rfl (fun ls hl => ?_)
        refine lv_iconst (v := 1) hx hb dL_stage_17 (by decide) ?_
        have hR := Option.some.inj hf
        subst hR
        refine W.widen (k := 3) (n := 18) (Nat.le_of_ble_eq_true rfl) (Nat.le_of_ble_eq_true rfl) ?_
        exact W.iret (v := (1 : Int32)) hx hb hr (fun t ht hW => ⟨⟨(1 : Int32), (), rfl, rfl, by rw [ht]; exact hP, va_K.moved hW.alike hK, hD⟩, hS.F ht⟩) hS.2.2 dL_stage_18
      · exact absurd hw (fun h => nomatch h)
    · have hf := ite_F c14 hf
      by_cases c16 : E13 = "java/lang/IllegalArgumentException"
      · have hf := ite_T c16 hf
        subst c16
        refine vx_calli (vx_runV (As := [.int a2, .int a3, .int a4]) (rest := [.int 0, .ref o0]) ⟨hx, hb, hml, hown, hts⟩ (c_X5_stage l dC dI cI cZ cC cJ cD hst d0 s0 z0 b0 q0 t0 v0 f0 r0 v_keys v_firsts v_ends v_values v_inferred v_gone f_keys f_days f_amounts f_versions r_keys r_days r_values s.heap.size dhasSaved dkeptError dmoved vkeys vfirsts vends vvalues vinferred vgone vmade fkeys fdays famounts fversions fcount rkeys rdays rvalues rcount a2 a3 a4 ((Except.error "java/lang/IllegalArgumentException"), (rk3, rd4, rv5, rc6)) g8) (cwV 3 hts gL_stage_X5_stage rfl rfl rfl hs_X5_stage ⟨Nat.le_of_ble_eq_true rfl, Nat.le_of_ble_eq_true rfl⟩) (preVy_ (ci := 7) (q0 := 0) hPc hK hDc rfl rfl rfl rfl hS hU hN hFc hC.1) rfl rfl hl.1 rfl (lv_room (Nat.le_of_ble_eq_true rfl)) dL_stage_7 ⟨Nat.le_of_ble_eq_true rfl, Nat.le_of_ble_eq_true rfl⟩) hS (fun q _ h => hFc q h) hFc (fun q _ h => hFc q h) (fun E ce q17 u t H11 locs ht hvm hp hB hz1 hk1 hS hce hcv hcl => ?_) (fun z12 u t H11 locs ht hvm hw hB hz1 hk1 hS => ?_)
        · obtain ⟨hE, hB⟩ := hB
          cases hE
          obtain ⟨hP, hD⟩ := aft_ (Wr := wO_ o0 cJ ov) (Wc' := wD_ d0 s0 z0 b0 q0 t0 dhasSaved dkeptError dmoved ++ wS_ s0 v0 f0 r0 ++ wV_ v0 v_keys v_firsts v_ends v_values v_inferred v_gone cI cZ vkeys vfirsts vends vvalues vinferred vgone vmade ++ wF_ f0 f_keys f_days f_amounts f_versions cI fkeys fdays famounts fversions fcount ++ wR_ r0 r_keys r_days r_values cI rk3 rd4 rv5 rc6) (W2 := wD_ d0 s0 z0 b0 q0 t0 dhasSaved dkeptError dmoved ++ wS_ s0 v0 f0 r0 ++ wV_ v0 v_keys v_firsts v_ends v_values v_inferred v_gone cI cZ vkeys vfirsts vends vvalues vinferred vgone vmade ++ wF_ f0 f_keys f_days f_amounts f_versions cI fkeys fdays famounts fversions fcount ++ wR_ r0 r_keys r_days r_values cI rk3 rd4 rv5 rc6 ++ wO_ o0 cJ ov) hP hD [0, 1, 2, 3, 4, 5, 6, 7, 8, 9, 10, 11, 12, 13, 14, 15, 16, 17] [18] [1, 2, 3, 4, 5, 6, 7, 8, 9, 10, 11, 12, 13, 14, 15, 16, 17, 18, 0] rfl rfl (by decide) (by decide) (by decide) hk1 hFc hB ht rfl
          refine vx_catch (name := "java/lang/IllegalArgumentException") hown [⟨0, 12, 15, 13⟩] ⟨0, 12, 19, 15⟩ [⟨0, 12, 23, 17⟩] (htab.trans rfl) (fun z hz => by (rcases List.mem_cons.mp hz with rfl | hz; exact Or.inr ⟨by decide, "java/lang/IndexOutOfBoundsException", hts _ (List.mem_of_getElem? (i := 1) rfl), hC.2 "java/lang/IllegalArgumentException" (by decide +kernel) "java/lang/IndexOutOfBoundsException" (by decide +kernel) (by decide +kernel)⟩; cases hz)) (by decide +kernel) (by decide) (hts _ (List.mem_of_getElem? (i := 2) rfl)) ((hC.1.1 "java/lang/IllegalArgumentException" (by decide +kernel)).use rfl) hce hcv hcl ?_
          refine lv_astore (lv' := [(5, .ref q17), (0, .ref d0), (1, .int a2), (2, .int a3), (3, .int a4), (4, .ref o0)]) hx hb dL_stage_19 hl (by decide) rfl (fun ls hl => ?_)
          refine lv_iconst (v := 2) hx hb dL_stage_21 (by decide) ?_
          have hR := Option.some.inj hf
          subst hR
          refine W.widen (k := 3) (n := 18) (Nat.le_of_ble_eq_true rfl) (Nat.le_of_ble_eq_true rfl) ?_
          exact W.iret (v := (2 : Int32)) hx hb hr (fun t ht hW => ⟨⟨(2 : Int32), (), rfl, rfl, by rw [ht]; exact hP, va_K.moved hW.alike hK, hD⟩, hS.F ht⟩) hS.2.2 dL_stage_22
        · exact absurd hw (fun h => nomatch h)
      · have hf := ite_F c16 hf
        by_cases c18 : E13 = "java/lang/IllegalStateException"
        · have hf := ite_T c18 hf
          subst c18
          refine vx_calli (vx_runV (As := [.int a2, .int a3, .int a4]) (rest := [.int 0, .ref o0]) ⟨hx, hb, hml, hown, hts⟩ (c_X5_stage l dC dI cI cZ cC cJ cD hst d0 s0 z0 b0 q0 t0 v0 f0 r0 v_keys v_firsts v_ends v_values v_inferred v_gone f_keys f_days f_amounts f_versions r_keys r_days r_values s.heap.size dhasSaved dkeptError dmoved vkeys vfirsts vends vvalues vinferred vgone vmade fkeys fdays famounts fversions fcount rkeys rdays rvalues rcount a2 a3 a4 ((Except.error "java/lang/IllegalStateException"), (rk3, rd4, rv5, rc6)) g8) (cwV 3 hts gL_stage_X5_stage rfl rfl rfl hs_X5_stage ⟨Nat.le_of_ble_eq_true rfl, Nat.le_of_ble_eq_true rfl⟩) (preVy_ (ci := 7) (q0 := 0) hPc hK hDc rfl rfl rfl rfl hS hU hN hFc hC.1) rfl rfl hl.1 rfl (lv_room (Nat.le_of_ble_eq_true rfl)) dL_stage_7 ⟨Nat.le_of_ble_eq_true rfl, Nat.le_of_ble_eq_true rfl⟩) hS (fun q _ h => hFc q h) hFc (fun q _ h => hFc q h) (fun E ce q19 u t H11 locs ht hvm hp hB hz1 hk1 hS hce hcv hcl => ?_) (fun z12 u t H11 locs ht hvm hw hB hz1 hk1 hS => ?_)
          · obtain ⟨hE, hB⟩ := hB
            cases hE
            obtain ⟨hP, hD⟩ := aft_ (Wr := wO_ o0 cJ ov) (Wc' := wD_ d0 s0 z0 b0 q0 t0 dhasSaved dkeptError dmoved ++ wS_ s0 v0 f0 r0 ++ wV_ v0 v_keys v_firsts v_ends v_values v_inferred v_gone cI cZ vkeys vfirsts vends vvalues vinferred vgone vmade ++ wF_ f0 f_keys f_days f_amounts f_versions cI fkeys fdays famounts fversions fcount ++ wR_ r0 r_keys r_days r_values cI rk3 rd4 rv5 rc6) (W2 := wD_ d0 s0 z0 b0 q0 t0 dhasSaved dkeptError dmoved ++ wS_ s0 v0 f0 r0 ++ wV_ v0 v_keys v_firsts v_ends v_values v_inferred v_gone cI cZ vkeys vfirsts vends vvalues vinferred vgone vmade ++ wF_ f0 f_keys f_days f_amounts f_versions cI fkeys fdays famounts fversions fcount ++ wR_ r0 r_keys r_days r_values cI rk3 rd4 rv5 rc6 ++ wO_ o0 cJ ov) hP hD [0, 1, 2, 3, 4, 5, 6, 7, 8, 9, 10, 11, 12, 13, 14, 15, 16, 17] [18] [1, 2, 3, 4, 5, 6, 7, 8, 9, 10, 11, 12, 13, 14, 15, 16, 17, 18, 0] rfl rfl (by decide) (by decide) (by decide) hk1 hFc hB ht rfl
            refine vx_catch (name := "java/lang/IllegalStateException") hown [⟨0, 12, 15, 13⟩, ⟨0, 12, 19, 15⟩] ⟨0, 12, 23, 17⟩ [] (htab.trans rfl) (fun z hz => by (rcases List.mem_cons.mp hz with rfl | hz; exact Or.inr ⟨by decide, "java/lang/IndexOutOfBoundsException", hts _ (List.mem_of_getElem? (i := 1) rfl), hC.2 "java/lang/IllegalStateException" (by decide +kernel) "java/lang/IndexOutOfBoundsException" (by decide +kernel) (by decide +kernel)⟩; rcases List.mem_cons.mp hz with rfl | hz; exact Or.inr ⟨by decide, "java/lang/IllegalArgumentException", hts _ (List.mem_of_getElem? (i := 2) rfl), hC.2 "java/lang/IllegalStateException" (by decide +kernel) "java/lang/IllegalArgumentException" (by decide +kernel) (by decide +kernel)⟩; cases hz)) (by decide +kernel) (by decide) (hts _ (List.mem_of_getElem? (i := 3) rfl)) ((hC.1.1 "java/lang/IllegalStateException" (by decide +kernel)).use rfl) hce hcv hcl ?_
            refine lv_astore (lv' := [(5, .ref q19), (0, .ref d0), (1, .int a2), (2, .int a3), (3, .int a4), (4, .ref o0)]) hx hb dL_stage_23 hl (by decide) rfl (fun ls hl => ?_)
            refine lv_iconst (v := 3) hx hb dL_stage_25 (by decide) ?_
            have hR := Option.some.inj hf
            subst hR
            refine W.widen (k := 3) (n := 18) (Nat.le_of_ble_eq_true rfl) (Nat.le_of_ble_eq_true rfl) ?_
            exact W.iret (v := (3 : Int32)) hx hb hr (fun t ht hW => ⟨⟨(3 : Int32), (), rfl, rfl, by rw [ht]; exact hP, va_K.moved hW.alike hK, hD⟩, hS.F ht⟩) hS.2.2 dL_stage_26
          · exact absurd hw (fun h => nomatch h)
        · have hf := ite_F c18 hf
          exact absurd hf (fun h => nomatch h)
  | ok r2 =>
    refine vx_calli (vx_runV (As := [.int a2, .int a3, .int a4]) (rest := [.int 0, .ref o0]) ⟨hx, hb, hml, hown, hts⟩ (c_X5_stage l dC dI cI cZ cC cJ cD hst d0 s0 z0 b0 q0 t0 v0 f0 r0 v_keys v_firsts v_ends v_values v_inferred v_gone f_keys f_days f_amounts f_versions r_keys r_days r_values s.heap.size dhasSaved dkeptError dmoved vkeys vfirsts vends vvalues vinferred vgone vmade fkeys fdays famounts fversions fcount rkeys rdays rvalues rcount a2 a3 a4 ((Except.ok r2), (rk3, rd4, rv5, rc6)) g8) (cwV 3 hts gL_stage_X5_stage rfl rfl rfl hs_X5_stage ⟨Nat.le_of_ble_eq_true rfl, Nat.le_of_ble_eq_true rfl⟩) (preVy_ (ci := 7) (q0 := 0) hPc hK hDc rfl rfl rfl rfl hS hU hN hFc hC.1) rfl rfl hl.1 rfl (lv_room (Nat.le_of_ble_eq_true rfl)) dL_stage_7 ⟨Nat.le_of_ble_eq_true rfl, Nat.le_of_ble_eq_true rfl⟩) hS (fun q _ h => hFc q h) hFc (fun q _ h => hFc q h) (fun E ce q9 u t H11 locs ht hvm hp hB hz1 hk1 hS hce hcv hcl => ?_) (fun z12 u t H11 locs ht hvm hw hB hz1 hk1 hS => ?_)
    · exact absurd hB.1 (fun h => nomatch h)
    · have hw : r2 = z12 := Except.ok.inj hw
      subst hw
      obtain ⟨hP, hD⟩ := aft_ (Wr := wO_ o0 cJ ov) (Wc' := wD_ d0 s0 z0 b0 q0 t0 dhasSaved dkeptError dmoved ++ wS_ s0 v0 f0 r0 ++ wV_ v0 v_keys v_firsts v_ends v_values v_inferred v_gone cI cZ vkeys vfirsts vends vvalues vinferred vgone vmade ++ wF_ f0 f_keys f_days f_amounts f_versions cI fkeys fdays famounts fversions fcount ++ wR_ r0 r_keys r_days r_values cI rk3 rd4 rv5 rc6) (W2 := wD_ d0 s0 z0 b0 q0 t0 dhasSaved dkeptError dmoved ++ wS_ s0 v0 f0 r0 ++ wV_ v0 v_keys v_firsts v_ends v_values v_inferred v_gone cI cZ vkeys vfirsts vends vvalues vinferred vgone vmade ++ wF_ f0 f_keys f_days f_amounts f_versions cI fkeys fdays famounts fversions fcount ++ wR_ r0 r_keys r_days r_values cI rk3 rd4 rv5 rc6 ++ wO_ o0 cJ ov) hP hD [0, 1, 2, 3, 4, 5, 6, 7, 8, 9, 10, 11, 12, 13, 14, 15, 16, 17] [18] [1, 2, 3, 4, 5, 6, 7, 8, 9, 10, 11, 12, 13, 14, 15, 16, 17, 18, 0] rfl rfl (by decide) (by decide) (by decide) hk1 hFc hB ht rfl
      refine lv_i2l hx hb dL_stage_10 rfl ?_
      obtain ⟨h20, hf⟩ := gd_T hf
      refine va_last hx hb hK hP hD hS 18 3 rfl rfl h20 dL_stage_11 (fun H21 locs hP hD hS => ?_)
      have hP : va_P (dC, dI) vwCl (wD_ d0 s0 z0 b0 q0 t0 dhasSaved dkeptError dmoved ++ wS_ s0 v0 f0 r0 ++ wV_ v0 v_keys v_firsts v_ends v_values v_inferred v_gone cI cZ vkeys vfirsts vends vvalues vinferred vgone vmade ++ wF_ f0 f_keys f_days f_amounts f_versions cI fkeys fdays famounts fversions fcount ++ wR_ r0 r_keys r_days r_values cI rk3 rd4 rv5 rc6 ++ wO_ o0 cJ (vp_updL ov ((0 : Int32).toNatClampNeg) r2.toInt64)) H21 := hP
      have hD : va_D A (wD_ d0 s0 z0 b0 q0 t0 dhasSaved dkeptError dmoved ++ wS_ s0 v0 f0 r0 ++ wV_ v0 v_keys v_firsts v_ends v_values v_inferred v_gone cI cZ vkeys vfirsts vends vvalues vinferred vgone vmade ++ wF_ f0 f_keys f_days f_amounts f_versions cI fkeys fdays famounts fversions fcount ++ wR_ r0 r_keys r_days r_values cI rk3 rd4 rv5 rc6 ++ wO_ o0 cJ (vp_updL ov ((0 : Int32).toNatClampNeg) r2.toInt64)) := hD
      obtain ⟨u22, e23, hf⟩ := nm_T hf
      rw [← e23] at hP hD
      refine lv_goto (tgt := 27) hx hb dL_stage_12 (by decide) ?_
      refine lv_iconst (v := 0) hx hb dL_stage_27 (by decide) ?_
      have hR := Option.some.inj hf
      subst hR
      refine W.widen (k := 3) (n := 18) (Nat.le_of_ble_eq_true rfl) (Nat.le_of_ble_eq_true rfl) ?_
      exact W.iret (v := (0 : Int32)) hx hb hr (fun t ht hW => ⟨⟨(0 : Int32), (), rfl, rfl, by rw [ht]; exact hP, va_K.moved hW.alike hK, hD⟩, hS.F ht⟩) hS.2.2 dL_stage_28
theorem hs_L_stage : yL_stage.cls ≠ "java/lang/invoke/MethodHandle" ∧ yL_stage.cls ≠ "java/lang/invoke/VarHandle" ∧ (parseMethodDescriptor yL_stage.desc).map (fun d => d.parameters.length) = some 5 := by decide +kernel
def f_L_nextRow (a2 : Int32) (D_ : tD_) (S_ : tS_) (V_ : tV_) (F_ : tF_) (R_ : tR_) (ov : tO_) : Option (Int32 × tO_) :=
match D_ with
| (dhasSaved, dkeptError, dmoved) =>
match V_ with
| (vkeys, vfirsts, vends, vvalues, vinferred, vgone, vmade) =>
match F_ with
| (fkeys, fdays, famounts, fversions, fcount) =>
match R_ with
| (rkeys, rdays, rvalues, rcount) =>
bd_ (f_X5_nextRow a2 (dhasSaved, dkeptError, dmoved) () (vkeys, vfirsts, vends, vvalues, vinferred, vgone, vmade) (fkeys, fdays, famounts, fversions, fcount) (rkeys, rdays, rvalues, rcount)) (fun x1 =>
match x1 with
| Except.error E9 => (if E9 = "java/lang/IllegalArgumentException" then some ((1 : Int32), ov) else (if E9 = "java/util/NoSuchElementException" then some ((2 : Int32), ov) else none))
| Except.ok r2 =>
gd_ (0 : Int32) 1 (nm_ (vp_updL ov ((0 : Int32).toNatClampNeg) r2.toInt64) (fun u16 =>
some ((0 : Int32), u16))))
abbrev rm_L_nextRow : Room := { frames := 7, cells := 1, slots := 6, locals := 110 }
set_option maxHeartbeats 4000000 in
set_option maxRecDepth 100000 in
theorem c_L_nextRow (l : Launch) (dC : Nat → ClassId) (dI : Nat → Nat → Nat) (cI cZ cC cJ cD : ClassId) (hst : l.stackTraces = false) (d0 s0 z0 b0 q0 t0 v0 f0 r0 v_keys v_firsts v_ends v_values v_inferred v_gone f_keys f_days f_amounts f_versions r_keys r_days r_values o0 : Nat) (sz : Nat) (dhasSaved : Int32) (dkeptError : Int32) (dmoved : Int32) (vkeys : Nat → Int32) (vfirsts : Nat → Int32) (vends : Nat → Int32) (vvalues : Nat → Int32) (vinferred : Nat → Int32) (vgone : Nat → Int32) (vmade : Int32) (fkeys : Nat → Int32) (fdays : Nat → Int32) (famounts : Nat → Int32) (fversions : Nat → Int32) (fcount : Int32) (rkeys : Nat → Int32) (rdays : Nat → Int32) (rvalues : Nat → Int32) (rcount : Int32) (ov : Nat → Int64) (a2 : Int32) (R : Int32 × tO_) (hf : f_L_nextRow a2 (dhasSaved, dkeptError, dmoved) () (vkeys, vfirsts, vends, vvalues, vinferred, vgone, vmade) (fkeys, fdays, famounts, fversions, fcount) (rkeys, rdays, rvalues, rcount) ov = some R) : Met l yL_nextRow wsL_nextRow rm_L_nextRow (PL_ (dC, dI) (ty_ cI cZ cC cJ cD) (wD_ d0 s0 z0 b0 q0 t0 dhasSaved dkeptError dmoved ++ wS_ s0 v0 f0 r0 ++ wV_ v0 v_keys v_firsts v_ends v_values v_inferred v_gone cI cZ vkeys vfirsts vends vvalues vinferred vgone vmade ++ wF_ f0 f_keys f_days f_amounts f_versions cI fkeys fdays famounts fversions fcount ++ wR_ r0 r_keys r_days r_values cI rkeys rdays rvalues rcount ++ wO_ o0 cJ ov) sz [.ref d0, .int a2, .ref o0]) (Qi_ (dC, dI) (ty_ cI cZ cC cJ cD) R.1 (wD_ d0 s0 z0 b0 q0 t0 dhasSaved dkeptError dmoved ++ wS_ s0 v0 f0 r0 ++ wV_ v0 v_keys v_firsts v_ends v_values v_inferred v_gone cI cZ vkeys vfirsts vends vvalues vinferred vgone vmade ++ wF_ f0 f_keys f_days f_amounts f_versions cI fkeys fdays famounts fversions fcount ++ wR_ r0 r_keys r_days r_values cI rkeys rdays rvalues rcount ++ wO_ o0 cJ R.2) (va_A (wD_ d0 s0 z0 b0 q0 t0 dhasSaved dkeptError dmoved ++ wS_ s0 v0 f0 r0 ++ wV_ v0 v_keys v_firsts v_ends v_values v_inferred v_gone cI cZ vkeys vfirsts vends vvalues vinferred vgone vmade ++ wF_ f0 f_keys f_days f_amounts f_versions cI fkeys fdays famounts fversions fcount ++ wR_ r0 r_keys r_days r_values cI rkeys rdays rvalues rcount ++ wO_ o0 cJ ov) sz)) 1 6 (va_A (wD_ d0 s0 z0 b0 q0 t0 dhasSaved dkeptError dmoved ++ wS_ s0 v0 f0 r0 ++ wV_ v0 v_keys v_firsts v_ends v_values v_inferred v_gone cI cZ vkeys vfirsts vends vvalues vinferred vgone vmade ++ wF_ f0 f_keys f_days f_amounts f_versions cI fkeys fdays famounts fversions fcount ++ wR_ r0 r_keys r_days r_values cI rkeys rdays rvalues rcount ++ wO_ o0 cJ ov) sz) := by
  refine metw_ (cc := cL_nextRow) (maxL := 4) (ret := (some .int)) (hh := [(0, 9, 12, 15), (0, 9, 15, 26)]) (Qcf := fun A => Qi_ (dC, dI) (ty_ cI cZ cC cJ cD) R.1 (wD_ d0 s0 z0 b0 q0 t0 dhasSaved dkeptError dmoved ++ wS_ s0 v0 f0 r0 ++ wV_ v0 v_keys v_firsts v_ends v_values v_inferred v_gone cI cZ vkeys vfirsts vends vvalues vinferred vgone vmade ++ wF_ f0 f_keys f_days f_amounts f_versions cI fkeys fdays famounts fversions fcount ++ wR_ r0 r_keys r_days r_values cI rkeys rdays rvalues rcount ++ wO_ o0 cJ R.2) A) (by decide) rfl (Nat.le_of_ble_eq_true rfl) ?_
  intro p e s m args below meth c A ls hx hb hr hts hown hlocks hml htab hA hU hN hC hP hK hD hl
  have hown : s.vm.findClass RL = some m.cls := hown
  have hl : lv_has ls 4 [(0, .ref d0), (1, .int a2), (2, .ref o0)] := hl
  have hS : va_S A s.heap s.heap [] := va_S.rf
  unfold f_L_nextRow at hf
  dsimp only at hf
  refine lv_aload_n hx hb dL_nextRow_0 rfl (lv_at hl 2 rfl) ?_
  refine lv_iconst (v := 0) hx hb dL_nextRow_1 (by decide) ?_
  refine lv_aload_n hx hb dL_nextRow_2 rfl (lv_at hl 0 rfl) ?_
  refine lv_iload_n hx hb dL_nextRow_3 rfl (lv_at hl 1 rfl) ?_
  obtain ⟨R3, g4, hf⟩ := bd_B hf
  obtain ⟨x1, rfl⟩ : ∃ z, z = R3 := ⟨_, rfl⟩
  have hPc := hP.sub (ws' := wD_ d0 s0 z0 b0 q0 t0 dhasSaved dkeptError dmoved ++ wS_ s0 v0 f0 r0 ++ wV_ v0 v_keys v_firsts v_ends v_values v_inferred v_gone cI cZ vkeys vfirsts vends vvalues vinferred vgone vmade ++ wF_ f0 f_keys f_days f_amounts f_versions cI fkeys fdays famounts fversions fcount ++ wR_ r0 r_keys r_days r_values cI rkeys rdays rvalues rcount) [0, 1, 2, 3, 4, 5, 6, 7, 8, 9, 10, 11, 12, 13, 14, 15, 16, 17] rfl
  have hDc := hD.sub (ws' := wD_ d0 s0 z0 b0 q0 t0 dhasSaved dkeptError dmoved ++ wS_ s0 v0 f0 r0 ++ wV_ v0 v_keys v_firsts v_ends v_values v_inferred v_gone cI cZ vkeys vfirsts vends vvalues vinferred vgone vmade ++ wF_ f0 f_keys f_days f_amounts f_versions cI fkeys fdays famounts fversions fcount ++ wR_ r0 r_keys r_days r_values cI rkeys rdays rvalues rcount) [0, 1, 2, 3, 4, 5, 6, 7, 8, 9, 10, 11, 12, 13, 14, 15, 16, 17] (by decide) rfl
  have hFc := va_free (wc := wD_ d0 s0 z0 b0 q0 t0 dhasSaved dkeptError dmoved ++ wS_ s0 v0 f0 r0 ++ wV_ v0 v_keys v_firsts v_ends v_values v_inferred v_gone cI cZ vkeys vfirsts vends vvalues vinferred vgone vmade ++ wF_ f0 f_keys f_days f_amounts f_versions cI fkeys fdays famounts fversions fcount ++ wR_ r0 r_keys r_days r_values cI rkeys rdays rvalues rcount) hD hS hA [0, 1, 2, 3, 4, 5, 6, 7, 8, 9, 10, 11, 12, 13, 14, 15, 16, 17] rfl
  cases x1 with
  | error E9 =>
    by_cases c10 : E9 = "java/lang/IllegalArgumentException"
    · have hf := ite_T c10 hf
      subst c10
      refine vx_calli (vx_runV (As := [.int a2]) (rest := [.int 0, .ref o0]) ⟨hx, hb, hml, hown, hts⟩ (c_X5_nextRow l dC dI cI cZ cC cJ cD hst d0 s0 z0 b0 q0 t0 v0 f0 r0 v_keys v_firsts v_ends v_values v_inferred v_gone f_keys f_days f_amounts f_versions r_keys r_days r_values s.heap.size dhasSaved dkeptError dmoved vkeys vfirsts vends vvalues vinferred vgone vmade fkeys fdays famounts fversions fcount rkeys rdays rvalues rcount a2 (Except.error "java/lang/IllegalArgumentException") g4) (cwV 1 hts gL_nextRow_X5_nextRow rfl rfl rfl hs_X5_nextRow ⟨Nat.le_of_ble_eq_true rfl, Nat.le_of_ble_eq_true rfl⟩) (preVy_ (ci := 7) (q0 := 0) hPc hK hDc rfl rfl rfl rfl hS hU hN hFc hC.1) rfl rfl hl.1 rfl (lv_room (Nat.le_of_ble_eq_true rfl)) dL_nextRow_4 ⟨Nat.le_of_ble_eq_true rfl, Nat.le_of_ble_eq_true rfl⟩) hS (fun q _ h => hFc q h) hFc (fun q _ h => hFc q h) (fun E ce q11 u t H7 locs ht hvm hp hB hz1 hk1 hS hce hcv hcl => ?_) (fun z8 u t H7 locs ht hvm hw hB hz1 hk1 hS => ?_)
      · obtain ⟨hE, hB⟩ := hB
        cases hE
        obtain ⟨hP, hD⟩ := aft_ (Wr := wO_ o0 cJ ov) (Wc' := wD_ d0 s0 z0 b0 q0 t0 dhasSaved dkeptError dmoved ++ wS_ s0 v0 f0 r0 ++ wV_ v0 v_keys v_firsts v_ends v_values v_inferred v_gone cI cZ vkeys vfirsts vends vvalues vinferred vgone vmade ++ wF_ f0 f_keys f_days f_amounts f_versions cI fkeys fdays famounts fversions fcount ++ wR_ r0 r_keys r_days r_values cI rkeys rdays rvalues rcount) (W2 := wD_ d0 s0 z0 b0 q0 t0 dhasSaved dkeptError dmoved ++ wS_ s0 v0 f0 r0 ++ wV_ v0 v_keys v_firsts v_ends v_values v_inferred v_gone cI cZ vkeys vfirsts vends vvalues vinferred vgone vmade ++ wF_ f0 f_keys f_days f_amounts f_versions cI fkeys fdays famounts fversions fcount ++ wR_ r0 r_keys r_days r_values cI rkeys rdays rvalues rcount ++ wO_ o0 cJ ov) hP hD [0, 1, 2, 3, 4, 5, 6, 7, 8, 9, 10, 11, 12, 13, 14, 15, 16, 17] [18] [1, 2, 3, 4, 5, 6, 7, 8, 9, 10, 11, 12, 13, 14, 15, 16, 17, 18, 0] rfl rfl (by decide) (by decide) (by decide) hk1 hFc hB ht rfl
        refine vx_catch (name := "java/lang/IllegalArgumentException") hown [] ⟨0, 9, 12, 15⟩ [⟨0, 9, 15, 26⟩] (htab.trans rfl) (fun z hz => nomatch hz) (by decide +kernel) (by decide) (hts _ (List.mem_of_getElem? (i := 1) rfl)) ((hC.1.1 "java/lang/IllegalArgumentException" (by decide +kernel)).use rfl) hce hcv hcl ?_
        refine lv_astore_n (lv' := [(3, .ref q11), (0, .ref d0), (1, .int a2), (2, .ref o0)]) hx hb dL_nextRow_12 rfl hl (by decide) rfl (fun ls hl => ?_)
        refine lv_iconst (v := 1) hx hb dL_nextRow_13 (by decide) ?_
        have hR := Option.some.inj hf
        subst hR
        refine W.widen (k := 1) (n := 6) (Nat.le_of_ble_eq_true rfl) (Nat.le_of_ble_eq_true rfl) ?_
        exact W.iret (v := (1 : Int32)) hx hb hr (fun t ht hW => ⟨⟨(1 : Int32), (), rfl, rfl, by rw [ht]; exact hP, va_K.moved hW.alike hK, hD⟩, hS.F ht⟩) hS.2.2 dL_nextRow_14
      · exact absurd hw (fun h => nomatch h)
    · have hf := ite_F c10 hf
      by_cases c12 : E9 = "java/util/NoSuchElementException"
      · have hf := ite_T c12 hf
        subst c12
        refine vx_calli (vx_runV (As := [.int a2]) (rest := [.int 0, .ref o0]) ⟨hx, hb, hml, hown, hts⟩ (c_X5_nextRow l dC dI cI cZ cC cJ cD hst d0 s0 z0 b0 q0 t0 v0 f0 r0 v_keys v_firsts v_ends v_values v_inferred v_gone f_keys f_days f_amounts f_versions r_keys r_days r_values s.heap.size dhasSaved dkeptError dmoved vkeys vfirsts vends vvalues vinferred vgone vmade fkeys fdays famounts fversions fcount rkeys rdays rvalues rcount a2 (Except.error "java/util/NoSuchElementException") g4) (cwV 1 hts gL_nextRow_X5_nextRow rfl rfl rfl hs_X5_nextRow ⟨Nat.le_of_ble_eq_true rfl, Nat.le_of_ble_eq_true rfl⟩) (preVy_ (ci := 7) (q0 := 0) hPc hK hDc rfl rfl rfl rfl hS hU hN hFc hC.1) rfl rfl hl.1 rfl (lv_room (Nat.le_of_ble_eq_true rfl)) dL_nextRow_4 ⟨Nat.le_of_ble_eq_true rfl, Nat.le_of_ble_eq_true rfl⟩) hS (fun q _ h => hFc q h) hFc (fun q _ h => hFc q h) (fun E ce q13 u t H7 locs ht hvm hp hB hz1 hk1 hS hce hcv hcl => ?_) (fun z8 u t H7 locs ht hvm hw hB hz1 hk1 hS => ?_)
        · obtain ⟨hE, hB⟩ := hB
          cases hE
          obtain ⟨hP, hD⟩ := aft_ (Wr := wO_ o0 cJ ov) (Wc' := wD_ d0 s0 z0 b0 q0 t0 dhasSaved dkeptError dmoved ++ wS_ s0 v0 f0 r0 ++ wV_ v0 v_keys v_firsts v_ends v_values v_inferred v_gone cI cZ vkeys vfirsts vends vvalues vinferred vgone vmade ++ wF_ f0 f_keys f_days f_amounts f_versions cI fkeys fdays famounts fversions fcount ++ wR_ r0 r_keys r_days r_values cI rkeys rdays rvalues rcount) (W2 := wD_ d0 s0 z0 b0 q0 t0 dhasSaved dkeptError dmoved ++ wS_ s0 v0 f0 r0 ++ wV_ v0 v_keys v_firsts v_ends v_values v_inferred v_gone cI cZ vkeys vfirsts vends vvalues vinferred vgone vmade ++ wF_ f0 f_keys f_days f_amounts f_versions cI fkeys fdays famounts fversions fcount ++ wR_ r0 r_keys r_days r_values cI rkeys rdays rvalues rcount ++ wO_ o0 cJ ov) hP hD [0, 1, 2, 3, 4, 5, 6, 7, 8, 9, 10, 11, 12, 13, 14, 15, 16, 17] [18] [1, 2, 3, 4, 5, 6, 7, 8, 9, 10, 11, 12, 13, 14, 15, 16, 17, 18, 0] rfl rfl (by decide) (by decide) (by decide) hk1 hFc hB ht rfl
          refine vx_catch (name := "java/util/NoSuchElementException") hown [⟨0, 9, 12, 15⟩] ⟨0, 9, 15, 26⟩ [] (htab.trans rfl) (fun z hz => by (rcases List.mem_cons.mp hz with rfl | hz; exact Or.inr ⟨by decide, "java/lang/IllegalArgumentException", hts _ (List.mem_of_getElem? (i := 1) rfl), hC.2 "java/util/NoSuchElementException" (by decide +kernel) "java/lang/IllegalArgumentException" (by decide +kernel) (by decide +kernel)⟩; cases hz)) (by decide +kernel) (by decide) (hts _ (List.mem_of_getElem? (i := 2) rfl)) ((hC.1.1 "java/util/NoSuchElementException" (by decide +kernel)).use rfl) hce hcv hcl ?_
          refine lv_astore_n (lv' := [(3, .ref q13), (0, .ref d0), (1, .int a2), (2, .ref o0)]) hx hb dL_nextRow_15 rfl hl (by decide) rfl (fun ls hl => ?_)
          refine lv_iconst (v := 2) hx hb dL_nextRow_16 (by decide) ?_
          have hR := Option.some.inj hf
          subst hR
          refine W.widen (k := 1) (n := 6) (Nat.le_of_ble_eq_true rfl) (Nat.le_of_ble_eq_true rfl) ?_
          exact W.iret (v := (2 : Int32)) hx hb hr (fun t ht hW => ⟨⟨(2 : Int32), (), rfl, rfl, by rw [ht]; exact hP, va_K.moved hW.alike hK, hD⟩, hS.F ht⟩) hS.2.2 dL_nextRow_17
        · exact absurd hw (fun h => nomatch h)
      · have hf := ite_F c12 hf
        exact absurd hf (fun h => nomatch h)
  | ok r2 =>
    refine vx_calli (vx_runV (As := [.int a2]) (rest := [.int 0, .ref o0]) ⟨hx, hb, hml, hown, hts⟩ (c_X5_nextRow l dC dI cI cZ cC cJ cD hst d0 s0 z0 b0 q0 t0 v0 f0 r0 v_keys v_firsts v_ends v_values v_inferred v_gone f_keys f_days f_amounts f_versions r_keys r_days r_values s.heap.size dhasSaved dkeptError dmoved vkeys vfirsts vends vvalues vinferred vgone vmade fkeys fdays famounts fversions fcount rkeys rdays rvalues rcount a2 (Except.ok r2) g4) (cwV 1 hts gL_nextRow_X5_nextRow rfl rfl rfl hs_X5_nextRow ⟨Nat.le_of_ble_eq_true rfl, Nat.le_of_ble_eq_true rfl⟩) (preVy_ (ci := 7) (q0 := 0) hPc hK hDc rfl rfl rfl rfl hS hU hN hFc hC.1) rfl rfl hl.1 rfl (lv_room (Nat.le_of_ble_eq_true rfl)) dL_nextRow_4 ⟨Nat.le_of_ble_eq_true rfl, Nat.le_of_ble_eq_true rfl⟩) hS (fun q _ h => hFc q h) hFc (fun q _ h => hFc q h) (fun E ce q9 u t H7 locs ht hvm hp hB hz1 hk1 hS hce hcv hcl => ?_) (fun z8 u t H7 locs ht hvm hw hB hz1 hk1 hS => ?_)
    · exact absurd hB.1 (fun h => nomatch h)
    · have hw : r2 = z8 := Except.ok.inj hw
      subst hw
      obtain ⟨hP, hD⟩ := aft_ (Wr := wO_ o0 cJ ov) (Wc' := wD_ d0 s0 z0 b0 q0 t0 dhasSaved dkeptError dmoved ++ wS_ s0 v0 f0 r0 ++ wV_ v0 v_keys v_firsts v_ends v_values v_inferred v_gone cI cZ vkeys vfirsts vends vvalues vinferred vgone vmade ++ wF_ f0 f_keys f_days f_amounts f_versions cI fkeys fdays famounts fversions fcount ++ wR_ r0 r_keys r_days r_values cI rkeys rdays rvalues rcount) (W2 := wD_ d0 s0 z0 b0 q0 t0 dhasSaved dkeptError dmoved ++ wS_ s0 v0 f0 r0 ++ wV_ v0 v_keys v_firsts v_ends v_values v_inferred v_gone cI cZ vkeys vfirsts vends vvalues vinferred vgone vmade ++ wF_ f0 f_keys f_days f_amounts f_versions cI fkeys fdays famounts fversions fcount ++ wR_ r0 r_keys r_days r_values cI rkeys rdays rvalues rcount ++ wO_ o0 cJ ov) hP hD [0, 1, 2, 3, 4, 5, 6, 7, 8, 9, 10, 11, 12, 13, 14, 15, 16, 17] [18] [1, 2, 3, 4, 5, 6, 7, 8, 9, 10, 11, 12, 13, 14, 15, 16, 17, 18, 0] rfl rfl (by decide) (by decide) (by decide) hk1 hFc hB ht rfl
      refine lv_i2l hx hb dL_nextRow_7 rfl ?_
      obtain ⟨h14, hf⟩ := gd_T hf
      refine va_last hx hb hK hP hD hS 18 3 rfl rfl h14 dL_nextRow_8 (fun H15 locs hP hD hS => ?_)
      have hP : va_P (dC, dI) vwCl (wD_ d0 s0 z0 b0 q0 t0 dhasSaved dkeptError dmoved ++ wS_ s0 v0 f0 r0 ++ wV_ v0 v_keys v_firsts v_ends v_values v_inferred v_gone cI cZ vkeys vfirsts vends vvalues vinferred vgone vmade ++ wF_ f0 f_keys f_days f_amounts f_versions cI fkeys fdays famounts fversions fcount ++ wR_ r0 r_keys r_days r_values cI rkeys rdays rvalues rcount ++ wO_ o0 cJ (vp_updL ov ((0 : Int32).toNatClampNeg) r2.toInt64)) H15 := hP
      have hD : va_D A (wD_ d0 s0 z0 b0 q0 t0 dhasSaved dkeptError dmoved ++ wS_ s0 v0 f0 r0 ++ wV_ v0 v_keys v_firsts v_ends v_values v_inferred v_gone cI cZ vkeys vfirsts vends vvalues vinferred vgone vmade ++ wF_ f0 f_keys f_days f_amounts f_versions cI fkeys fdays famounts fversions fcount ++ wR_ r0 r_keys r_days r_values cI rkeys rdays rvalues rcount ++ wO_ o0 cJ (vp_updL ov ((0 : Int32).toNatClampNeg) r2.toInt64)) := hD
      obtain ⟨u16, e17, hf⟩ := nm_T hf
      rw [← e17] at hP hD
      refine lv_goto (tgt := 18) hx hb dL_nextRow_9 (by decide) ?_
      refine lv_iconst (v := 0) hx hb dL_nextRow_18 (by decide) ?_
      have hR := Option.some.inj hf
      subst hR
      refine W.widen (k := 1) (n := 6) (Nat.le_of_ble_eq_true rfl) (Nat.le_of_ble_eq_true rfl) ?_
      exact W.iret (v := (0 : Int32)) hx hb hr (fun t ht hW => ⟨⟨(0 : Int32), (), rfl, rfl, by rw [ht]; exact hP, va_K.moved hW.alike hK, hD⟩, hS.F ht⟩) hS.2.2 dL_nextRow_19
theorem hs_L_nextRow : yL_nextRow.cls ≠ "java/lang/invoke/MethodHandle" ∧ yL_nextRow.cls ≠ "java/lang/invoke/VarHandle" ∧ (parseMethodDescriptor yL_nextRow.desc).map (fun d => d.parameters.length) = some 3 := by decide +kernel
