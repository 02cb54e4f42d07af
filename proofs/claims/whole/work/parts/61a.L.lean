def f_L_change (a2 : Int32) (a3 : Int32) (a4 : Int32) (D_ : tD_) (S_ : tS_) (V_ : tV_) (F_ : tF_) (R_ : tR_) (ov : tO_) : Option (Int32 × tD_ × tV_ × tF_ × tO_) :=
match D_ with
| (dhasSaved, dkeptError, dmoved) =>
match V_ with
| (vkeys, vfirsts, vends, vvalues, vinferred, vgone, vmade) =>
match F_ with
| (fkeys, fdays, famounts, fversions, fcount) =>
match R_ with
| (rkeys, rdays, rvalues, rcount) =>
bd_ (f_X5_change a2 a3 a4 (dhasSaved, dkeptError, dmoved) () (vkeys, vfirsts, vends, vvalues, vinferred, vgone, vmade) (fkeys, fdays, famounts, fversions, fcount) (rkeys, rdays, rvalues, rcount)) (fun (x1, (dh3, dk4, dm5), (vk6, vf7, ve8, vv9, vi10, vg11, vm12), (fk13, fd14, fa15, fv16, fc17)) =>
match x1 with
| Except.error E24 => (if E24 = "java/lang/IndexOutOfBoundsException" then some ((1 : Int32), (dh3, dk4, dm5), (vk6, vf7, ve8, vv9, vi10, vg11, vm12), (fk13, fd14, fa15, fv16, fc17), ov) else (if E24 = "java/lang/IllegalArgumentException" then some ((2 : Int32), (dh3, dk4, dm5), (vk6, vf7, ve8, vv9, vi10, vg11, vm12), (fk13, fd14, fa15, fv16, fc17), ov) else (if E24 = "java/lang/IllegalStateException" then some ((3 : Int32), (dh3, dk4, dm5), (vk6, vf7, ve8, vv9, vi10, vg11, vm12), (fk13, fd14, fa15, fv16, fc17), ov) else none)))
| Except.ok r2 =>
gd_ (0 : Int32) 1 (nm_ (vp_updL ov ((0 : Int32).toNatClampNeg) r2.toInt64) (fun u33 =>
some ((0 : Int32), (dh3, dk4, dm5), (vk6, vf7, ve8, vv9, vi10, vg11, vm12), (fk13, fd14, fa15, fv16, fc17), u33))))
abbrev rm_L_change : Room := { frames := 8, cells := 3, slots := 18, locals := 139 }
set_option maxHeartbeats 4000000 in
set_option maxRecDepth 100000 in
theorem c_L_change (l : Launch) (dC : Nat → ClassId) (dI : Nat → Nat → Nat) (cI cZ cC cJ cD : ClassId) (hst : l.stackTraces = false) (d0 s0 z0 b0 q0 t0 v0 f0 r0 v_keys v_firsts v_ends v_values v_inferred v_gone f_keys f_days f_amounts f_versions r_keys r_days r_values o0 : Nat) (sz : Nat) (dhasSaved : Int32) (dkeptError : Int32) (dmoved : Int32) (vkeys : Nat → Int32) (vfirsts : Nat → Int32) (vends : Nat → Int32) (vvalues : Nat → Int32) (vinferred : Nat → Int32) (vgone : Nat → Int32) (vmade : Int32) (fkeys : Nat → Int32) (fdays : Nat → Int32) (famounts : Nat → Int32) (fversions : Nat → Int32) (fcount : Int32) (rkeys : Nat → Int32) (rdays : Nat → Int32) (rvalues : Nat → Int32) (rcount : Int32) (ov : Nat → Int64) (a2 : Int32) (a3 : Int32) (a4 : Int32) (R : Int32 × tD_ × tV_ × tF_ × tO_) (hf : f_L_change a2 a3 a4 (dhasSaved, dkeptError, dmoved) () (vkeys, vfirsts, vends, vvalues, vinferred, vgone, vmade) (fkeys, fdays, famounts, fversions, fcount) (rkeys, rdays, rvalues, rcount) ov = some R) : Met l yL_change wsL_change rm_L_change (PL_ (dC, dI) (ty_ cI cZ cC cJ cD) (wD_ d0 s0 z0 b0 q0 t0 dhasSaved dkeptError dmoved ++ wS_ s0 v0 f0 r0 ++ wV_ v0 v_keys v_firsts v_ends v_values v_inferred v_gone cI cZ vkeys vfirsts vends vvalues vinferred vgone vmade ++ wF_ f0 f_keys f_days f_amounts f_versions cI fkeys fdays famounts fversions fcount ++ wR_ r0 r_keys r_days r_values cI rkeys rdays rvalues rcount ++ wO_ o0 cJ ov) sz [.ref d0, .int a2, .int a3, .int a4, .ref o0]) (Qi_ (dC, dI) (ty_ cI cZ cC cJ cD) R.1 (wD_ d0 s0 z0 b0 q0 t0 R.2.1.1 R.2.1.2.1 R.2.1.2.2 ++ wS_ s0 v0 f0 r0 ++ wV_ v0 v_keys v_firsts v_ends v_values v_inferred v_gone cI cZ R.2.2.1.1 R.2.2.1.2.1 R.2.2.1.2.2.1 R.2.2.1.2.2.2.1 R.2.2.1.2.2.2.2.1 R.2.2.1.2.2.2.2.2.1 R.2.2.1.2.2.2.2.2.2 ++ wF_ f0 f_keys f_days f_amounts f_versions cI R.2.2.2.1.1 R.2.2.2.1.2.1 R.2.2.2.1.2.2.1 R.2.2.2.1.2.2.2.1 R.2.2.2.1.2.2.2.2 ++ wR_ r0 r_keys r_days r_values cI rkeys rdays rvalues rcount ++ wO_ o0 cJ R.2.2.2.2) (va_A (wD_ d0 s0 z0 b0 q0 t0 dhasSaved dkeptError dmoved ++ wS_ s0 v0 f0 r0 ++ wV_ v0 v_keys v_firsts v_ends v_values v_inferred v_gone cI cZ vkeys vfirsts vends vvalues vinferred vgone vmade ++ wF_ f0 f_keys f_days f_amounts f_versions cI fkeys fdays famounts fversions fcount ++ wR_ r0 r_keys r_days r_values cI rkeys rdays rvalues rcount ++ wO_ o0 cJ ov) sz)) 3 18 (va_A (wD_ d0 s0 z0 b0 q0 t0 dhasSaved dkeptError dmoved ++ wS_ s0 v0 f0 r0 ++ wV_ v0 v_keys v_firsts v_ends v_values v_inferred v_gone cI cZ vkeys vfirsts vends vvalues vinferred vgone vmade ++ wF_ f0 f_keys f_days f_amounts f_versions cI fkeys fdays famounts fversions fcount ++ wR_ r0 r_keys r_days r_values cI rkeys rdays rvalues rcount ++ wO_ o0 cJ ov) sz) := by
  refine metw_ (cc := cL_change) (maxL := 6) (ret := (some .int)) (hh := [(0, 12, 15, 13), (0, 12, 19, 15), (0, 12, 23, 17)]) (Qcf := fun A => Qi_ (dC, dI) (ty_ cI cZ cC cJ cD) R.1 (wD_ d0 s0 z0 b0 q0 t0 R.2.1.1 R.2.1.2.1 R.2.1.2.2 ++ wS_ s0 v0 f0 r0 ++ wV_ v0 v_keys v_firsts v_ends v_values v_inferred v_gone cI cZ R.2.2.1.1 R.2.2.1.2.1 R.2.2.1.2.2.1 R.2.2.1.2.2.2.1 R.2.2.1.2.2.2.2.1 R.2.2.1.2.2.2.2.2.1 R.2.2.1.2.2.2.2.2.2 ++ wF_ f0 f_keys f_days f_amounts f_versions cI R.2.2.2.1.1 R.2.2.2.1.2.1 R.2.2.2.1.2.2.1 R.2.2.2.1.2.2.2.1 R.2.2.2.1.2.2.2.2 ++ wR_ r0 r_keys r_days r_values cI rkeys rdays rvalues rcount ++ wO_ o0 cJ R.2.2.2.2) A) (by decide) rfl (Nat.le_of_ble_eq_true rfl) ?_
  intro p e s m args below meth c A ls hx hb hr hts hown hlocks hml htab hA hU hN hC hP hK hD hl
  have hown : s.vm.findClass RL = some m.cls := hown
  have hl : lv_has ls 6 [(0, .ref d0), (1, .int a2), (2, .int a3), (3, .int a4), (4, .ref o0)] := hl
  have hS : va_S A s.heap s.heap [] := va_S.rf
  unfold f_L_change at hf
  dsimp only at hf
  refine lv_aload hx hb dL_change_0 (lv_at hl 4 rfl) ?_
  refine lv_iconst (v := 0) hx hb dL_change_2 (by decide) ?_
  refine lv_aload_n hx hb dL_change_3 rfl (lv_at hl 0 rfl) ?_
  refine lv_iload_n hx hb dL_change_4 rfl (lv_at hl 1 rfl) ?_
  refine lv_iload_n hx hb dL_change_5 rfl (lv_at hl 2 rfl) ?_
  refine lv_iload_n hx hb dL_change_6 rfl (lv_at hl 3 rfl) ?_
  obtain ⟨R18, g19, hf⟩ := bd_B hf
  obtain ⟨x1, ⟨dh3, dk4, dm5⟩, ⟨vk6, vf7, ve8, vv9, vi10, vg11, vm12⟩, ⟨fk13, fd14, fa15, fv16, fc17⟩⟩ := R18
  dsimp only at hf
  have hPc := hP.sub (ws' := wD_ d0 s0 z0 b0 q0 t0 dhasSaved dkeptError dmoved ++ wS_ s0 v0 f0 r0 ++ wV_ v0 v_keys v_firsts v_ends v_values v_inferred v_gone cI cZ vkeys vfirsts vends vvalues vinferred vgone vmade ++ wF_ f0 f_keys f_days f_amounts f_versions cI fkeys fdays famounts fversions fcount ++ wR_ r0 r_keys r_days r_values cI rkeys rdays rvalues rcount) [0, 1, 2, 3, 4, 5, 6, 7, 8, 9, 10, 11, 12, 13, 14, 15, 16, 17] rfl
  have hDc := hD.sub (ws' := wD_ d0 s0 z0 b0 q0 t0 dhasSaved dkeptError dmoved ++ wS_ s0 v0 f0 r0 ++ wV_ v0 v_keys v_firsts v_ends v_values v_inferred v_gone cI cZ vkeys vfirsts vends vvalues vinferred vgone vmade ++ wF_ f0 f_keys f_days f_amounts f_versions cI fkeys fdays famounts fversions fcount ++ wR_ r0 r_keys r_days r_values cI rkeys rdays rvalues rcount) [0, 1, 2, 3, 4, 5, 6, 7, 8, 9, 10, 11, 12, 13, 14, 15, 16, 17] (by decide) rfl
  have hFc := va_free (wc := wD_ d0 s0 z0 b0 q0 t0 dhasSaved dkeptError dmoved ++ wS_ s0 v0 f0 r0 ++ wV_ v0 v_keys v_firsts v_ends v_values v_inferred v_gone cI cZ vkeys vfirsts vends vvalues vinferred vgone vmade ++ wF_ f0 f_keys f_days f_amounts f_versions cI fkeys fdays famounts fversions fcount ++ wR_ r0 r_keys r_days r_values cI rkeys rdays rvalues rcount) hD hS hA [0, 1, 2, 3, 4, 5, 6, 7, 8, 9, 10, 11, 12, 13, 14, 15, 16, 17] rfl
  cases x1 with
  | error E24 =>
    by_cases c25 : E24 = "java/lang/IndexOutOfBoundsException"
    · have hf := ite_T c25 hf
      subst c25
      refine vx_calli (vx_runV (As := [.int a2, .int a3, .int a4]) (rest := [.int 0, .ref o0]) ⟨hx, hb, hml, hown, hts⟩ (c_X5_change l dC dI cI cZ cC cJ cD hst d0 s0 z0 b0 q0 t0 v0 f0 r0 v_keys v_firsts v_ends v_values v_inferred v_gone f_keys f_days f_amounts f_versions r_keys r_days r_values s.heap.size dhasSaved dkeptError dmoved vkeys vfirsts vends vvalues vinferred vgone vmade fkeys fdays famounts fversions fcount rkeys rdays rvalues rcount a2 a3 a4 ((Except.error "java/lang/IndexOutOfBoundsException"), (dh3, dk4, dm5), (vk6, vf7, ve8, vv9, vi10, vg11, vm12), (fk13, fd14, fa15, fv16, fc17)) g19) (cwV 3 hts gL_change_X5_change rfl rfl rfl hs_X5_change ⟨Nat.le_of_ble_eq_true rfl, Nat.le_of_ble_eq_true rfl⟩) (preVy_ (ci := 7) (q0 := 0) hPc hK hDc rfl rfl rfl rfl hS hU hN hFc hC.1) rfl rfl hl.1 rfl (lv_room (Nat.le_of_ble_eq_true rfl)) dL_change_7 ⟨Nat.le_of_ble_eq_true rfl, Nat.le_of_ble_eq_true rfl⟩) hS (fun q _ h => hFc q h) hFc (fun q _ h => hFc q h) (fun E ce q26 u t H22 locs ht hvm hp hB hz1 hk1 hS hce hcv hcl => ?_) (fun z23 u t H22 locs ht hvm hw hB hz1 hk1 hS => ?_)
      · obtain ⟨hE, hB⟩ := hB
        cases hE
        obtain ⟨hP, hD⟩ := aft_ (Wr := wO_ o0 cJ ov) (Wc' := wD_ d0 s0 z0 b0 q0 t0 dh3 dk4 dm5 ++ wS_ s0 v0 f0 r0 ++ wV_ v0 v_keys v_firsts v_ends v_values v_inferred v_gone cI cZ vk6 vf7 ve8 vv9 vi10 vg11 vm12 ++ wF_ f0 f_keys f_days f_amounts f_versions cI fk13 fd14 fa15 fv16 fc17 ++ wR_ r0 r_keys r_days r_values cI rkeys rdays rvalues rcount) (W2 := wD_ d0 s0 z0 b0 q0 t0 dh3 dk4 dm5 ++ wS_ s0 v0 f0 r0 ++ wV_ v0 v_keys v_firsts v_ends v_values v_inferred v_gone cI cZ vk6 vf7 ve8 vv9 vi10 vg11 vm12 ++ wF_ f0 f_keys f_days f_amounts f_versions cI fk13 fd14 fa15 fv16 fc17 ++ wR_ r0 r_keys r_days r_values cI rkeys rdays rvalues rcount ++ wO_ o0 cJ ov) hP hD [0, 1, 2, 3, 4, 5, 6, 7, 8, 9, 10, 11, 12, 13, 14, 15, 16, 17] [18] [1, 2, 3, 4, 5, 6, 7, 8, 9, 10, 11, 12, 13, 14, 15, 16, 17, 18, 0] rfl rfl (by decide) (by decide) (by decide) hk1 hFc hB ht rfl
        refine vx_catch (name := "java/lang/IndexOutOfBoundsException") hown [] ⟨0, 12, 15, 13⟩ [⟨0, 12, 19, 15⟩, ⟨0, 12, 23, 17⟩] (htab.trans rfl) (fun z hz => nomatch hz) (by decide +kernel) (by decide) (hts _ (List.mem_of_getElem? (i := 1) rfl)) ((hC.1.1 "java/lang/IndexOutOfBoundsException" (by decide +kernel)).use rfl) hce hcv hcl ?_
        refine lv_astore (lv' := [(5, .ref q26), (0, .ref d0), (1, .int a2), (2, .int a3), (3, .int a4), (4, .ref o0)]) hx hb dL_change_15 hl (by decide) rfl (fun ls hl => ?_)
        refine lv_iconst (v := 1) hx hb dL_change_17 (by decide) ?_
        have hR := Option.some.inj hf
        subst hR
        refine W.widen (k := 3) (n := 18) (Nat.le_of_ble_eq_true rfl) (Nat.le_of_ble_eq_true rfl) ?_
        exact W.iret (v := (1 : Int32)) hx hb hr (fun t ht hW => ⟨⟨(1 : Int32), (), rfl, rfl, by rw [ht]; exact hP, va_K.moved hW.alike hK, hD⟩, hS.F ht⟩) hS.2.2 dL_change_18
      · exact absurd hw (fun h => nomatch h)
    · have hf := ite_F c25 hf
      by_cases c27 : E24 = "java/lang/IllegalArgumentException"
      · have hf := ite_T c27 hf
        subst c27
        refine vx_calli (vx_runV (As := [.int a2, .int a3, .int a4]) (rest := [.int 0, .ref o0]) ⟨hx, hb, hml, hown, hts⟩ (c_X5_change l dC dI cI cZ cC cJ cD hst d0 s0 z0 b0 q0 t0 v0 f0 r0 v_keys v_firsts v_ends v_values v_inferred v_gone f_keys f_days f_amounts f_versions r_keys r_days r_values s.heap.size dhasSaved dkeptError dmoved vkeys vfirsts vends vvalues vinferred vgone vmade fkeys fdays famounts fversions fcount rkeys rdays rvalues rcount a2 a3 a4 ((Except.error "java/lang/IllegalArgumentException"), (dh3, dk4, dm5), (vk6, vf7, ve8, vv9, vi10, vg11, vm12), (fk13, fd14, fa15, fv16, fc17)) g19) (cwV 3 hts gL_change_X5_change rfl rfl rfl hs_X5_change ⟨Nat.le_of_ble_eq_true rfl, Nat.le_of_ble_eq_true rfl⟩) (preVy_ (ci := 7) (q0 := 0) hPc hK hDc rfl rfl rfl rfl hS hU hN hFc hC.1) rfl rfl hl.1 rfl (lv_room (Nat.le_of_ble_eq_true rfl)) dL_change_7 ⟨Nat.le_of_ble_eq_true rfl, Nat.le_of_ble_eq_true rfl⟩) hS (fun q _ h => hFc q h) hFc (fun q _ h => hFc q h) (fun E ce q28 u t H22 locs ht hvm hp hB hz1 hk1 hS hce hcv hcl => ?_) (fun z23 u t H22 locs ht hvm hw hB hz1 hk1 hS => ?_)
        · obtain ⟨hE, hB⟩ := hB
          cases hE
          obtain ⟨hP, hD⟩ := aft_ (Wr := wO_ o0 cJ ov) (Wc' := wD_ d0 s0 z0 b0 q0 t0 dh3 dk4 dm5 ++ wS_ s0 v0 f0 r0 ++ wV_ v0 v_keys v_firsts v_ends v_values v_inferred v_gone cI cZ vk6 vf7 ve8 vv9 vi10 vg11 vm12 ++ wF_ f0 f_keys f_days f_amounts f_versions cI fk13 fd14 fa15 fv16 fc17 ++ wR_ r0 r_keys r_days r_values cI rkeys rdays rvalues rcount) (W2 := wD_ d0 s0 z0 b0 q0 t0 dh3 dk4 dm5 ++ wS_ s0 v0 f0 r0 ++ wV_ v0 v_keys v_firsts v_ends v_values v_inferred v_gone cI cZ vk6 vf7 ve8 vv9 vi10 vg11 vm12 ++ wF_ f0 f_keys f_days f_amounts f_versions cI fk13 fd14 fa15 fv16 fc17 ++ wR_ r0 r_keys r_days r_values cI rkeys rdays rvalues rcount ++ wO_ o0 cJ ov) hP hD [0, 1, 2, 3, 4, 5, 6, 7, 8, 9, 10, 11, 12, 13, 14, 15, 16, 17] [18] [1, 2, 3, 4, 5, 6, 7, 8, 9, 10, 11, 12, 13, 14, 15, 16, 17, 18, 0] rfl rfl (by decide) (by decide) (by decide) hk1 hFc hB ht rfl
          refine vx_catch (name := "java/lang/IllegalArgumentException") hown [⟨0, 12, 15, 13⟩] ⟨0, 12, 19, 15⟩ [⟨0, 12, 23, 17⟩] (htab.trans rfl) (fun z hz => by (rcases List.mem_cons.mp hz with rfl | hz; exact Or.inr ⟨by decide, "java/lang/IndexOutOfBoundsException", hts _ (List.mem_of_getElem? (i := 1) rfl), hC.2 "java/lang/IllegalArgumentException" (by decide +kernel) "java/lang/IndexOutOfBoundsException" (by decide +kernel) (by decide +kernel)⟩; cases hz)) (by decide +kernel) (by decide) (hts _ (List.mem_of_getElem? (i := 2) rfl)) ((hC.1.1 "java/lang/IllegalArgumentException" (by decide +kernel)).use rfl) hce hcv hcl ?_
          refine lv_astore (lv' := [(5, .ref q28), (0, .ref d0), (1, .int a2), (2, .int a3), (3, .int a4), (4, .ref o0)]) hx hb dL_change_19 hl (by decide) rfl (fun ls hl => ?_)
          refine lv_iconst (v := 2) hx hb dL_change_21 (by decide) ?_
          have hR := Option.some.inj hf
          subst hR
          refine W.widen (k := 3) (n := 18) (Nat.le_of_ble_eq_true rfl) (Nat.le_of_ble_eq_true rfl) ?_
          exact W.iret (v := (2 : Int32)) hx hb hr (fun t ht hW => ⟨⟨(2 : Int32), (), rfl, rfl, by rw [ht]; exact hP, va_K.moved hW.alike hK, hD⟩, hS.F ht⟩) hS.2.2 dL_change_22
        · exact absurd hw (fun h => nomatch h)
      · have hf := ite_F c27 hf
        by_cases c29 : E24 = "java/lang/IllegalStateException"
        · have hf := ite_T c29 hf
          subst c29
          refine vx_calli (vx_runV (As := [.int a2, .int a3, .int a4]) (rest := [.int 0, .ref o0]) ⟨hx, hb, hml, hown, hts⟩ (c_X5_change l dC dI cI cZ cC cJ cD hst d0 s0 z0 b0 q0 t0 v0 f0 r0 v_keys v_firsts v_ends v_values v_inferred v_gone f_keys f_days f_amounts f_versions r_keys r_days r_values s.heap.size dhasSaved dkeptError dmoved vkeys vfirsts vends vvalues vinferred vgone vmade fkeys fdays famounts fversions fcount rkeys rdays rvalues rcount a2 a3 a4 ((Except.error "java/lang/IllegalStateException"), (dh3, dk4, dm5), (vk6, vf7, ve8, vv9, vi10, vg11, vm12), (fk13, fd14, fa15, fv16, fc17)) g19) (cwV 3 hts gL_change_X5_change rfl rfl rfl hs_X5_change ⟨Nat.le_of_ble_eq_true rfl, Nat.le_of_ble_eq_true rfl⟩) (preVy_ (ci := 7) (q0 := 0) hPc hK hDc rfl rfl rfl rfl hS hU hN hFc hC.1) rfl rfl hl.1 rfl (lv_room (Nat.le_of_ble_eq_true rfl)) dL_change_7 ⟨Nat.le_of_ble_eq_true rfl, Nat.le_of_ble_eq_true rfl⟩) hS (fun q _ h => hFc q h) hFc (fun q _ h => hFc q h) (fun E ce q30 u t H22 locs ht hvm hp hB hz1 hk1 hS hce hcv hcl => ?_) (fun z23 u t H22 locs ht hvm hw hB hz1 hk1 hS => ?_)
          · obtain ⟨hE, hB⟩ := hB
            cases hE
            obtain ⟨hP, hD⟩ := aft_ (Wr := wO_ o0 cJ ov) (Wc' := wD_ d0 s0 z0 b0 q0 t0 dh3 dk4 dm5 ++ wS_ s0 v0 f0 r0 ++ wV_ v0 v_keys v_firsts v_ends v_values v_inferred v_gone cI cZ vk6 vf7 ve8 vv9 vi10 vg11 vm12 ++ wF_ f0 f_keys f_days f_amounts f_versions cI fk13 fd14 fa15 fv16 fc17 ++ wR_ r0 r_keys r_days r_values cI rkeys rdays rvalues rcount) (W2 := wD_ d0 s0 z0 b0 q0 t0 dh3 dk4 dm5 ++ wS_ s0 v0 f0 r0 ++ wV_ v0 v_keys v_firsts v_ends v_values v_inferred v_gone cI cZ vk6 vf7 ve8 vv9 vi10 vg11 vm12 ++ wF_ f0 f_keys f_days f_amounts f_versions cI fk13 fd14 fa15 fv16 fc17 ++ wR_ r0 r_keys r_days r_values cI rkeys rdays rvalues rcount ++ wO_ o0 cJ ov) hP hD [0, 1, 2, 3, 4, 5, 6, 7, 8, 9, 10, 11, 12, 13, 14, 15, 16, 17] [18] [1, 2, 3, 4, 5, 6, 7, 8, 9, 10, 11, 12, 13, 14, 15, 16, 17, 18, 0] rfl rfl (by decide) (by decide) (by decide) hk1 hFc hB ht rfl
            refine vx_catch (name := "java/lang/IllegalStateException") hown [⟨0, 12, 15, 13⟩, ⟨0, 12, 19, 15⟩] ⟨0, 12, 23, 17⟩ [] (htab.trans rfl) (fun z hz => by (rcases List.mem_cons.mp hz with rfl | hz; exact Or.inr ⟨by decide, "java/lang/IndexOutOfBoundsException", hts _ (List.mem_of_getElem? (i := 1) rfl), hC.2 "java/lang/IllegalStateException" (by decide +kernel) "java/lang/IndexOutOfBoundsException" (by decide +kernel) (by decide +kernel)⟩; rcases List.mem_cons.mp hz with rfl | hz; exact Or.inr ⟨by decide, "java/lang/IllegalArgumentException", hts _ (List.mem_of_getElem? (i := 2) rfl), hC.2 "java/lang/IllegalStateException" (by decide +kernel) "java/lang/IllegalArgumentException" (by decide +kernel) (by decide +kernel)⟩; cases hz)) (by decide +kernel) (by decide) (hts _ (List.mem_of_getElem? (i := 3) rfl)) ((hC.1.1 "java/lang/IllegalStateException" (by decide +kernel)).use rfl) hce hcv hcl ?_
            refine lv_astore (lv' := [(5, .ref q30), (0, .ref d0), (1, .int a2), (2, .int a3), (3, .int a4), (4, .ref o0)]) hx hb dL_change_23 hl (by decide) rfl (fun ls hl => ?_)
            refine lv_iconst (v := 3) hx hb dL_change_25 (by decide) ?_
            have hR := Option.some.inj hf
            subst hR
            refine W.widen (k := 3) (n := 18) (Nat.le_of_ble_eq_true rfl) (Nat.le_of_ble_eq_true rfl) ?_
            exact W.iret (v := (3 : Int32)) hx hb hr (fun t ht hW => ⟨⟨(3 : Int32), (), rfl, rfl, by rw [ht]; exact hP, va_K.moved hW.alike hK, hD⟩, hS.F ht⟩) hS.2.2 dL_change_26
          · exact absurd hw (fun h => nomatch h)
        · have hf := ite_F c29 hf
          exact absurd hf (fun h => nomatch h)
  | ok r2 =>
    refine vx_calli (vx_runV (As := [.int a2, .int a3, .int a4]) (rest := [.int 0, .ref o0]) ⟨hx, hb, hml, hown, hts⟩ (c_X5_change l dC dI cI cZ cC cJ cD hst d0 s0 z0 b0 q0 t0 v0 f0 r0 v_keys v_firsts v_ends v_values v_inferred v_gone f_keys f_days f_amounts f_versions r_keys r_days r_values s.heap.size dhasSaved dkeptError dmoved vkeys vfirsts vends vvalues vinferred vgone vmade fkeys fdays famounts fversions fcount rkeys rdays rvalues rcount a2 a3 a4 ((Except.ok r2), (dh3, dk4, dm5), (vk6, vf7, ve8, vv9, vi10, vg11, vm12), (fk13, fd14, fa15, fv16, fc17)) g19) (cwV 3 hts gL_change_X5_change rfl rfl rfl hs_X5_change ⟨Nat.le_of_ble_eq_true rfl, Nat.le_of_ble_eq_true rfl⟩) (preVy_ (ci := 7) (q0 := 0) hPc hK hDc rfl rfl rfl rfl hS hU hN hFc hC.1) rfl rfl hl.1 rfl (lv_room (Nat.le_of_ble_eq_true rfl)) dL_change_7 ⟨Nat.le_of_ble_eq_true rfl, Nat.le_of_ble_eq_true rfl⟩) hS (fun q _ h => hFc q h) hFc (fun q _ h => hFc q h) (fun E ce q9 u t H22 locs ht hvm hp hB hz1 hk1 hS hce hcv hcl => ?_) (fun z23 u t H22 locs ht hvm hw hB hz1 hk1 hS => ?_)
    · exact absurd hB.1 (fun h => nomatch h)
    · have hw : r2 = z23 := Except.ok.inj hw
      subst hw
      obtain ⟨hP, hD⟩ := aft_ (Wr := wO_ o0 cJ ov) (Wc' := wD_ d0 s0 z0 b0 q0 t0 dh3 dk4 dm5 ++ wS_ s0 v0 f0 r0 ++ wV_ v0 v_keys v_firsts v_ends v_values v_inferred v_gone cI cZ vk6 vf7 ve8 vv9 vi10 vg11 vm12 ++ wF_ f0 f_keys f_days f_amounts f_versions cI fk13 fd14 fa15 fv16 fc17 ++ wR_ r0 r_keys r_days r_values cI rkeys rdays rvalues rcount) (W2 := wD_ d0 s0 z0 b0 q0 t0 dh3 dk4 dm5 ++ wS_ s0 v0 f0 r0 ++ wV_ v0 v_keys v_firsts v_ends v_values v_inferred v_gone cI cZ vk6 vf7 ve8 vv9 vi10 vg11 vm12 ++ wF_ f0 f_keys f_days f_amounts f_versions cI fk13 fd14 fa15 fv16 fc17 ++ wR_ r0 r_keys r_days r_values cI rkeys rdays rvalues rcount ++ wO_ o0 cJ ov) hP hD [0, 1, 2, 3, 4, 5, 6, 7, 8, 9, 10, 11, 12, 13, 14, 15, 16, 17] [18] [1, 2, 3, 4, 5, 6, 7, 8, 9, 10, 11, 12, 13, 14, 15, 16, 17, 18, 0] rfl rfl (by decide) (by decide) (by decide) hk1 hFc hB ht rfl
      refine lv_i2l hx hb dL_change_10 rfl ?_
      obtain ⟨h31, hf⟩ := gd_T hf
      refine va_last hx hb hK hP hD hS 18 3 rfl rfl h31 dL_change_11 (fun H32 locs hP hD hS => ?_)
      have hP : va_P (dC, dI) vwCl (wD_ d0 s0 z0 b0 q0 t0 dh3 dk4 dm5 ++ wS_ s0 v0 f0 r0 ++ wV_ v0 v_keys v_firsts v_ends v_values v_inferred v_gone cI cZ vk6 vf7 ve8 vv9 vi10 vg11 vm12 ++ wF_ f0 f_keys f_days f_amounts f_versions cI fk13 fd14 fa15 fv16 fc17 ++ wR_ r0 r_keys r_days r_values cI rkeys rdays rvalues rcount ++ wO_ o0 cJ (vp_updL ov ((0 : Int32).toNatClampNeg) r2.toInt64)) H32 := hP
      have hD : va_D A (wD_ d0 s0 z0 b0 q0 t0 dh3 dk4 dm5 ++ wS_ s0 v0 f0 r0 ++ wV_ v0 v_keys v_firsts v_ends v_values v_inferred v_gone cI cZ vk6 vf7 ve8 vv9 vi10 vg11 vm12 ++ wF_ f0 f_keys f_days f_amounts f_versions cI fk13 fd14 fa15 fv16 fc17 ++ wR_ r0 r_keys r_days r_values cI rkeys rdays rvalues rcount ++ wO_ o0 cJ (vp_updL ov ((0 : Int32).toNatClampNeg) r2.toInt64)) := hD
      obtain ⟨u33, e34, hf⟩ := nm_T hf
      rw [← e34] at hP hD
      refine lv_goto (tgt := 27) hx hb dL_change_12 (by decide) ?_
      refine lv_iconst (v := 0) hx hb dL_change_27 (by decide) ?_
      have hR := Option.some.inj hf
      subst hR
      refine W.widen (k := 3) (n := 18) (Nat.le_of_ble_eq_true rfl) (Nat.le_of_ble_eq_true rfl) ?_
      exact W.iret (v := (0 : Int32)) hx hb hr (fun t ht hW => ⟨⟨(0 : Int32), (), rfl, rfl, by rw [ht]; exact hP, va_K.moved hW.alike hK, hD⟩, hS.F ht⟩) hS.2.2 dL_change_28
theorem hs_L_change : yL_change.cls ≠ "java/lang/invoke/MethodHandle" ∧ yL_change.cls ≠ "java/lang/invoke/VarHandle" ∧ (parseMethodDescriptor yL_change.desc).map (fun d => d.parameters.length) = some 5 := by decide +kernel
def f_L_addFact (a2 : Int32) (a3 : Int32) (a4 : Int32) (D_ : tD_) (S_ : tS_) (V_ : tV_) (F_ : tF_) (R_ : tR_) (ov : tO_) : Option (Int32 × tD_ × tV_ × tF_ × tO_) :=
match D_ with
| (dhasSaved, dkeptError, dmoved) =>
match V_ with
| (vkeys, vfirsts, vends, vvalues, vinferred, vgone, vmade) =>
match F_ with
| (fkeys, fdays, famounts, fversions, fcount) =>
match R_ with
| (rkeys, rdays, rvalues, rcount) =>
bd_ (f_X5_addFact a2 a3 a4 (dhasSaved, dkeptError, dmoved) () (vkeys, vfirsts, vends, vvalues, vinferred, vgone, vmade) (fkeys, fdays, famounts, fversions, fcount) (rkeys, rdays, rvalues, rcount)) (fun (x1, (dh3, dk4, dm5), (vk6, vf7, ve8, vv9, vi10, vg11, vm12), (fk13, fd14, fa15, fv16, fc17)) =>
match x1 with
| Except.error E24 => (if E24 = "java/lang/IndexOutOfBoundsException" then some ((1 : Int32), (dh3, dk4, dm5), (vk6, vf7, ve8, vv9, vi10, vg11, vm12), (fk13, fd14, fa15, fv16, fc17), ov) else (if E24 = "java/lang/IllegalArgumentException" then some ((2 : Int32), (dh3, dk4, dm5), (vk6, vf7, ve8, vv9, vi10, vg11, vm12), (fk13, fd14, fa15, fv16, fc17), ov) else (if E24 = "java/lang/IllegalStateException" then some ((3 : Int32), (dh3, dk4, dm5), (vk6, vf7, ve8, vv9, vi10, vg11, vm12), (fk13, fd14, fa15, fv16, fc17), ov) else none)))
| Except.ok r2 =>
gd_ (0 : Int32) 1 (nm_ (vp_updL ov ((0 : Int32).toNatClampNeg) r2.toInt64) (fun u33 =>
some ((0 : Int32), (dh3, dk4, dm5), (vk6, vf7, ve8, vv9, vi10, vg11, vm12), (fk13, fd14, fa15, fv16, fc17), u33))))
abbrev rm_L_addFact : Room := { frames := 8, cells := 3, slots := 18, locals := 134 }
set_option maxHeartbeats 4000000 in
set_option maxRecDepth 100000 in
theorem c_L_addFact (l : Launch) (dC : Nat → ClassId) (dI : Nat → Nat → Nat) (cI cZ cC cJ cD : ClassId) (hst : l.stackTraces = false) (d0 s0 z0 b0 q0 t0 v0 f0 r0 v_keys v_firsts v_ends v_values v_inferred v_gone f_keys f_days f_amounts f_versions r_keys r_days r_values o0 : Nat) (sz : Nat) (dhasSaved : Int32) (dkeptError : Int32) (dmoved : Int32) (vkeys : Nat → Int32) (vfirsts : Nat → Int32) (vends : Nat → Int32) (vvalues : Nat → Int32) (vinferred : Nat → Int32) (vgone : Nat → Int32) (vmade : Int32) (fkeys : Nat → Int32) (fdays : Nat → Int32) (famounts : Nat → Int32) (fversions : Nat → Int32) (fcount : Int32) (rkeys : Nat → Int32) (rdays : Nat → Int32) (rvalues : Nat → Int32) (rcount : Int32) (ov : Nat → Int64) (a2 : Int32) (a3 : Int32) (a4 : Int32) (R : Int32 × tD_ × tV_ × tF_ × tO_) (hf : f_L_addFact a2 a3 a4 (dhasSaved, dkeptError, dmoved) () (vkeys, vfirsts, vends, vvalues, vinferred, vgone, vmade) (fkeys, fdays, famounts, fversions, fcount) (rkeys, rdays, rvalues, rcount) ov = some R) : Met l yL_addFact wsL_addFact rm_L_addFact (PL_ (dC, dI) (ty_ cI cZ cC cJ cD) (wD_ d0 s0 z0 b0 q0 t0 dhasSaved dkeptError dmoved ++ wS_ s0 v0 f0 r0 ++ wV_ v0 v_keys v_firsts v_ends v_values v_inferred v_gone cI cZ vkeys vfirsts vends vvalues vinferred vgone vmade ++ wF_ f0 f_keys f_days f_amounts f_versions cI fkeys fdays famounts fversions fcount ++ wR_ r0 r_keys r_days r_values cI rkeys rdays rvalues rcount ++ wO_ o0 cJ ov) sz [.ref d0, .int a2, .int a3, .int a4, .ref o0]) (Qi_ (dC, dI) (ty_ cI cZ cC cJ cD) R.1 (wD_ d0 s0 z0 b0 q0 t0 R.2.1.1 R.2.1.2.1 R.2.1.2.2 ++ wS_ s0 v0 f0 r0 ++ wV_ v0 v_keys v_firsts v_ends v_values v_inferred v_gone cI cZ R.2.2.1.1 R.2.2.1.2.1 R.2.2.1.2.2.1 R.2.2.1.2.2.2.1 R.2.2.1.2.2.2.2.1 R.2.2.1.2.2.2.2.2.1 R.2.2.1.2.2.2.2.2.2 ++ wF_ f0 f_keys f_days f_amounts f_versions cI R.2.2.2.1.1 R.2.2.2.1.2.1 R.2.2.2.1.2.2.1 R.2.2.2.1.2.2.2.1 R.2.2.2.1.2.2.2.2 ++ wR_ r0 r_keys r_days r_values cI rkeys rdays rvalues rcount ++ wO_ o0 cJ R.2.2.2.2) (va_A (wD_ d0 s0 z0 b0 q0 t0 dhasSaved dkeptError dmoved ++ wS_ s0 v0 f0 r0 ++ wV_ v0 v_keys v_firsts v_ends v_values v_inferred v_gone cI cZ vkeys vfirsts vends vvalues vinferred vgone vmade ++ wF_ f0 f_keys f_days f_amounts f_versions cI fkeys fdays famounts fversions fcount ++ wR_ r0 r_keys r_days r_values cI rkeys rdays rvalues rcount ++ wO_ o0 cJ ov) sz)) 3 18 (va_A (wD_ d0 s0 z0 b0 q0 t0 dhasSaved dkeptError dmoved ++ wS_ s0 v0 f0 r0 ++ wV_ v0 v_keys v_firsts v_ends v_values v_inferred v_gone cI cZ vkeys vfirsts vends vvalues vinferred vgone vmade ++ wF_ f0 f_keys f_days f_amounts f_versions cI fkeys fdays famounts fversions fcount ++ wR_ r0 r_keys r_days r_values cI rkeys rdays rvalues rcount ++ wO_ o0 cJ ov) sz) := by
  refine metw_ (cc := cL_addFact) (maxL := 6) (ret := (some .int)) (hh := [(0, 12, 15, 13), (0, 12, 19, 15), (0, 12, 23, 17)]) (Qcf := fun A => Qi_ (dC, dI) (ty_ cI cZ cC cJ cD) R.1 (wD_ d0 s0 z0 b0 q0 t0 R.2.1.1 R.2.1.2.1 R.2.1.2.2 ++ wS_ s0 v0 f0 r0 ++ wV_ v0 v_keys v_firsts v_ends v_values v_inferred v_gone cI cZ R.2.2.1.1 R.2.2.1.2.1 R.2.2.1.2.2.1 R.2.2.1.2.2.2.1 R.2.2.1.2.2.2.2.1 R.2.2.1.2.2.2.2.2.1 R.2.2.1.2.2.2.2.2.2 ++ wF_ f0 f_keys f_days f_amounts f_versions cI R.2.2.2.1.1 R.2.2.2.1.2.1 R.2.2.2.1.2.2.1 R.2.2.2.1.2.2.2.1 R.2.2.2.1.2.2.2.2 ++ wR_ r0 r_keys r_days r_values cI rkeys rdays rvalues rcount ++ wO_ o0 cJ R.2.2.2.2) A) (by decide) rfl (Nat.le_of_ble_eq_true rfl) ?_
  intro p e s m args below meth c A ls hx hb hr hts hown hlocks hml htab hA hU hN hC hP hK hD hl
  have hown : s.vm.findClass RL = some m.cls := hown
  have hl : lv_has ls 6 [(0, .ref d0), (1, .int a2), (2, .int a3), (3, .int a4), (4, .ref o0)] := hl
  have hS : va_S A s.heap s.heap [] := va_S.rf
  unfold f_L_addFact at hf
  dsimp only at hf
  refine lv_aload hx hb dL_addFact_0 (lv_at hl 4 rfl) ?_
  refine lv_iconst (v := 0) hx hb dL_addFact_2 (by decide) ?_
  refine lv_aload_n hx hb dL_addFact_3 rfl (lv_at hl 0 rfl) ?_
  refine lv_iload_n hx hb dL_addFact_4 rfl (lv_at hl 1 rfl) ?_
  refine lv_iload_n hx hb dL_addFact_5 rfl (lv_at hl 2 rfl) ?_
  refine lv_iload_n hx hb dL_addFact_6 rfl (lv_at hl 3 rfl) ?_
  obtain ⟨R18, g19, hf⟩ := bd_B hf
  obtain ⟨x1, ⟨dh3, dk4, dm5⟩, ⟨vk6, vf7, ve8, vv9, vi10, vg11, vm12⟩, ⟨fk13, fd14, fa15, fv16, fc17⟩⟩ := R18
  dsimp only at hf
  have hPc := hP.sub (ws' := wD_ d0 s0 z0 b0 q0 t0 dhasSaved dkeptError dmoved ++ wS_ s0 v0 f0 r0 ++ wV_ v0 v_keys v_firsts v_ends v_values v_inferred v_gone cI cZ vkeys vfirsts vends vvalues vinferred vgone vmade ++ wF_ f0 f_keys f_days f_amounts f_versions cI fkeys fdays famounts fversions fcount ++ wR_ r0 r_keys r_days r_values cI rkeys rdays rvalues rcount) [0, 1, 2, 3, 4, 5, 6, 7, 8, 9, 10, 11, 12, 13, 14, 15, 16, 17] rfl
  have hDc := hD.sub (ws' := wD_ d0 s0 z0 b0 q0 t0 dhasSaved dkeptError dmoved ++ wS_ s0 v0 f0 r0 ++ wV_ v0 v_keys v_firsts v_ends v_values v_inferred v_gone cI cZ vkeys vfirsts vends vvalues vinferred vgone vmade ++ wF_ f0 f_keys f_days f_amounts f_versions cI fkeys fdays famounts fversions fcount ++ wR_ r0 r_keys r_days r_values cI rkeys rdays rvalues rcount) [0, 1, 2, 3, 4, 5, 6, 7, 8, 9, 10, 11, 12, 13, 14, 15, 16, 17] (by decide) rfl
  have hFc := va_free (wc := wD_ d0 s0 z0 b0 q0 t0 dhasSaved dkeptError dmoved ++ wS_ s0 v0 f0 r0 ++ wV_ v0 v_keys v_firsts v_ends v_values v_inferred v_gone cI cZ vkeys vfirsts vends vvalues vinferred vgone vmade ++ wF_ f0 f_keys f_days f_amounts f_versions cI fkeys fdays famounts fversions fcount ++ wR_ r0 r_keys r_days r_values cI rkeys rdays rvalues rcount) hD hS hA [0, 1, 2, 3, 4, 5, 6, 7, 8, 9, 10, 11, 12, 13, 14, 15, 16, 17] rfl
  cases x1 with
  | error E24 =>
    by_cases c25 : E24 = "java/lang/IndexOutOfBoundsException"
    · have hf := ite_T c25 hf
      subst c25
      refine vx_calli (vx_runV (As := [.int a2, .int a3, .int a4]) (rest := [.int 0, .ref o0]) ⟨hx, hb, hml, hown, hts⟩ (c_X5_addFact l dC dI cI cZ cC cJ cD hst d0 s0 z0 b0 q0 t0 v0 f0 r0 v_keys v_firsts v_ends v_values v_inferred v_gone f_keys f_days f_amounts f_versions r_keys r_days r_values s.heap.size dhasSaved dkeptError dmoved vkeys vfirsts vends vvalues vinferred vgone vmade fkeys fdays famounts fversions fcount rkeys rdays rvalues rcount a2 a3 a4 ((Except.error "java/lang/IndexOutOfBoundsException"), (dh3, dk4, dm5), (vk6, vf7, ve8, vv9, vi10, vg11, vm12), (fk13, fd14, fa15, fv16, fc17)) g19) (cwV 3 hts gL_addFact_X5_addFact rfl rfl rfl hs_X5_addFact ⟨Nat.le_of_ble_eq_true rfl, Nat.le_of_ble_eq_true rfl⟩) (preVy_ (ci := 7) (q0 := 0) hPc hK hDc rfl rfl rfl rfl hS hU hN hFc hC.1) rfl rfl hl.1 rfl (lv_room (Nat.le_of_ble_eq_true rfl)) dL_addFact_7 ⟨Nat.le_of_ble_eq_true rfl, Nat.le_of_ble_eq_true rfl⟩) hS (fun q _ h => hFc q h) hFc (fun q _ h => hFc q h) (fun E ce q26 u t H22 locs ht hvm hp hB hz1 hk1 hS hce hcv hcl => ?_) (fun z23 u t H22 locs ht hvm hw hB hz1 hk1 hS => ?_)
      · obtain ⟨hE, hB⟩ := hB
        cases hE
        obtain ⟨hP, hD⟩ := aft_ (Wr := wO_ o0 cJ ov) (Wc' := wD_ d0 s0 z0 b0 q0 t0 dh3 dk4 dm5 ++ wS_ s0 v0 f0 r0 ++ wV_ v0 v_keys v_firsts v_ends v_values v_inferred v_gone cI cZ vk6 vf7 ve8 vv9 vi10 vg11 vm12 ++ wF_ f0 f_keys f_days f_amounts f_versions cI fk13 fd14 fa15 fv16 fc17 ++ wR_ r0 r_keys r_days r_values cI rkeys rdays rvalues rcount) (W2 := wD_ d0 s0 z0 b0 q0 t0 dh3 dk4 dm5 ++ wS_ s0 v0 f0 r0 ++ wV_ v0 v_keys v_firsts v_ends v_values v_inferred v_gone cI cZ vk6 vf7 ve8 vv9 vi10 vg11 vm12 ++ wF_ f0 f_keys f_days f_amounts f_versions cI fk13 fd14 fa15 fv16 fc17 ++ wR_ r0 r_keys r_days r_values cI rkeys rdays rvalues rcount ++ wO_ o0 cJ ov) hP hD [0, 1, 2, 3, 4, 5, 6, 7, 8, 9, 10, 11, 12, 13, 14, 15, 16, 17] [18] [1, 2, 3, 4, 5, 6, 7, 8, 9, 10, 11, 12, 13, 14, 15, 16, 17, 18, 0] rfl rfl (by decide) (by decide) (by decide) hk1 hFc hB ht rfl
        refine vx_catch (name := "java/lang/IndexOutOfBoundsException") hown [] ⟨0, 12, 15, 13⟩ [⟨0, 12, 19, 15⟩, ⟨0, 12, 23, 17⟩] (htab.trans rfl) (fun z hz => nomatch hz) (by decide +kernel) (by decide) (hts _ (List.mem_of_getElem? (i := 1) rfl)) ((hC.1.1 "java/lang/IndexOutOfBoundsException" (by decide +kernel)).use rfl) hce hcv hcl ?_
        refine lv_astore (lv' := [(5, .ref q26), (0, .ref d0), (1, .int a2), (2, .int a3), (3, .int a4), (4, .ref o0)]) hx hb dL_addFact_15 hl (by decide) rfl (fun ls hl => ?_)
        refine lv_iconst (v := 1) hx hb dL_addFact_17 (by decide) ?_
        have hR := Option.some.inj hf
        subst hR
        refine W.widen (k := 3) (n := 18) (Nat.le_of_ble_eq_true rfl) (Nat.le_of_ble_eq_true rfl) ?_
        exact W.iret (v := (1 : Int32)) hx hb hr (fun t ht hW => ⟨⟨(1 : Int32), (), rfl, rfl, by rw [ht]; exact hP, va_K.moved hW.alike hK, hD⟩, hS.F ht⟩) hS.2.2 dL_addFact_18
      · exact absurd hw (fun h => nomatch h)
    · have hf := ite_F c25 hf
      by_cases c27 : E24 = "java/lang/IllegalArgumentException"
      · have hf := ite_T c27 hf
        subst c27
        refine vx_calli (vx_runV (As := [.int a2, .int a3, .int a4]) (rest := [.int 0, .ref o0]) ⟨hx, hb, hml, hown, hts⟩ (c_X5_addFact l dC dI cI cZ cC cJ cD hst d0 s0 z0 b0 q0 t0 v0 f0 r0 v_keys v_firsts v_ends v_values v_inferred v_gone f_keys f_days f_amounts f_versions r_keys r_days r_values s.heap.size dhasSaved dkeptError dmoved vkeys vfirsts vends vvalues vinferred vgone vmade fkeys fdays famounts fversions fcount rkeys rdays rvalues rcount a2 a3 a4 ((Except.error "java/lang/IllegalArgumentException"), (dh3, dk4, dm5), (vk6, vf7, ve8, vv9, vi10, vg11, vm12), (fk13, fd14, fa15, fv16, fc17)) g19) (cwV 3 hts gL_addFact_X5_addFact rfl rfl rfl hs_X5_addFact ⟨Nat.le_of_ble_eq_true rfl, Nat.le_of_ble_eq_true rfl⟩) (preVy_ (ci := 7) (q0 := 0) hPc hK hDc rfl rfl rfl rfl hS hU hN hFc hC.1) rfl rfl hl.1 rfl (lv_room (Nat.le_of_ble_eq_true rfl)) dL_addFact_7 ⟨Nat.le_of_ble_eq_true rfl, Nat.le_of_ble_eq_true rfl⟩) hS (fun q _ h => hFc q h) hFc (fun q _ h => hFc q h) (fun E ce q28 u t H22 locs ht hvm hp hB hz1 hk1 hS hce hcv hcl => ?_) (fun z23 u t H22 locs ht hvm hw hB hz1 hk1 hS => ?_)
        · obtain ⟨hE, hB⟩ := hB
          cases hE
          obtain ⟨hP, hD⟩ := aft_ (Wr := wO_ o0 cJ ov) (Wc' := wD_ d0 s0 z0 b0 q0 t0 dh3 dk4 dm5 ++ wS_ s0 v0 f0 r0 ++ wV_ v0 v_keys v_firsts v_ends v_values v_inferred v_gone cI cZ vk6 vf7 ve8 vv9 vi10 vg11 vm12 ++ wF_ f0 f_keys f_days f_amounts f_versions cI fk13 fd14 fa15 fv16 fc17 ++ wR_ r0 r_keys r_days r_values cI rkeys rdays rvalues rcount) (W2 := wD_ d0 s0 z0 b0 q0 t0 dh3 dk4 dm5 ++ wS_ s0 v0 f0 r0 ++ wV_ v0 v_keys v_firsts v_ends v_values v_inferred v_gone cI cZ vk6 vf7 ve8 vv9 vi10 vg11 vm12 ++ wF_ f0 f_keys f_days f_amounts f_versions cI fk13 fd14 fa15 fv16 fc17 ++ wR_ r0 r_keys r_days r_values cI rkeys rdays rvalues rcount ++ wO_ o0 cJ ov) hP hD [0, 1, 2, 3, 4, 5, 6, 7, 8, 9, 10, 11, 12, 13, 14, 15, 16, 17] [18] [1, 2, 3, 4, 5, 6, 7, 8, 9, 10, 11, 12, 13, 14, 15, 16, 17, 18, 0] rfl rfl (by decide) (by decide) (by decide) hk1 hFc hB ht rfl
          refine vx_catch (name := "java/lang/IllegalArgumentException") hown [⟨0, 12, 15, 13⟩] ⟨0, 12, 19, 15⟩ [⟨0, 12, 23, 17⟩] (htab.trans rfl) (fun z hz => by (rcases List.mem_cons.mp hz with rfl | hz; exact Or.inr ⟨by decide, "java/lang/IndexOutOfBoundsException", hts _ (List.mem_of_getElem? (i := 1) rfl), hC.2 "java/lang/IllegalArgumentException" (by decide +kernel) "java/lang/IndexOutOfBoundsException" (by decide +kernel) (by decide +kernel)⟩; cases hz)) (by decide +kernel) (by decide) (hts _ (List.mem_of_getElem? (i := 2) rfl)) ((hC.1.1 "java/lang/IllegalArgumentException" (by decide +kernel)).use rfl) hce hcv hcl ?_
          refine lv_astore (lv' := [(5, .ref q28), (0, .ref d0), (1, .int a2), (2, .int a3), (3, .int a4), (4, .ref o0)]) hx hb dL_addFact_19 hl (by decide) rfl (fun ls hl => ?_)
          refine lv_iconst (v := 2) hx hb dL_addFact_21 (by decide) ?_
          have hR := Option.some.inj hf
          subst hR
          refine W.widen (k := 3) (n := 18) (Nat.le_of_ble_eq_true rfl) (Nat.le_of_ble_eq_true rfl) ?_
          exact W.iret (v := (2 : Int32)) hx hb hr (fun t ht hW => ⟨⟨(2 : Int32), (), rfl, rfl, by rw [ht]; exact hP, va_K.moved hW.alike hK, hD⟩, hS.F ht⟩) hS.2.2 dL_addFact_22
        · exact absurd hw (fun h => nomatch h)
      · have hf := ite_F c27 hf
        by_cases c29 : E24 = "java/lang/IllegalStateException"
        · have hf := ite_T c29 hf
          subst c29
          refine vx_calli (vx_runV (As := [.int a2, .int a3, .int a4]) (rest := [.int 0, .ref o0]) ⟨hx, hb, hml, hown, hts⟩ (c_X5_addFact l dC dI cI cZ cC cJ cD hst d0 s0 z0 b0 q0 t0 v0 f0 r0 v_keys v_firsts v_ends v_values v_inferred v_gone f_keys f_days f_amounts f_versions r_keys r_days r_values s.heap.size dhasSaved dkeptError dmoved vkeys vfirsts vends vvalues vinferred vgone vmade fkeys fdays famounts fversions fcount rkeys rdays rvalues rcount a2 a3 a4 ((Except.error "java/lang/IllegalStateException"), (dh3, dk4, dm5), (vk6, vf7, ve8, vv9, vi10, vg11, vm12), (fk13, fd14, fa15, fv16, fc17)) g19) (cwV 3 hts gL_addFact_X5_addFact rfl rfl rfl hs_X5_addFact ⟨Nat.le_of_ble_eq_true rfl, Nat.le_of_ble_eq_true rfl⟩) (preVy_ (ci := 7) (q0 := 0) hPc hK hDc rfl rfl rfl rfl hS hU hN hFc hC.1) rfl rfl hl.1 rfl (lv_room (Nat.le_of_ble_eq_true rfl)) dL_addFact_7 ⟨Nat.le_of_ble_eq_true rfl, Nat.le_of_ble_eq_true rfl⟩) hS (fun q _ h => hFc q h) hFc (fun q _ h => hFc q h) (fun E ce q30 u t H22 locs ht hvm hp hB hz1 hk1 hS hce hcv hcl => ?_) (fun z23 u t H22 locs ht hvm hw hB hz1 hk1 hS => ?_)
          · obtain ⟨hE, hB⟩ := hB
            cases hE
            obtain ⟨hP, hD⟩ := aft_ (Wr := wO_ o0 cJ ov) (Wc' := wD_ d0 s0 z0 b0 q0 t0 dh3 dk4 dm5 ++ wS_ s0 v0 f0 r0 ++ wV_ v0 v_keys v_firsts v_ends v_values v_inferred v_gone cI cZ vk6 vf7 ve8 vv9 vi10 vg11 vm12 ++ wF_ f0 f_keys f_days f_amounts f_versions cI fk13 fd14 fa15 fv16 fc17 ++ wR_ r0 r_keys r_days r_values cI rkeys rdays rvalues rcount) (W2 := wD_ d0 s0 z0 b0 q0 t0 dh3 dk4 dm5 ++ wS_ s0 v0 f0 r0 ++ wV_ v0 v_keys v_firsts v_ends v_values v_inferred v_gone cI cZ vk6 vf7 ve8 vv9 vi10 vg11 vm12 ++ wF_ f0 f_keys f_days f_amounts f_versions cI fk13 fd14 fa15 fv16 fc17 ++ wR_ r0 r_keys r_days r_values cI rkeys rdays rvalues rcount ++ wO_ o0 cJ ov) hP hD [0, 1, 2, 3, 4, 5, 6, 7, 8, 9, 10, 11, 12, 13, 14, 15, 16, 17] [18] [1, 2, 3, 4, 5, 6, 7, 8, 9, 10, 11, 12, 13, 14, 15, 16, 17, 18, 0] rfl rfl (by decide) (by decide) (by decide) hk1 hFc hB ht rfl
            refine vx_catch (name := "java/lang/IllegalStateException") hown [⟨0, 12, 15, 13⟩, ⟨0, 12, 19, 15⟩] ⟨0, 12, 23, 17⟩ [] (htab.trans rfl) (fun z hz => by (rcases List.mem_cons.mp hz with rfl | hz; exact Or.inr ⟨by decide, "java/lang/IndexOutOfBoundsException", hts _ (List.mem_of_getElem? (i := 1) rfl), hC.2 "java/lang/IllegalStateException" (by decide +kernel) "java/lang/IndexOutOfBoundsException" (by decide +kernel) (by decide +kernel)⟩; rcases List.mem_cons.mp hz with rfl | hz; exact Or.inr ⟨by decide, "java/lang/IllegalArgumentException", hts _ (List.mem_of_getElem? (i := 2) rfl), hC.2 "java/lang/IllegalStateException" (by decide +kernel) "java/lang/IllegalArgumentException" (by decide +kernel) (by decide +kernel)⟩; cases hz)) (by decide +kernel) (by decide) (hts _ (List.mem_of_getElem? (i := 3) rfl)) ((hC.1.1 "java/lang/IllegalStateException" (by decide +kernel)).use rfl) hce hcv hcl ?_
            refine lv_astore (lv' := [(5, .ref q30), (0, .ref d0), (1, .int a2), (2, .int a3), (3, .int a4), (4, .ref o0)]) hx hb dL_addFact_23 hl (by decide) rfl (fun ls hl => ?_)
            refine lv_iconst (v := 3) hx hb dL_addFact_25 (by decide) ?_
            have hR := Option.some.inj hf
            subst hR
            refine W.widen (k := 3) (n := 18) (Nat.le_of_ble_eq_true rfl) (Nat.le_of_ble_eq_true rfl) ?_
            exact W.iret (v := (3 : Int32)) hx hb hr (fun t ht hW => ⟨⟨(3 : Int32), (), rfl, rfl, by rw [ht]; exact hP, va_K.moved hW.alike hK, hD⟩, hS.F ht⟩) hS.2.2 dL_addFact_26
          · exact absurd hw (fun h => nomatch h)
        · have hf := ite_F c29 hf
          exact absurd hf (fun h => nomatch h)
  | ok r2 =>
    refine vx_calli (vx_runV (As := [.int a2, .int a3, .int a4]) (rest := [.int 0, .ref o0]) ⟨hx, hb, hml, hown, hts⟩ (c_X5_addFact l dC dI cI cZ cC cJ cD hst d0 s0 z0 b0 q0 t0 v0 f0 r0 v_keys v_firsts v_ends v_values v_inferred v_gone f_keys f_days f_amounts f_versions r_keys r_days r_values s.heap.size dhasSaved dkeptError dmoved vkeys vfirsts vends vvalues vinferred vgone vmade fkeys fdays famounts fversions fcount rkeys rdays rvalues rcount a2 a3 a4 ((Except.ok r2), (dh3, dk4, dm5), (vk6, vf7, ve8, vv9, vi10, vg11, vm12), (fk13, fd14, fa15, fv16, fc17)) g19) (cwV 3 hts gL_addFact_X5_addFact rfl rfl rfl hs_X5_addFact ⟨Nat.le_of_ble_eq_true rfl, Nat.le_of_ble_eq_true rfl⟩) (preVy_ (ci := 7) (q0 := 0) hPc hK hDc rfl rfl rfl rfl hS hU hN hFc hC.1) rfl rfl hl.1 rfl (lv_room (Nat.le_of_ble_eq_true rfl)) dL_addFact_7 ⟨Nat.le_of_ble_eq_true rfl, Nat.le_of_ble_eq_true rfl⟩) hS (fun q _ h => hFc q h) hFc (fun q _ h => hFc q h) (fun E ce q9 u t H22 locs ht hvm hp hB hz1 hk1 hS hce hcv hcl => ?_) (fun z23 u t H22 locs ht hvm hw hB hz1 hk1 hS => ?_)
    · exact absurd hB.1 (fun h => nomatch h)
    · have hw : r2 = z23 := Except.ok.inj hw
      subst hw
      obtain ⟨hP, hD⟩ := aft_ (Wr := wO_ o0 cJ ov) (Wc' := wD_ d0 s0 z0 b0 q0 t0 dh3 dk4 dm5 ++ wS_ s0 v0 f0 r0 ++ wV_ v0 v_keys v_firsts v_ends v_values v_inferred v_gone cI cZ vk6 vf7 ve8 vv9 vi10 vg11 vm12 ++ wF_ f0 f_keys f_days f_amounts f_versions cI fk13 fd14 fa15 fv16 fc17 ++ wR_ r0 r_keys r_days r_values cI rkeys rdays rvalues rcount) (W2 := wD_ d0 s0 z0 b0 q0 t0 dh3 dk4 dm5 ++ wS_ s0 v0 f0 r0 ++ wV_ v0 v_keys v_firsts v_ends v_values v_inferred v_gone cI cZ vk6 vf7 ve8 vv9 vi10 vg11 vm12 ++ wF_ f0 f_keys f_days f_amounts f_versions cI fk13 fd14 fa15 fv16 fc17 ++ wR_ r0 r_keys r_days r_values cI rkeys rdays rvalues rcount ++ wO_ o0 cJ ov) hP hD [0, 1, 2, 3, 4, 5, 6, 7, 8, 9, 10, 11, 12, 13, 14, 15, 16, 17] [18] [1, 2, 3, 4, 5, 6, 7, 8, 9, 10, 11, 12, 13, 14, 15, 16, 17, 18, 0] rfl rfl (by decide) (by decide) (by decide) hk1 hFc hB ht rfl
      refine lv_i2l hx hb dL_addFact_10 rfl ?_
      obtain ⟨h31, hf⟩ := gd_T hf
      refine va_last hx hb hK hP hD hS 18 3 rfl rfl h31 dL_addFact_11 (fun H32 locs hP hD hS => ?_)
      have hP : va_P (dC, dI) vwCl (wD_ d0 s0 z0 b0 q0 t0 dh3 dk4 dm5 ++ wS_ s0 v0 f0 r0 ++ wV_ v0 v_keys v_firsts v_ends v_values v_inferred v_gone cI cZ vk6 vf7 ve8 vv9 vi10 vg11 vm12 ++ wF_ f0 f_keys f_days f_amounts f_versions cI fk13 fd14 fa15 fv16 fc17 ++ wR_ r0 r_keys r_days r_values cI rkeys rdays rvalues rcount ++ wO_ o0 cJ (vp_updL ov ((0 : Int32).toNatClampNeg) r2.toInt64)) H32 := hP
      have hD : va_D A (wD_ d0 s0 z0 b0 q0 t0 dh3 dk4 dm5 ++ wS_ s0 v0 f0 r0 ++ wV_ v0 v_keys v_firsts v_ends v_values v_inferred v_gone cI cZ vk6 vf7 ve8 vv9 vi10 vg11 vm12 ++ wF_ f0 f_keys f_days f_amounts f_versions cI fk13 fd14 fa15 fv16 fc17 ++ wR_ r0 r_keys r_days r_values cI rkeys rdays rvalues rcount ++ wO_ o0 cJ (vp_updL ov ((0 : Int32).toNatClampNeg) r2.toInt64)) := hD
      obtain ⟨u33, e34, hf⟩ := nm_T hf
      rw [← e34] at hP hD
      refine lv_goto (tgt := 27) hx hb dL_addFact_12 (by decide) ?_
      refine lv_iconst (v := 0) hx hb dL_addFact_27 (by decide) ?_
      have hR := Option.some.inj hf
      subst hR
      refine W.widen (k := 3) (n := 18) (Nat.le_of_ble_eq_true rfl) (Nat.le_of_ble_eq_true rfl) ?_
      exact W.iret (v := (0 : Int32)) hx hb hr (fun t ht hW => ⟨⟨(0 : Int32), (), rfl, rfl, by rw [ht]; exact hP, va_K.moved hW.alike hK, hD⟩, hS.F ht⟩) hS.2.2 dL_addFact_28
theorem hs_L_addFact : yL_addFact.cls ≠ "java/lang/invoke/MethodHandle" ∧ yL_addFact.cls ≠ "java/lang/invoke/VarHandle" ∧ (parseMethodDescriptor yL_addFact.desc).map (fun d => d.parameters.length) = some 5 := by decide +kernel
def f_L_close (a2 : Int32) (a3 : Int32) (D_ : tD_) (S_ : tS_) (V_ : tV_) (F_ : tF_) (R_ : tR_) (ov : tO_) : Option (Int32 × tD_ × tV_ × tF_ × tO_) :=
match D_ with
| (dhasSaved, dkeptError, dmoved) =>
match V_ with
| (vkeys, vfirsts, vends, vvalues, vinferred, vgone, vmade) =>
match F_ with
| (fkeys, fdays, famounts, fversions, fcount) =>
match R_ with
| (rkeys, rdays, rvalues, rcount) =>
bd_ (f_X5_close a2 a3 (dhasSaved, dkeptError, dmoved) () (vkeys, vfirsts, vends, vvalues, vinferred, vgone, vmade) (fkeys, fdays, famounts, fversions, fcount) (rkeys, rdays, rvalues, rcount)) (fun (x1, (dh3, dk4, dm5), (vk6, vf7, ve8, vv9, vi10, vg11, vm12), (fk13, fd14, fa15, fv16, fc17)) =>
match x1 with
| Except.error E24 => (if E24 = "java/lang/IndexOutOfBoundsException" then some ((1 : Int32), (dh3, dk4, dm5), (vk6, vf7, ve8, vv9, vi10, vg11, vm12), (fk13, fd14, fa15, fv16, fc17), ov) else (if E24 = "java/lang/IllegalArgumentException" then some ((2 : Int32), (dh3, dk4, dm5), (vk6, vf7, ve8, vv9, vi10, vg11, vm12), (fk13, fd14, fa15, fv16, fc17), ov) else (if E24 = "java/util/NoSuchElementException" then some ((3 : Int32), (dh3, dk4, dm5), (vk6, vf7, ve8, vv9, vi10, vg11, vm12), (fk13, fd14, fa15, fv16, fc17), ov) else (if E24 = "java/lang/IllegalStateException" then some ((4 : Int32), (dh3, dk4, dm5), (vk6, vf7, ve8, vv9, vi10, vg11, vm12), (fk13, fd14, fa15, fv16, fc17), ov) else none))))
| Except.ok r2 =>
gd_ (0 : Int32) 1 (nm_ (vp_updL ov ((0 : Int32).toNatClampNeg) r2.toInt64) (fun u35 =>
some ((0 : Int32), (dh3, dk4, dm5), (vk6, vf7, ve8, vv9, vi10, vg11, vm12), (fk13, fd14, fa15, fv16, fc17), u35))))
abbrev rm_L_close : Room := { frames := 8, cells := 3, slots := 18, locals := 135 }
set_option maxHeartbeats 4000000 in
set_option maxRecDepth 100000 in
theorem c_L_close (l : Launch) (dC : Nat → ClassId) (dI : Nat → Nat → Nat) (cI cZ cC cJ cD : ClassId) (hst : l.stackTraces = false) (d0 s0 z0 b0 q0 t0 v0 f0 r0 v_keys v_firsts v_ends v_values v_inferred v_gone f_keys f_days f_amounts f_versions r_keys r_days r_values o0 : Nat) (sz : Nat) (dhasSaved : Int32) (dkeptError : Int32) (dmoved : Int32) (vkeys : Nat → Int32) (vfirsts : Nat → Int32) (vends : Nat → Int32) (vvalues : Nat → Int32) (vinferred : Nat → Int32) (vgone : Nat → Int32) (vmade : Int32) (fkeys : Nat → Int32) (fdays : Nat → Int32) (famounts : Nat → Int32) (fversions : Nat → Int32) (fcount : Int32) (rkeys : Nat → Int32) (rdays : Nat → Int32) (rvalues : Nat → Int32) (rcount : Int32) (ov : Nat → Int64) (a2 : Int32) (a3 : Int32) (R : Int32 × tD_ × tV_ × tF_ × tO_) (hf : f_L_close a2 a3 (dhasSaved, dkeptError, dmoved) () (vkeys, vfirsts, vends, vvalues, vinferred, vgone, vmade) (fkeys, fdays, famounts, fversions, fcount) (rkeys, rdays, rvalues, rcount) ov = some R) : Met l yL_close wsL_close rm_L_close (PL_ (dC, dI) (ty_ cI cZ cC cJ cD) (wD_ d0 s0 z0 b0 q0 t0 dhasSaved dkeptError dmoved ++ wS_ s0 v0 f0 r0 ++ wV_ v0 v_keys v_firsts v_ends v_values v_inferred v_gone cI cZ vkeys vfirsts vends vvalues vinferred vgone vmade ++ wF_ f0 f_keys f_days f_amounts f_versions cI fkeys fdays famounts fversions fcount ++ wR_ r0 r_keys r_days r_values cI rkeys rdays rvalues rcount ++ wO_ o0 cJ ov) sz [.ref d0, .int a2, .int a3, .ref o0]) (Qi_ (dC, dI) (ty_ cI cZ cC cJ cD) R.1 (wD_ d0 s0 z0 b0 q0 t0 R.2.1.1 R.2.1.2.1 R.2.1.2.2 ++ wS_ s0 v0 f0 r0 ++ wV_ v0 v_keys v_firsts v_ends v_values v_inferred v_gone cI cZ R.2.2.1.1 R.2.2.1.2.1 R.2.2.1.2.2.1 R.2.2.1.2.2.2.1 R.2.2.1.2.2.2.2.1 R.2.2.1.2.2.2.2.2.1 R.2.2.1.2.2.2.2.2.2 ++ wF_ f0 f_keys f_days f_amounts f_versions cI R.2.2.2.1.1 R.2.2.2.1.2.1 R.2.2.2.1.2.2.1 R.2.2.2.1.2.2.2.1 R.2.2.2.1.2.2.2.2 ++ wR_ r0 r_keys r_days r_values cI rkeys rdays rvalues rcount ++ wO_ o0 cJ R.2.2.2.2) (va_A (wD_ d0 s0 z0 b0 q0 t0 dhasSaved dkeptError dmoved ++ wS_ s0 v0 f0 r0 ++ wV_ v0 v_keys v_firsts v_ends v_values v_inferred v_gone cI cZ vkeys vfirsts vends vvalues vinferred vgone vmade ++ wF_ f0 f_keys f_days f_amounts f_versions cI fkeys fdays famounts fversions fcount ++ wR_ r0 r_keys r_days r_values cI rkeys rdays rvalues rcount ++ wO_ o0 cJ ov) sz)) 3 18 (va_A (wD_ d0 s0 z0 b0 q0 t0 dhasSaved dkeptError dmoved ++ wS_ s0 v0 f0 r0 ++ wV_ v0 v_keys v_firsts v_ends v_values v_inferred v_gone cI cZ vkeys vfirsts vends vvalues vinferred vgone vmade ++ wF_ f0 f_keys f_days f_amounts f_versions cI fkeys fdays famounts fversions fcount ++ wR_ r0 r_keys r_days r_values cI rkeys rdays rvalues rcount ++ wO_ o0 cJ ov) sz) := by
  refine metw_ (cc := cL_close) (maxL := 5) (ret := (some .int)) (hh := [(0, 10, 13, 13), (0, 10, 17, 15), (0, 10, 21, 26), (0, 10, 25, 17)]) (Qcf := fun A => Qi_ (dC, dI) (ty_ cI cZ cC cJ cD) R.1 (wD_ d0 s0 z0 b0 q0 t0 R.2.1.1 R.2.1.2.1 R.2.1.2.2 ++ wS_ s0 v0 f0 r0 ++ wV_ v0 v_keys v_firsts v_ends v_values v_inferred v_gone cI cZ R.2.2.1.1 R.2.2.1.2.1 R.2.2.1.2.2.1 R.2.2.1.2.2.2.1 R.2.2.1.2.2.2.2.1 R.2.2.1.2.2.2.2.2.1 R.2.2.1.2.2.2.2.2.2 ++ wF_ f0 f_keys f_days f_amounts f_versions cI R.2.2.2.1.1 R.2.2.2.1.2.1 R.2.2.2.1.2.2.1 R.2.2.2.1.2.2.2.1 R.2.2.2.1.2.2.2.2 ++ wR_ r0 r_keys r_days r_values cI rkeys rdays rvalues rcount ++ wO_ o0 cJ R.2.2.2.2) A) (by decide) rfl (Nat.le_of_ble_eq_true rfl) ?_
  intro p e s m args below meth c A ls hx hb hr hts hown hlocks hml htab hA hU hN hC hP hK hD hl
  have hown : s.vm.findClass RL = some m.cls := hown
  have hl : lv_has ls 5 [(0, .ref d0), (1, .int a2), (2, .int a3), (3, .ref o0)] := hl
  have hS : va_S A s.heap s.heap [] := va_S.rf
  unfold f_L_close at hf
  dsimp only at hf
  refine lv_aload_n hx hb dL_close_0 rfl (lv_at hl 3 rfl) ?_
  refine lv_iconst (v := 0) hx hb dL_close_1 (by decide) ?_
  refine lv_aload_n hx hb dL_close_2 rfl (lv_at hl 0 rfl) ?_
  refine lv_iload_n hx hb dL_close_3 rfl (lv_at hl 1 rfl) ?_
  refine lv_iload_n hx hb dL_close_4 rfl (lv_at hl 2 rfl) ?_
  obtain ⟨R18, g19, hf⟩ := bd_B hf
  obtain ⟨x1, ⟨dh3, dk4, dm5⟩, ⟨vk6, vf7, ve8, vv9, vi10, vg11, vm12⟩, ⟨fk13, fd14, fa15, fv16, fc17⟩⟩ := R18
  dsimp only at hf
  have hPc := hP.sub (ws' := wD_ d0 s0 z0 b0 q0 t0 dhasSaved dkeptError dmoved ++ wS_ s0 v0 f0 r0 ++ wV_ v0 v_keys v_firsts v_ends v_values v_inferred v_gone cI cZ vkeys vfirsts vends vvalues vinferred vgone vmade ++ wF_ f0 f_keys f_days f_amounts f_versions cI fkeys fdays famounts fversions fcount ++ wR_ r0 r_keys r_days r_values cI rkeys rdays rvalues rcount) [0, 1, 2, 3, 4, 5, 6, 7, 8, 9, 10, 11, 12, 13, 14, 15, 16, 17] rfl
  have hDc := hD.sub (ws' := wD_ d0 s0 z0 b0 q0 t0 dhasSaved dkeptError dmoved ++ wS_ s0 v0 f0 r0 ++ wV_ v0 v_keys v_firsts v_ends v_values v_inferred v_gone cI cZ vkeys vfirsts vends vvalues vinferred vgone vmade ++ wF_ f0 f_keys f_days f_amounts f_versions cI fkeys fdays famounts fversions fcount ++ wR_ r0 r_keys r_days r_values cI rkeys rdays rvalues rcount) [0, 1, 2, 3, 4, 5, 6, 7, 8, 9, 10, 11, 12, 13, 14, 15, 16, 17] (by decide) rfl
  have hFc := va_free (wc := wD_ d0 s0 z0 b0 q0 t0 dhasSaved dkeptError dmoved ++ wS_ s0 v0 f0 r0 ++ wV_ v0 v_keys v_firsts v_ends v_values v_inferred v_gone cI cZ vkeys vfirsts vends vvalues vinferred vgone vmade ++ wF_ f0 f_keys f_days f_amounts f_versions cI fkeys fdays famounts fversions fcount ++ wR_ r0 r_keys r_days r_values cI rkeys rdays rvalues rcount) hD hS hA [0, 1, 2, 3, 4, 5, 6, 7, 8, 9, 10, 11, 12, 13, 14, 15, 16, 17] rfl
  cases x1 with
  | error E24 =>
    by_cases c25 : E24 = "java/lang/IndexOutOfBoundsException"
    · have hf := ite_T c25 hf
      subst c25
      refine vx_calli (vx_runV (As := [.int a2, .int a3]) (rest := [.int 0, .ref o0]) ⟨hx, hb, hml, hown, hts⟩ (c_X5_close l dC dI cI cZ cC cJ cD hst d0 s0 z0 b0 q0 t0 v0 f0 r0 v_keys v_firsts v_ends v_values v_inferred v_gone f_keys f_days f_amounts f_versions r_keys r_days r_values s.heap.size dhasSaved dkeptError dmoved vkeys vfirsts vends vvalues vinferred vgone vmade fkeys fdays famounts fversions fcount rkeys rdays rvalues rcount a2 a3 ((Except.error "java/lang/IndexOutOfBoundsException"), (dh3, dk4, dm5), (vk6, vf7, ve8, vv9, vi10, vg11, vm12), (fk13, fd14, fa15, fv16, fc17)) g19) (cwV 2 hts gL_close_X5_close rfl rfl rfl hs_X5_close ⟨Nat.le_of_ble_eq_true rfl, Nat.le_of_ble_eq_true rfl⟩) (preVy_ (ci := 7) (q0 := 0) hPc hK hDc rfl rfl rfl rfl hS hU hN hFc hC.1) rfl rfl hl.1 rfl (lv_room (Nat.le_of_ble_eq_true rfl)) dL_close_5 ⟨Nat.le_of_ble_eq_true rfl, Nat.le_of_ble_eq_true rfl⟩) hS (fun q _ h => hFc q h) hFc (fun q _ h => hFc q h) (fun E ce q26 u t H22 locs ht hvm hp hB hz1 hk1 hS hce hcv hcl => ?_) (fun z23 u t H22 locs ht hvm hw hB hz1 hk1 hS => ?_)
      · obtain ⟨hE, hB⟩ := hB
        cases hE
        obtain ⟨hP, hD⟩ := aft_ (Wr := wO_ o0 cJ ov) (Wc' := wD_ d0 s0 z0 b0 q0 t0 dh3 dk4 dm5 ++ wS_ s0 v0 f0 r0 ++ wV_ v0 v_keys v_firsts v_ends v_values v_inferred v_gone cI cZ vk6 vf7 ve8 vv9 vi10 vg11 vm12 ++ wF_ f0 f_keys f_days f_amounts f_versions cI fk13 fd14 fa15 fv16 fc17 ++ wR_ r0 r_keys r_days r_values cI rkeys rdays rvalues rcount) (W2 := wD_ d0 s0 z0 b0 q0 t0 dh3 dk4 dm5 ++ wS_ s0 v0 f0 r0 ++ wV_ v0 v_keys v_firsts v_ends v_values v_inferred v_gone cI cZ vk6 vf7 ve8 vv9 vi10 vg11 vm12 ++ wF_ f0 f_keys f_days f_amounts f_versions cI fk13 fd14 fa15 fv16 fc17 ++ wR_ r0 r_keys r_days r_values cI rkeys rdays rvalues rcount ++ wO_ o0 cJ ov) hP hD [0, 1, 2, 3, 4, 5, 6, 7, 8, 9, 10, 11, 12, 13, 14, 15, 16, 17] [18] [1, 2, 3, 4, 5, 6, 7, 8, 9, 10, 11, 12, 13, 14, 15, 16, 17, 18, 0] rfl rfl (by decide) (by decide) (by decide) hk1 hFc hB ht rfl
        refine vx_catch (name := "java/lang/IndexOutOfBoundsException") hown [] ⟨0, 10, 13, 13⟩ [⟨0, 10, 17, 15⟩, ⟨0, 10, 21, 26⟩, ⟨0, 10, 25, 17⟩] (htab.trans rfl) (fun z hz => nomatch hz) (by decide +kernel) (by decide) (hts _ (List.mem_of_getElem? (i := 1) rfl)) ((hC.1.1 "java/lang/IndexOutOfBoundsException" (by decide +kernel)).use rfl) hce hcv hcl ?_
        refine lv_astore (lv' := [(4, .ref q26), (0, .ref d0), (1, .int a2), (2, .int a3), (3, .ref o0)]) hx hb dL_close_13 hl (by decide) rfl (fun ls hl => ?_)
        refine lv_iconst (v := 1) hx hb dL_close_15 (by decide) ?_
        have hR := Option.some.inj hf
        subst hR
        refine W.widen (k := 3) (n := 18) (Nat.le_of_ble_eq_true rfl) (Nat.le_of_ble_eq_true rfl) ?_
        exact W.iret (v := (1 : Int32)) hx hb hr (fun t ht hW => ⟨⟨(1 : Int32), (), rfl, rfl, by rw [ht]; exact hP, va_K.moved hW.alike hK, hD⟩, hS.F ht⟩) hS.2.2 dL_close_16
      · exact absurd hw (fun h => nomatch h)
    · have hf := ite_F c25 hf
      by_cases c27 : E24 = "java/lang/IllegalArgumentException"
      · have hf := ite_T c27 hf
        subst c27
        refine vx_calli (vx_runV (As := [.int a2, .int a3]) (rest := [.int 0, .ref o0]) ⟨hx, hb, hml, hown, hts⟩ (c_X5_close l dC dI cI cZ cC cJ cD hst d0 s0 z0 b0 q0 t0 v0 f0 r0 v_keys v_firsts v_ends v_values v_inferred v_gone f_keys f_days f_amounts f_versions r_keys r_days r_values s.heap.size dhasSaved dkeptError dmoved vkeys vfirsts vends vvalues vinferred vgone vmade fkeys fdays famounts fversions fcount rkeys rdays rvalues rcount a2 a3 ((Except.error "java/lang/IllegalArgumentException"), (dh3, dk4, dm5), (vk6, vf7, ve8, vv9, vi10, vg11, vm12), (fk13, fd14, fa15, fv16, fc17)) g19) (cwV 2 hts gL_close_X5_close rfl rfl rfl hs_X5_close ⟨Nat.le_of_ble_eq_true rfl, Nat.le_of_ble_eq_true rfl⟩) (preVy_ (ci := 7) (q0 := 0) hPc hK hDc rfl rfl rfl rfl hS hU hN hFc hC.1) rfl rfl hl.1 rfl (lv_room (Nat.le_of_ble_eq_true rfl)) dL_close_5 ⟨Nat.le_of_ble_eq_true rfl, Nat.le_of_ble_eq_true rfl⟩) hS (fun q _ h => hFc q h) hFc (fun q _ h => hFc q h) (fun E ce q28 u t H22 locs ht hvm hp hB hz1 hk1 hS hce hcv hcl => ?_) (fun z23 u t H22 locs ht hvm hw hB hz1 hk1 hS => ?_)
        · obtain ⟨hE, hB⟩ := hB
          cases hE
          obtain ⟨hP, hD⟩ := aft_ (Wr := wO_ o0 cJ ov) (Wc' := wD_ d0 s0 z0 b0 q0 t0 dh3 dk4 dm5 ++ wS_ s0 v0 f0 r0 ++ wV_ v0 v_keys v_firsts v_ends v_values v_inferred v_gone cI cZ vk6 vf7 ve8 vv9 vi10 vg11 vm12 ++ wF_ f0 f_keys f_days f_amounts f_versions cI fk13 fd14 fa15 fv16 fc17 ++ wR_ r0 r_keys r_days r_values cI rkeys rdays rvalues rcount) (W2 := wD_ d0 s0 z0 b0 q0 t0 dh3 dk4 dm5 ++ wS_ s0 v0 f0 r0 ++ wV_ v0 v_keys v_firsts v_ends v_values v_inferred v_gone cI cZ vk6 vf7 ve8 vv9 vi10 vg11 vm12 ++ wF_ f0 f_keys f_days f_amounts f_versions cI fk13 fd14 fa15 fv16 fc17 ++ wR_ r0 r_keys r_days r_values cI rkeys rdays rvalues rcount ++ wO_ o0 cJ ov) hP hD [0, 1, 2, 3, 4, 5, 6, 7, 8, 9, 10, 11, 12, 13, 14, 15, 16, 17] [18] [1, 2, 3, 4, 5, 6, 7, 8, 9, 10, 11, 12, 13, 14, 15, 16, 17, 18, 0] rfl rfl (by decide) (by decide) (by decide) hk1 hFc hB ht rfl
          refine vx_catch (name := "java/lang/IllegalArgumentException") hown [⟨0, 10, 13, 13⟩] ⟨0, 10, 17, 15⟩ [⟨0, 10, 21, 26⟩, ⟨0, 10, 25, 17⟩] (htab.trans rfl) (fun z hz => by (rcases List.mem_cons.mp hz with rfl | hz; exact Or.inr ⟨by decide, "java/lang/IndexOutOfBoundsException", hts _ (List.mem_of_getElem? (i := 1) rfl), hC.2 "java/lang/IllegalArgumentException" (by decide +kernel) "java/lang/IndexOutOfBoundsException" (by decide +kernel) (by decide +kernel)⟩; cases hz)) (by decide +kernel) (by decide) (hts _ (List.mem_of_getElem? (i := 2) rfl)) ((hC.1.1 "java/lang/IllegalArgumentException" (by decide +kernel)).use rfl) hce hcv hcl ?_
          refine lv_astore (lv' := [(4, .ref q28), (0, .ref d0), (1, .int a2), (2, .int a3), (3, .ref o0)]) hx hb dL_close_17 hl (by decide) rfl (fun ls hl => ?_)
          refine lv_iconst (v := 2) hx hb dL_close_19 (by decide) ?_
          have hR := Option.some.inj hf
          subst hR
          refine W.widen (k := 3) (n := 18) (Nat.le_of_ble_eq_true rfl) (Nat.le_of_ble_eq_true rfl) ?_
          exact W.iret (v := (2 : Int32)) hx hb hr (fun t ht hW => ⟨⟨(2 : Int32), (), rfl, rfl, by rw [ht]; exact hP, va_K.moved hW.alike hK, hD⟩, hS.F ht⟩) hS.2.2 dL_close_20
        · exact absurd hw (fun h => nomatch h)
      · have hf := ite_F c27 hf
        by_cases c29 : E24 = "java/util/NoSuchElementException"
        · have hf := ite_T c29 hf
          subst c29
          refine vx_calli (vx_runV (As := [.int a2, .int a3]) (rest := [.int 0, .ref o0]) ⟨hx, hb, hml, hown, hts⟩ (c_X5_close l dC dI cI cZ cC cJ cD hst d0 s0 z0 b0 q0 t0 v0 f0 r0 v_keys v_firsts v_ends v_values v_inferred v_gone f_keys f_days f_amounts f_versions r_keys r_days r_values s.heap.size dhasSaved dkeptError dmoved vkeys vfirsts vends vvalues vinferred vgone vmade fkeys fdays famounts fversions fcount rkeys rdays rvalues rcount a2 a3 ((Except.error "java/util/NoSuchElementException"), (dh3, dk4, dm5), (vk6, vf7, ve8, vv9, vi10, vg11, vm12), (fk13, fd14, fa15, fv16, fc17)) g19) (cwV 2 hts gL_close_X5_close rfl rfl rfl hs_X5_close ⟨Nat.le_of_ble_eq_true rfl, Nat.le_of_ble_eq_true rfl⟩) (preVy_ (ci := 7) (q0 := 0) hPc hK hDc rfl rfl rfl rfl hS hU hN hFc hC.1) rfl rfl hl.1 rfl (lv_room (Nat.le_of_ble_eq_true rfl)) dL_close_5 ⟨Nat.le_of_ble_eq_true rfl, Nat.le_of_ble_eq_true rfl⟩) hS (fun q _ h => hFc q h) hFc (fun q _ h => hFc q h) (fun E ce q30 u t H22 locs ht hvm hp hB hz1 hk1 hS hce hcv hcl => ?_) (fun z23 u t H22 locs ht hvm hw hB hz1 hk1 hS => ?_)
          · obtain ⟨hE, hB⟩ := hB
            cases hE
            obtain ⟨hP, hD⟩ := aft_ (Wr := wO_ o0 cJ ov) (Wc' := wD_ d0 s0 z0 b0 q0 t0 dh3 dk4 dm5 ++ wS_ s0 v0 f0 r0 ++ wV_ v0 v_keys v_firsts v_ends v_values v_inferred v_gone cI cZ vk6 vf7 ve8 vv9 vi10 vg11 vm12 ++ wF_ f0 f_keys f_days f_amounts f_versions cI fk13 fd14 fa15 fv16 fc17 ++ wR_ r0 r_keys r_days r_values cI rkeys rdays rvalues rcount) (W2 := wD_ d0 s0 z0 b0 q0 t0 dh3 dk4 dm5 ++ wS_ s0 v0 f0 r0 ++ wV_ v0 v_keys v_firsts v_ends v_values v_inferred v_gone cI cZ vk6 vf7 ve8 vv9 vi10 vg11 vm12 ++ wF_ f0 f_keys f_days f_amounts f_versions cI fk13 fd14 fa15 fv16 fc17 ++ wR_ r0 r_keys r_days r_values cI rkeys rdays rvalues rcount ++ wO_ o0 cJ ov) hP hD [0, 1, 2, 3, 4, 5, 6, 7, 8, 9, 10, 11, 12, 13, 14, 15, 16, 17] [18] [1, 2, 3, 4, 5, 6, 7, 8, 9, 10, 11, 12, 13, 14, 15, 16, 17, 18, 0] rfl rfl (by decide) (by decide) (by decide) hk1 hFc hB ht rfl
            refine vx_catch (name := "java/util/NoSuchElementException") hown [⟨0, 10, 13, 13⟩, ⟨0, 10, 17, 15⟩] ⟨0, 10, 21, 26⟩ [⟨0, 10, 25, 17⟩] (htab.trans rfl) (fun z hz => by (rcases List.mem_cons.mp hz with rfl | hz; exact Or.inr ⟨by decide, "java/lang/IndexOutOfBoundsException", hts _ (List.mem_of_getElem? (i := 1) rfl), hC.2 "java/util/NoSuchElementException" (by decide +kernel) "java/lang/IndexOutOfBoundsException" (by decide +kernel) (by decide +kernel)⟩; rcases List.mem_cons.mp hz with rfl | hz; exact Or.inr ⟨by decide, "java/lang/IllegalArgumentException", hts _ (List.mem_of_getElem? (i := 2) rfl), hC.2 "java/util/NoSuchElementException" (by decide +kernel) "java/lang/IllegalArgumentException" (by decide +kernel) (by decide +kernel)⟩; cases hz)) (by decide +kernel) (by decide) (hts _ (List.mem_of_getElem? (i := 3) rfl)) ((hC.1.1 "java/util/NoSuchElementException" (by decide +kernel)).use rfl) hce hcv hcl ?_
            refine lv_astore (lv' := [(4, .ref q30), (0, .ref d0), (1, .int a2), (2, .int a3), (3, .ref o0)]) hx hb dL_close_21 hl (by decide) rfl (fun ls hl => ?_)
            refine lv_iconst (v := 3) hx hb dL_close_23 (by decide) ?_
            have hR := Option.some.inj hf
            subst hR
            refine W.widen (k := 3) (n := 18) (Nat.le_of_ble_eq_true rfl) (Nat.le_of_ble_eq_true rfl) ?_
            exact W.iret (v := (3 : Int32)) hx hb hr (fun t ht hW => ⟨⟨(3 : Int32), (), rfl, rfl, by rw [ht]; exact hP, va_K.moved hW.alike hK, hD⟩, hS.F ht⟩) hS.2.2 dL_close_24
          · exact absurd hw (fun h => nomatch h)
        · have hf := ite_F c29 hf
          by_cases c31 : E24 = "java/lang/IllegalStateException"
          · have hf := ite_T c31 hf
            subst c31
            refine vx_calli (vx_runV (As := [.int a2, .int a3]) (rest := [.int 0, .ref o0]) ⟨hx, hb, hml, hown, hts⟩ (c_X5_close l dC dI cI cZ cC cJ cD hst d0 s0 z0 b0 q0 t0 v0 f0 r0 v_keys v_firsts v_ends v_values v_inferred v_gone f_keys f_days f_amounts f_versions r_keys r_days r_values s.heap.size dhasSaved dkeptError dmoved vkeys vfirsts vends vvalues vinferred vgone vmade fkeys fdays famounts fversions fcount rkeys rdays rvalues rcount a2 a3 ((Except.error "java/lang/IllegalStateException"), (dh3, dk4, dm5), (vk6, vf7, ve8, vv9, vi10, vg11, vm12), (fk13, fd14, fa15, fv16, fc17)) g19) (cwV 2 hts gL_close_X5_close rfl rfl rfl hs_X5_close ⟨Nat.le_of_ble_eq_true rfl, Nat.le_of_ble_eq_true rfl⟩) (preVy_ (ci := 7) (q0 := 0) hPc hK hDc rfl rfl rfl rfl hS hU hN hFc hC.1) rfl rfl hl.1 rfl (lv_room (Nat.le_of_ble_eq_true rfl)) dL_close_5 ⟨Nat.le_of_ble_eq_true rfl, Nat.le_of_ble_eq_true rfl⟩) hS (fun q _ h => hFc q h) hFc (fun q _ h => hFc q h) (fun E ce q32 u t H22 locs ht hvm hp hB hz1 hk1 hS hce hcv hcl => ?_) (fun z23 u t H22 locs ht hvm hw hB hz1 hk1 hS => ?_)
            · obtain ⟨hE, hB⟩ := hB
              cases hE
              obtain ⟨hP, hD⟩ := aft_ (Wr := wO_ o0 cJ ov) (Wc' := wD_ d0 s0 z0 b0 q0 t0 dh3 dk4 dm5 ++ wS_ s0 v0 f0 r0 ++ wV_ v0 v_keys v_firsts v_ends v_values v_inferred v_gone cI cZ vk6 vf7 ve8 vv9 vi10 vg11 vm12 ++ wF_ f0 f_keys f_days f_amounts f_versions cI fk13 fd14 fa15 fv16 fc17 ++ wR_ r0 r_keys r_days r_values cI rkeys rdays rvalues rcount) (W2 := wD_ d0 s0 z0 b0 q0 t0 dh3 dk4 dm5 ++ wS_ s0 v0 f0 r0 ++ wV_ v0 v_keys v_firsts v_ends v_values v_inferred v_gone cI cZ vk6 vf7 ve8 vv9 vi10 vg11 vm12 ++ wF_ f0 f_keys f_days f_amounts f_versions cI fk13 fd14 fa15 fv16 fc17 ++ wR_ r0 r_keys r_days r_values cI rkeys rdays rvalues rcount ++ wO_ o0 cJ ov) hP hD [0, 1, 2, 3, 4, 5, 6, 7, 8, 9, 10, 11, 12, 13, 14, 15, 16, 17] [18] [1, 2, 3, 4, 5, 6, 7, 8, 9, 10, 11, 12, 13, 14, 15, 16, 17, 18, 0] rfl rfl (by decide) (by decide) (by decide) hk1 hFc hB ht rfl
              refine vx_catch (name := "java/lang/IllegalStateException") hown [⟨0, 10, 13, 13⟩, ⟨0, 10, 17, 15⟩, ⟨0, 10, 21, 26⟩] ⟨0, 10, 25, 17⟩ [] (htab.trans rfl) (fun z hz => by (rcases List.mem_cons.mp hz with rfl | hz; exact Or.inr ⟨by decide, "java/lang/IndexOutOfBoundsException", hts _ (List.mem_of_getElem? (i := 1) rfl), hC.2 "java/lang/IllegalStateException" (by decide +kernel) "java/lang/IndexOutOfBoundsException" (by decide +kernel) (by decide +kernel)⟩; rcases List.mem_cons.mp hz with rfl | hz; exact Or.inr ⟨by decide, "java/lang/IllegalArgumentException", hts _ (List.mem_of_getElem? (i := 2) rfl), hC.2 "java/lang/IllegalStateException" (by decide +kernel) "java/lang/IllegalArgumentException" (by decide +kernel) (by decide +kernel)⟩; rcases List.mem_cons.mp hz with rfl | hz; exact Or.inr ⟨by decide, "java/util/NoSuchElementException", hts _ (List.mem_of_getElem? (i := 3) rfl), hC.2 "java/lang/IllegalStateException" (by decide +kernel) "java/util/NoSuchElementException" (by decide +kernel) (by decide +kernel)⟩; cases hz)) (by decide +kernel) (by decide) (hts _ (List.mem_of_getElem? (i := 4) rfl)) ((hC.1.1 "java/lang/IllegalStateException" (by decide +kernel)).use rfl) hce hcv hcl ?_
              refine lv_astore (lv' := [(4, .ref q32), (0, .ref d0), (1, .int a2), (2, .int a3), (3, .ref o0)]) hx hb dL_close_25 hl (by decide) rfl (fun ls hl => ?_)
              refine lv_iconst (v := 4) hx hb dL_close_27 (by decide) ?_
              have hR := Option.some.inj hf
              subst hR
              refine W.widen (k := 3) (n := 18) (Nat.le_of_ble_eq_true rfl) (Nat.le_of_ble_eq_true rfl) ?_
              exact W.iret (v := (4 : Int32)) hx hb hr (fun t ht hW => ⟨⟨(4 : Int32), (), rfl, rfl, by rw [ht]; exact hP, va_K.moved hW.alike hK, hD⟩, hS.F ht⟩) hS.2.2 dL_close_28
            · exact absurd hw (fun h => nomatch h)
          · have hf := ite_F c31 hf
            exact absurd hf (fun h => nomatch h)
  | ok r2 =>
    refine vx_calli (vx_runV (As := [.int a2, .int a3]) (rest := [.int 0, .ref o0]) ⟨hx, hb, hml, hown, hts⟩ (c_X5_close l dC dI cI cZ cC cJ cD hst d0 s0 z0 b0 q0 t0 v0 f0 r0 v_keys v_firsts v_ends v_values v_inferred v_gone f_keys f_days f_amounts f_versions r_keys r_days r_values s.heap.size dhasSaved dkeptError dmoved vkeys vfirsts vends vvalues vinferred vgone vmade fkeys fdays famounts fversions fcount rkeys rdays rvalues rcount a2 a3 ((Except.ok r2), (dh3, dk4, dm5), (vk6, vf7, ve8, vv9, vi10, vg11, vm12), (fk13, fd14, fa15, fv16, fc17)) g19) (cwV 2 hts gL_close_X5_close rfl rfl rfl hs_X5_close ⟨Nat.le_of_ble_eq_true rfl, Nat.le_of_ble_eq_true rfl⟩) (preVy_ (ci := 7) (q0 := 0) hPc hK hDc rfl rfl rfl rfl hS hU hN hFc hC.1) rfl rfl hl.1 rfl (lv_room (Nat.le_of_ble_eq_true rfl)) dL_close_5 ⟨Nat.le_of_ble_eq_true rfl, Nat.le_of_ble_eq_true rfl⟩) hS (fun q _ h => hFc q h) hFc (fun q _ h => hFc q h) (fun E ce q9 u t H22 locs ht hvm hp hB hz1 hk1 hS hce hcv hcl => ?_) (fun z23 u t H22 locs ht hvm hw hB hz1 hk1 hS => ?_)
    · exact absurd hB.1 (fun h => nomatch h)
    · have hw : r2 = z23 := Except.ok.inj hw
      subst hw
      obtain ⟨hP, hD⟩ := aft_ (Wr := wO_ o0 cJ ov) (Wc' := wD_ d0 s0 z0 b0 q0 t0 dh3 dk4 dm5 ++ wS_ s0 v0 f0 r0 ++ wV_ v0 v_keys v_firsts v_ends v_values v_inferred v_gone cI cZ vk6 vf7 ve8 vv9 vi10 vg11 vm12 ++ wF_ f0 f_keys f_days f_amounts f_versions cI fk13 fd14 fa15 fv16 fc17 ++ wR_ r0 r_keys r_days r_values cI rkeys rdays rvalues rcount) (W2 := wD_ d0 s0 z0 b0 q0 t0 dh3 dk4 dm5 ++ wS_ s0 v0 f0 r0 ++ wV_ v0 v_keys v_firsts v_ends v_values v_inferred v_gone cI cZ vk6 vf7 ve8 vv9 vi10 vg11 vm12 ++ wF_ f0 f_keys f_days f_amounts f_versions cI fk13 fd14 fa15 fv16 fc17 ++ wR_ r0 r_keys r_days r_values cI rkeys rdays rvalues rcount ++ wO_ o0 cJ ov) hP hD [0, 1, 2, 3, 4, 5, 6, 7, 8, 9, 10, 11, 12, 13, 14, 15, 16, 17] [18] [1, 2, 3, 4, 5, 6, 7, 8, 9, 10, 11, 12, 13, 14, 15, 16, 17, 18, 0] rfl rfl (by decide) (by decide) (by decide) hk1 hFc hB ht rfl
      refine lv_i2l hx hb dL_close_8 rfl ?_
      obtain ⟨h33, hf⟩ := gd_T hf
      refine va_last hx hb hK hP hD hS 18 3 rfl rfl h33 dL_close_9 (fun H34 locs hP hD hS => ?_)
      have hP : va_P (dC, dI) vwCl (wD_ d0 s0 z0 b0 q0 t0 dh3 dk4 dm5 ++ wS_ s0 v0 f0 r0 ++ wV_ v0 v_keys v_firsts v_ends v_values v_inferred v_gone cI cZ vk6 vf7 ve8 vv9 vi10 vg11 vm12 ++ wF_ f0 f_keys f_days f_amounts f_versions cI fk13 fd14 fa15 fv16 fc17 ++ wR_ r0 r_keys r_days r_values cI rkeys rdays rvalues rcount ++ wO_ o0 cJ (vp_updL ov ((0 : Int32).toNatClampNeg) r2.toInt64)) H34 := hP
      have hD : va_D A (wD_ d0 s0 z0 b0 q0 t0 dh3 dk4 dm5 ++ wS_ s0 v0 f0 r0 ++ wV_ v0 v_keys v_firsts v_ends v_values v_inferred v_gone cI cZ vk6 vf7 ve8 vv9 vi10 vg11 vm12 ++ wF_ f0 f_keys f_days f_amounts f_versions cI fk13 fd14 fa15 fv16 fc17 ++ wR_ r0 r_keys r_days r_values cI rkeys rdays rvalues rcount ++ wO_ o0 cJ (vp_updL ov ((0 : Int32).toNatClampNeg) r2.toInt64)) := hD
      obtain ⟨u35, e36, hf⟩ := nm_T hf
      rw [← e36] at hP hD
      refine lv_goto (tgt := 29) hx hb dL_close_10 (by decide) ?_
      refine lv_iconst (v := 0) hx hb dL_close_29 (by decide) ?_
      have hR := Option.some.inj hf
      subst hR
      refine W.widen (k := 3) (n := 18) (Nat.le_of_ble_eq_true rfl) (Nat.le_of_ble_eq_true rfl) ?_
      exact W.iret (v := (0 : Int32)) hx hb hr (fun t ht hW => ⟨⟨(0 : Int32), (), rfl, rfl, by rw [ht]; exact hP, va_K.moved hW.alike hK, hD⟩, hS.F ht⟩) hS.2.2 dL_close_30
theorem hs_L_close : yL_close.cls ≠ "java/lang/invoke/MethodHandle" ∧ yL_close.cls ≠ "java/lang/invoke/VarHandle" ∧ (parseMethodDescriptor yL_close.desc).map (fun d => d.parameters.length) = some 4 := by decide +kernel
def f_L_correct (a2 : Int32) (a3 : Int32) (D_ : tD_) (S_ : tS_) (V_ : tV_) (F_ : tF_) (R_ : tR_) (ov : tO_) : Option (Int32 × tV_ × tO_) :=
match D_ with
| (dhasSaved, dkeptError, dmoved) =>
match V_ with
| (vkeys, vfirsts, vends, vvalues, vinferred, vgone, vmade) =>
match F_ with
| (fkeys, fdays, famounts, fversions, fcount) =>
match R_ with
| (rkeys, rdays, rvalues, rcount) =>
bd_ (f_X5_correct a2 a3 (dhasSaved, dkeptError, dmoved) () (vkeys, vfirsts, vends, vvalues, vinferred, vgone, vmade) (fkeys, fdays, famounts, fversions, fcount) (rkeys, rdays, rvalues, rcount)) (fun (x1, (vk3, vf4, ve5, vv6, vi7, vg8, vm9)) =>
match x1 with
| Except.error E16 => (if E16 = "java/lang/IndexOutOfBoundsException" then some ((1 : Int32), (vk3, vf4, ve5, vv6, vi7, vg8, vm9), ov) else none)
| Except.ok r2 =>
gd_ (0 : Int32) 1 (nm_ (vp_updL ov ((0 : Int32).toNatClampNeg) r2.toInt64) (fun u21 =>
some ((0 : Int32), (vk3, vf4, ve5, vv6, vi7, vg8, vm9), u21))))
abbrev rm_L_correct : Room := { frames := 8, cells := 1, slots := 6, locals := 133 }
set_option maxHeartbeats 4000000 in
set_option maxRecDepth 100000 in
theorem c_L_correct (l : Launch) (dC : Nat → ClassId) (dI : Nat → Nat → Nat) (cI cZ cC cJ cD : ClassId) (hst : l.stackTraces = false) (d0 s0 z0 b0 q0 t0 v0 f0 r0 v_keys v_firsts v_ends v_values v_inferred v_gone f_keys f_days f_amounts f_versions r_keys r_days r_values o0 : Nat) (sz : Nat) (dhasSaved : Int32) (dkeptError : Int32) (dmoved : Int32) (vkeys : Nat → Int32) (vfirsts : Nat → Int32) (vends : Nat → Int32) (vvalues : Nat → Int32) (vinferred : Nat → Int32) (vgone : Nat → Int32) (vmade : Int32) (fkeys : Nat → Int32) (fdays : Nat → Int32) (famounts : Nat → Int32) (fversions : Nat → Int32) (fcount : Int32) (rkeys : Nat → Int32) (rdays : Nat → Int32) (rvalues : Nat → Int32) (rcount : Int32) (ov : Nat → Int64) (a2 : Int32) (a3 : Int32) (R : Int32 × tV_ × tO_) (hf : f_L_correct a2 a3 (dhasSaved, dkeptError, dmoved) () (vkeys, vfirsts, vends, vvalues, vinferred, vgone, vmade) (fkeys, fdays, famounts, fversions, fcount) (rkeys, rdays, rvalues, rcount) ov = some R) : Met l yL_correct wsL_correct rm_L_correct (PL_ (dC, dI) (ty_ cI cZ cC cJ cD) (wD_ d0 s0 z0 b0 q0 t0 dhasSaved dkeptError dmoved ++ wS_ s0 v0 f0 r0 ++ wV_ v0 v_keys v_firsts v_ends v_values v_inferred v_gone cI cZ vkeys vfirsts vends vvalues vinferred vgone vmade ++ wF_ f0 f_keys f_days f_amounts f_versions cI fkeys fdays famounts fversions fcount ++ wR_ r0 r_keys r_days r_values cI rkeys rdays rvalues rcount ++ wO_ o0 cJ ov) sz [.ref d0, .int a2, .int a3, .ref o0]) (Qi_ (dC, dI) (ty_ cI cZ cC cJ cD) R.1 (wD_ d0 s0 z0 b0 q0 t0 dhasSaved dkeptError dmoved ++ wS_ s0 v0 f0 r0 ++ wV_ v0 v_keys v_firsts v_ends v_values v_inferred v_gone cI cZ R.2.1.1 R.2.1.2.1 R.2.1.2.2.1 R.2.1.2.2.2.1 R.2.1.2.2.2.2.1 R.2.1.2.2.2.2.2.1 R.2.1.2.2.2.2.2.2 ++ wF_ f0 f_keys f_days f_amounts f_versions cI fkeys fdays famounts fversions fcount ++ wR_ r0 r_keys r_days r_values cI rkeys rdays rvalues rcount ++ wO_ o0 cJ R.2.2) (va_A (wD_ d0 s0 z0 b0 q0 t0 dhasSaved dkeptError dmoved ++ wS_ s0 v0 f0 r0 ++ wV_ v0 v_keys v_firsts v_ends v_values v_inferred v_gone cI cZ vkeys vfirsts vends vvalues vinferred vgone vmade ++ wF_ f0 f_keys f_days f_amounts f_versions cI fkeys fdays famounts fversions fcount ++ wR_ r0 r_keys r_days r_values cI rkeys rdays rvalues rcount ++ wO_ o0 cJ ov) sz)) 1 6 (va_A (wD_ d0 s0 z0 b0 q0 t0 dhasSaved dkeptError dmoved ++ wS_ s0 v0 f0 r0 ++ wV_ v0 v_keys v_firsts v_ends v_values v_inferred v_gone cI cZ vkeys vfirsts vends vvalues vinferred vgone vmade ++ wF_ f0 f_keys f_days f_amounts f_versions cI fkeys fdays famounts fversions fcount ++ wR_ r0 r_keys r_days r_values cI rkeys rdays rvalues rcount ++ wO_ o0 cJ ov) sz) := by
  refine metw_ (cc := cL_correct) (maxL := 5) (ret := (some .int)) (hh := [(0, 10, 13, 13)]) (Qcf := fun A => Qi_ (dC, dI) (ty_ cI cZ cC cJ cD) R.1 (wD_ d0 s0 z0 b0 q0 t0 dhasSaved dkeptError dmoved ++ wS_ s0 v0 f0 r0 ++ wV_ v0 v_keys v_firsts v_ends v_values v_inferred v_gone cI cZ R.2.1.1 R.2.1.2.1 R.2.1.2.2.1 R.2.1.2.2.2.1 R.2.1.2.2.2.2.1 R.2.1.2.2.2.2.2.1 R.2.1.2.2.2.2.2.2 ++ wF_ f0 f_keys f_days f_amounts f_versions cI fkeys fdays famounts fversions fcount ++ wR_ r0 r_keys r_days r_values cI rkeys rdays rvalues rcount ++ wO_ o0 cJ R.2.2) A) (by decide) rfl (Nat.le_of_ble_eq_true rfl) ?_
  intro p e s m args below meth c A ls hx hb hr hts hown hlocks hml htab hA hU hN hC hP hK hD hl
  have hown : s.vm.findClass RL = some m.cls := hown
  have hl : lv_has ls 5 [(0, .ref d0), (1, .int a2), (2, .int a3), (3, .ref o0)] := hl
  have hS : va_S A s.heap s.heap [] := va_S.rf
  unfold f_L_correct at hf
  dsimp only at hf
  refine lv_aload_n hx hb dL_correct_0 rfl (lv_at hl 3 rfl) ?_
  refine lv_iconst (v := 0) hx hb dL_correct_1 (by decide) ?_
  refine lv_aload_n hx hb dL_correct_2 rfl (lv_at hl 0 rfl) ?_
  refine lv_iload_n hx hb dL_correct_3 rfl (lv_at hl 1 rfl) ?_
  refine lv_iload_n hx hb dL_correct_4 rfl (lv_at hl 2 rfl) ?_
  obtain ⟨R10, g11, hf⟩ := bd_B hf
  obtain ⟨x1, ⟨vk3, vf4, ve5, vv6, vi7, vg8, vm9⟩⟩ := R10
  dsimp only at hf
  have hPc := hP.sub (ws' := wD_ d0 s0 z0 b0 q0 t0 dhasSaved dkeptError dmoved ++ wS_ s0 v0 f0 r0 ++ wV_ v0 v_keys v_firsts v_ends v_values v_inferred v_gone cI cZ vkeys vfirsts vends vvalues vinferred vgone vmade ++ wF_ f0 f_keys f_days f_amounts f_versions cI fkeys fdays famounts fversions fcount ++ wR_ r0 r_keys r_days r_values cI rkeys rdays rvalues rcount) [0, 1, 2, 3, 4, 5, 6, 7, 8, 9, 10, 11, 12, 13, 14, 15, 16, 17] rfl
  have hDc := hD.sub (ws' := wD_ d0 s0 z0 b0 q0 t0 dhasSaved dkeptError dmoved ++ wS_ s0 v0 f0 r0 ++ wV_ v0 v_keys v_firsts v_ends v_values v_inferred v_gone cI cZ vkeys vfirsts vends vvalues vinferred vgone vmade ++ wF_ f0 f_keys f_days f_amounts f_versions cI fkeys fdays famounts fversions fcount ++ wR_ r0 r_keys r_days r_values cI rkeys rdays rvalues rcount) [0, 1, 2, 3, 4, 5, 6, 7, 8, 9, 10, 11, 12, 13, 14, 15, 16, 17] (by decide) rfl
  have hFc := va_free (wc := wD_ d0 s0 z0 b0 q0 t0 dhasSaved dkeptError dmoved ++ wS_ s0 v0 f0 r0 ++ wV_ v0 v_keys v_firsts v_ends v_values v_inferred v_gone cI cZ vkeys vfirsts vends vvalues vinferred vgone vmade ++ wF_ f0 f_keys f_days f_amounts f_versions cI fkeys fdays famounts fversions fcount ++ wR_ r0 r_keys r_days r_values cI rkeys rdays rvalues rcount) hD hS hA [0, 1, 2, 3, 4, 5, 6, 7, 8, 9, 10, 11, 12, 13, 14, 15, 16, 17] rfl
  cases x1 with
  | error E16 =>
    by_cases c17 : E16 = "java/lang/IndexOutOfBoundsException"
    · have hf := ite_T c17 hf
      subst c17
      refine vx_calli (vx_runV (As := [.int a2, .int a3]) (rest := [.int 0, .ref o0]) ⟨hx, hb, hml, hown, hts⟩ (c_X5_correct l dC dI cI cZ cC cJ cD hst d0 s0 z0 b0 q0 t0 v0 f0 r0 v_keys v_firsts v_ends v_values v_inferred v_gone f_keys f_days f_amounts f_versions r_keys r_days r_values s.heap.size dhasSaved dkeptError dmoved vkeys vfirsts vends vvalues vinferred vgone vmade fkeys fdays famounts fversions fcount rkeys rdays rvalues rcount a2 a3 ((Except.error "java/lang/IndexOutOfBoundsException"), (vk3, vf4, ve5, vv6, vi7, vg8, vm9)) g11) (cwV 2 hts gL_correct_X5_correct rfl rfl rfl hs_X5_correct ⟨Nat.le_of_ble_eq_true rfl, Nat.le_of_ble_eq_true rfl⟩) (preVy_ (ci := 7) (q0 := 0) hPc hK hDc rfl rfl rfl rfl hS hU hN hFc hC.1) rfl rfl hl.1 rfl (lv_room (Nat.le_of_ble_eq_true rfl)) dL_correct_5 ⟨Nat.le_of_ble_eq_true rfl, Nat.le_of_ble_eq_true rfl⟩) hS (fun q _ h => hFc q h) hFc (fun q _ h => hFc q h) (fun E ce q18 u t H14 locs ht hvm hp hB hz1 hk1 hS hce hcv hcl => ?_) (fun z15 u t H14 locs ht hvm hw hB hz1 hk1 hS => ?_)
      · obtain ⟨hE, hB⟩ := hB
        cases hE
        obtain ⟨hP, hD⟩ := aft_ (Wr := wO_ o0 cJ ov) (Wc' := wD_ d0 s0 z0 b0 q0 t0 dhasSaved dkeptError dmoved ++ wS_ s0 v0 f0 r0 ++ wV_ v0 v_keys v_firsts v_ends v_values v_inferred v_gone cI cZ vk3 vf4 ve5 vv6 vi7 vg8 vm9 ++ wF_ f0 f_keys f_days f_amounts f_versions cI fkeys fdays famounts fversions fcount ++ wR_ r0 r_keys r_days r_values cI rkeys rdays rvalues rcount) (W2 := wD_ d0 s0 z0 b0 q0 t0 dhasSaved dkeptError dmoved ++ wS_ s0 v0 f0 r0 ++ wV_ v0 v_keys v_firsts v_ends v_values v_inferred v_gone cI cZ vk3 vf4 ve5 vv6 vi7 vg8 vm9 ++ wF_ f0 f_keys f_days f_amounts f_versions cI fkeys fdays famounts fversions fcount ++ wR_ r0 r_keys r_days r_values cI rkeys rdays rvalues rcount ++ wO_ o0 cJ ov) hP hD [0, 1, 2, 3, 4, 5, 6, 7, 8, 9, 10, 11, 12, 13, 14, 15, 16, 17] [18] [1, 2, 3, 4, 5, 6, 7, 8, 9, 10, 11, 12, 13, 14, 15, 16, 17, 18, 0] rfl rfl (by decide) (by decide) (by decide) hk1 hFc hB ht rfl
        refine vx_catch (name := "java/lang/IndexOutOfBoundsException") hown [] ⟨0, 10, 13, 13⟩ [] (htab.trans rfl) (fun z hz => nomatch hz) (by decide +kernel) (by decide) (hts _ (List.mem_of_getElem? (i := 1) rfl)) ((hC.1.1 "java/lang/IndexOutOfBoundsException" (by decide +kernel)).use rfl) hce hcv hcl ?_
        refine lv_astore (lv' := [(4, .ref q18), (0, .ref d0), (1, .int a2), (2, .int a3), (3, .ref o0)]) hx hb dL_correct_13 hl (by decide) rfl (fun ls hl => ?_)
        refine lv_iconst (v := 1) hx hb dL_correct_15 (by decide) ?_
        have hR := Option.some.inj hf
        subst hR
        refine W.widen (k := 1) (n := 6) (Nat.le_of_ble_eq_true rfl) (Nat.le_of_ble_eq_true rfl) ?_
        exact W.iret (v := (1 : Int32)) hx hb hr (fun t ht hW => ⟨⟨(1 : Int32), (), rfl, rfl, by rw [ht]; exact hP, va_K.moved hW.alike hK, hD⟩, hS.F ht⟩) hS.2.2 dL_correct_16
      · exact absurd hw (fun h => nomatch h)
    · have hf := ite_F c17 hf
      exact absurd hf (fun h => nomatch h)
  | ok r2 =>
    refine vx_calli (vx_runV (As := [.int a2, .int a3]) (rest := [.int 0, .ref o0]) ⟨hx, hb, hml, hown, hts⟩ (c_X5_correct l dC dI cI cZ cC cJ cD hst d0 s0 z0 b0 q0 t0 v0 f0 r0 v_keys v_firsts v_ends v_values v_inferred v_gone f_keys f_days f_amounts f_versions r_keys r_days r_values s.heap.size dhasSaved dkeptError dmoved vkeys vfirsts vends vvalues vinferred vgone vmade fkeys fdays famounts fversions fcount rkeys rdays rvalues rcount a2 a3 ((Except.ok r2), (vk3, vf4, ve5, vv6, vi7, vg8, vm9)) g11) (cwV 2 hts gL_correct_X5_correct rfl rfl rfl hs_X5_correct ⟨Nat.le_of_ble_eq_true rfl, Nat.le_of_ble_eq_true rfl⟩) (preVy_ (ci := 7) (q0 := 0) hPc hK hDc rfl rfl rfl rfl hS hU hN hFc hC.1) rfl rfl hl.1 rfl (lv_room (Nat.le_of_ble_eq_true rfl)) dL_correct_5 ⟨Nat.le_of_ble_eq_true rfl, Nat.le_of_ble_eq_true rfl⟩) hS (fun q _ h => hFc q h) hFc (fun q _ h => hFc q h) (fun E ce q9 u t H14 locs ht hvm hp hB hz1 hk1 hS hce hcv hcl => ?_) (fun z15 u t H14 locs ht hvm hw hB hz1 hk1 hS => ?_)
    · exact absurd hB.1 (fun h => nomatch h)
    · have hw : r2 = z15 := Except.ok.inj hw
      subst hw
      obtain ⟨hP, hD⟩ := aft_ (Wr := wO_ o0 cJ ov) (Wc' := wD_ d0 s0 z0 b0 q0 t0 dhasSaved dkeptError dmoved ++ wS_ s0 v0 f0 r0 ++ wV_ v0 v_keys v_firsts v_ends v_values v_inferred v_gone cI cZ vk3 vf4 ve5 vv6 vi7 vg8 vm9 ++ wF_ f0 f_keys f_days f_amounts f_versions cI fkeys fdays famounts fversions fcount ++ wR_ r0 r_keys r_days r_values cI rkeys rdays rvalues rcount) (W2 := wD_ d0 s0 z0 b0 q0 t0 dhasSaved dkeptError dmoved ++ wS_ s0 v0 f0 r0 ++ wV_ v0 v_keys v_firsts v_ends v_values v_inferred v_gone cI cZ vk3 vf4 ve5 vv6 vi7 vg8 vm9 ++ wF_ f0 f_keys f_days f_amounts f_versions cI fkeys fdays famounts fversions fcount ++ wR_ r0 r_keys r_days r_values cI rkeys rdays rvalues rcount ++ wO_ o0 cJ ov) hP hD [0, 1, 2, 3, 4, 5, 6, 7, 8, 9, 10, 11, 12, 13, 14, 15, 16, 17] [18] [1, 2, 3, 4, 5, 6, 7, 8, 9, 10, 11, 12, 13, 14, 15, 16, 17, 18, 0] rfl rfl (by decide) (by decide) (by decide) hk1 hFc hB ht rfl
      refine lv_i2l hx hb dL_correct_8 rfl ?_
      obtain ⟨h19, hf⟩ := gd_T hf
      refine va_last hx hb hK hP hD hS 18 3 rfl rfl h19 dL_correct_9 (fun H20 locs hP hD hS => ?_)
      have hP : va_P (dC, dI) vwCl (wD_ d0 s0 z0 b0 q0 t0 dhasSaved dkeptError dmoved ++ wS_ s0 v0 f0 r0 ++ wV_ v0 v_keys v_firsts v_ends v_values v_inferred v_gone cI cZ vk3 vf4 ve5 vv6 vi7 vg8 vm9 ++ wF_ f0 f_keys f_days f_amounts f_versions cI fkeys fdays famounts fversions fcount ++ wR_ r0 r_keys r_days r_values cI rkeys rdays rvalues rcount ++ wO_ o0 cJ (vp_updL ov ((0 : Int32).toNatClampNeg) r2.toInt64)) H20 := hP
      have hD : va_D A (wD_ d0 s0 z0 b0 q0 t0 dhasSaved dkeptError dmoved ++ wS_ s0 v0 f0 r0 ++ wV_ v0 v_keys v_firsts v_ends v_values v_inferred v_gone cI cZ vk3 vf4 ve5 vv6 vi7 vg8 vm9 ++ wF_ f0 f_keys f_days f_amounts f_versions cI fkeys fdays famounts fversions fcount ++ wR_ r0 r_keys r_days r_values cI rkeys rdays rvalues rcount ++ wO_ o0 cJ (vp_updL ov ((0 : Int32).toNatClampNeg) r2.toInt64)) := hD
      obtain ⟨u21, e22, hf⟩ := nm_T hf
      rw [← e22] at hP hD
      refine lv_goto (tgt := 17) hx hb dL_correct_10 (by decide) ?_
      refine lv_iconst (v := 0) hx hb dL_correct_17 (by decide) ?_
      have hR := Option.some.inj hf
      subst hR
      refine W.widen (k := 1) (n := 6) (Nat.le_of_ble_eq_true rfl) (Nat.le_of_ble_eq_true rfl) ?_
      exact W.iret (v := (0 : Int32)) hx hb hr (fun t ht hW => ⟨⟨(0 : Int32), (), rfl, rfl, by rw [ht]; exact hP, va_K.moved hW.alike hK, hD⟩, hS.F ht⟩) hS.2.2 dL_correct_18
theorem hs_L_correct : yL_correct.cls ≠ "java/lang/invoke/MethodHandle" ∧ yL_correct.cls ≠ "java/lang/invoke/VarHandle" ∧ (parseMethodDescriptor yL_correct.desc).map (fun d => d.parameters.length) = some 4 := by decide +kernel
def f_L_remove (a2 : Int32) (D_ : tD_) (S_ : tS_) (V_ : tV_) (F_ : tF_) (R_ : tR_) (ov : tO_) : Option (Int32 × tD_ × tV_ × tF_ × tO_) :=
match D_ with
| (dhasSaved, dkeptError, dmoved) =>
match V_ with
| (vkeys, vfirsts, vends, vvalues, vinferred, vgone, vmade) =>
match F_ with
| (fkeys, fdays, famounts, fversions, fcount) =>
match R_ with
| (rkeys, rdays, rvalues, rcount) =>
bd_ (f_X5_remove a2 (dhasSaved, dkeptError, dmoved) () (vkeys, vfirsts, vends, vvalues, vinferred, vgone, vmade) (fkeys, fdays, famounts, fversions, fcount) (rkeys, rdays, rvalues, rcount)) (fun (x1, (dh3, dk4, dm5), (vk6, vf7, ve8, vv9, vi10, vg11, vm12), (fk13, fd14, fa15, fv16, fc17)) =>
match x1 with
| Except.error E24 => (if E24 = "java/lang/IndexOutOfBoundsException" then some ((1 : Int32), (dh3, dk4, dm5), (vk6, vf7, ve8, vv9, vi10, vg11, vm12), (fk13, fd14, fa15, fv16, fc17), ov) else (if E24 = "java/lang/IllegalStateException" then some ((2 : Int32), (dh3, dk4, dm5), (vk6, vf7, ve8, vv9, vi10, vg11, vm12), (fk13, fd14, fa15, fv16, fc17), ov) else none))
| Except.ok r2 =>
gd_ (0 : Int32) 1 (nm_ (vp_updL ov ((0 : Int32).toNatClampNeg) r2.toInt64) (fun u31 =>
some ((0 : Int32), (dh3, dk4, dm5), (vk6, vf7, ve8, vv9, vi10, vg11, vm12), (fk13, fd14, fa15, fv16, fc17), u31))))
abbrev rm_L_remove : Room := { frames := 8, cells := 2, slots := 12, locals := 133 }
set_option maxHeartbeats 4000000 in
set_option maxRecDepth 100000 in
theorem c_L_remove (l : Launch) (dC : Nat → ClassId) (dI : Nat → Nat → Nat) (cI cZ cC cJ cD : ClassId) (hst : l.stackTraces = false) (d0 s0 z0 b0 q0 t0 v0 f0 r0 v_keys v_firsts v_ends v_values v_inferred v_gone f_keys f_days f_amounts f_versions r_keys r_days r_values o0 : Nat) (sz : Nat) (dhasSaved : Int32) (dkeptError : Int32) (dmoved : Int32) (vkeys : Nat → Int32) (vfirsts : Nat → Int32) (vends : Nat → Int32) (vvalues : Nat → Int32) (vinferred : Nat → Int32) (vgone : Nat → Int32) (vmade : Int32) (fkeys : Nat → Int32) (fdays : Nat → Int32) (famounts : Nat → Int32) (fversions : Nat → Int32) (fcount : Int32) (rkeys : Nat → Int32) (rdays : Nat → Int32) (rvalues : Nat → Int32) (rcount : Int32) (ov : Nat → Int64) (a2 : Int32) (R : Int32 × tD_ × tV_ × tF_ × tO_) (hf : f_L_remove a2 (dhasSaved, dkeptError, dmoved) () (vkeys, vfirsts, vends, vvalues, vinferred, vgone, vmade) (fkeys, fdays, famounts, fversions, fcount) (rkeys, rdays, rvalues, rcount) ov = some R) : Met l yL_remove wsL_remove rm_L_remove (PL_ (dC, dI) (ty_ cI cZ cC cJ cD) (wD_ d0 s0 z0 b0 q0 t0 dhasSaved dkeptError dmoved ++ wS_ s0 v0 f0 r0 ++ wV_ v0 v_keys v_firsts v_ends v_values v_inferred v_gone cI cZ vkeys vfirsts vends vvalues vinferred vgone vmade ++ wF_ f0 f_keys f_days f_amounts f_versions cI fkeys fdays famounts fversions fcount ++ wR_ r0 r_keys r_days r_values cI rkeys rdays rvalues rcount ++ wO_ o0 cJ ov) sz [.ref d0, .int a2, .ref o0]) (Qi_ (dC, dI) (ty_ cI cZ cC cJ cD) R.1 (wD_ d0 s0 z0 b0 q0 t0 R.2.1.1 R.2.1.2.1 R.2.1.2.2 ++ wS_ s0 v0 f0 r0 ++ wV_ v0 v_keys v_firsts v_ends v_values v_inferred v_gone cI cZ R.2.2.1.1 R.2.2.1.2.1 R.2.2.1.2.2.1 R.2.2.1.2.2.2.1 R.2.2.1.2.2.2.2.1 R.2.2.1.2.2.2.2.2.1 R.2.2.1.2.2.2.2.2.2 ++ wF_ f0 f_keys f_days f_amounts f_versions cI R.2.2.2.1.1 R.2.2.2.1.2.1 R.2.2.2.1.2.2.1 R.2.2.2.1.2.2.2.1 R.2.2.2.1.2.2.2.2 ++ wR_ r0 r_keys r_days r_values cI rkeys rdays rvalues rcount ++ wO_ o0 cJ R.2.2.2.2) (va_A (wD_ d0 s0 z0 b0 q0 t0 dhasSaved dkeptError dmoved ++ wS_ s0 v0 f0 r0 ++ wV_ v0 v_keys v_firsts v_ends v_values v_inferred v_gone cI cZ vkeys vfirsts vends vvalues vinferred vgone vmade ++ wF_ f0 f_keys f_days f_amounts f_versions cI fkeys fdays famounts fversions fcount ++ wR_ r0 r_keys r_days r_values cI rkeys rdays rvalues rcount ++ wO_ o0 cJ ov) sz)) 2 12 (va_A (wD_ d0 s0 z0 b0 q0 t0 dhasSaved dkeptError dmoved ++ wS_ s0 v0 f0 r0 ++ wV_ v0 v_keys v_firsts v_ends v_values v_inferred v_gone cI cZ vkeys vfirsts vends vvalues vinferred vgone vmade ++ wF_ f0 f_keys f_days f_amounts f_versions cI fkeys fdays famounts fversions fcount ++ wR_ r0 r_keys r_days r_values cI rkeys rdays rvalues rcount ++ wO_ o0 cJ ov) sz) := by
  refine metw_ (cc := cL_remove) (maxL := 4) (ret := (some .int)) (hh := [(0, 9, 12, 13), (0, 9, 15, 17)]) (Qcf := fun A => Qi_ (dC, dI) (ty_ cI cZ cC cJ cD) R.1 (wD_ d0 s0 z0 b0 q0 t0 R.2.1.1 R.2.1.2.1 R.2.1.2.2 ++ wS_ s0 v0 f0 r0 ++ wV_ v0 v_keys v_firsts v_ends v_values v_inferred v_gone cI cZ R.2.2.1.1 R.2.2.1.2.1 R.2.2.1.2.2.1 R.2.2.1.2.2.2.1 R.2.2.1.2.2.2.2.1 R.2.2.1.2.2.2.2.2.1 R.2.2.1.2.2.2.2.2.2 ++ wF_ f0 f_keys f_days f_amounts f_versions cI R.2.2.2.1.1 R.2.2.2.1.2.1 R.2.2.2.1.2.2.1 R.2.2.2.1.2.2.2.1 R.2.2.2.1.2.2.2.2 ++ wR_ r0 r_keys r_days r_values cI rkeys rdays rvalues rcount ++ wO_ o0 cJ R.2.2.2.2) A) (by decide) rfl (Nat.le_of_ble_eq_true rfl) ?_
  intro p e s m args below meth c A ls hx hb hr hts hown hlocks hml htab hA hU hN hC hP hK hD hl
  have hown : s.vm.findClass RL = some m.cls := hown
  have hl : lv_has ls 4 [(0, .ref d0), (1, .int a2), (2, .ref o0)] := hl
  have hS : va_S A s.heap s.heap [] := va_S.rf
  unfold f_L_remove at hf
  dsimp only at hf
  refine lv_aload_n hx hb dL_remove_0 rfl (lv_at hl 2 rfl) ?_
  refine lv_iconst (v := 0) hx hb dL_remove_1 (by decide) ?_
  refine lv_aload_n hx hb dL_remove_2 rfl (lv_at hl 0 rfl) ?_
  refine lv_iload_n hx hb dL_remove_3 rfl (lv_at hl 1 rfl) ?_
  obtain ⟨R18, g19, hf⟩ := bd_B hf
  obtain ⟨x1, ⟨dh3, dk4, dm5⟩, ⟨vk6, vf7, ve8, vv9, vi10, vg11, vm12⟩, ⟨fk13, fd14, fa15, fv16, fc17⟩⟩ := R18
  dsimp only at hf
  have hPc := hP.sub (ws' := wD_ d0 s0 z0 b0 q0 t0 dhasSaved dkeptError dmoved ++ wS_ s0 v0 f0 r0 ++ wV_ v0 v_keys v_firsts v_ends v_values v_inferred v_gone cI cZ vkeys vfirsts vends vvalues vinferred vgone vmade ++ wF_ f0 f_keys f_days f_amounts f_versions cI fkeys fdays famounts fversions fcount ++ wR_ r0 r_keys r_days r_values cI rkeys rdays rvalues rcount) [0, 1, 2, 3, 4, 5, 6, 7, 8, 9, 10, 11, 12, 13, 14, 15, 16, 17] rfl
  have hDc := hD.sub (ws' := wD_ d0 s0 z0 b0 q0 t0 dhasSaved dkeptError dmoved ++ wS_ s0 v0 f0 r0 ++ wV_ v0 v_keys v_firsts v_ends v_values v_inferred v_gone cI cZ vkeys vfirsts vends vvalues vinferred vgone vmade ++ wF_ f0 f_keys f_days f_amounts f_versions cI fkeys fdays famounts fversions fcount ++ wR_ r0 r_keys r_days r_values cI rkeys rdays rvalues rcount) [0, 1, 2, 3, 4, 5, 6, 7, 8, 9, 10, 11, 12, 13, 14, 15, 16, 17] (by decide) rfl
  have hFc := va_free (wc := wD_ d0 s0 z0 b0 q0 t0 dhasSaved dkeptError dmoved ++ wS_ s0 v0 f0 r0 ++ wV_ v0 v_keys v_firsts v_ends v_values v_inferred v_gone cI cZ vkeys vfirsts vends vvalues vinferred vgone vmade ++ wF_ f0 f_keys f_days f_amounts f_versions cI fkeys fdays famounts fversions fcount ++ wR_ r0 r_keys r_days r_values cI rkeys rdays rvalues rcount) hD hS hA [0, 1, 2, 3, 4, 5, 6, 7, 8, 9, 10, 11, 12, 13, 14, 15, 16, 17] rfl
  cases x1 with
  | error E24 =>
    by_cases c25 : E24 = "java/lang/IndexOutOfBoundsException"
    · have hf := ite_T c25 hf
      subst c25
      refine vx_calli (vx_runV (As := [.int a2]) (rest := [.int 0, .ref o0]) ⟨hx, hb, hml, hown, hts⟩ (c_X5_remove l dC dI cI cZ cC cJ cD hst d0 s0 z0 b0 q0 t0 v0 f0 r0 v_keys v_firsts v_ends v_values v_inferred v_gone f_keys f_days f_amounts f_versions r_keys r_days r_values s.heap.size dhasSaved dkeptError dmoved vkeys vfirsts vends vvalues vinferred vgone vmade fkeys fdays famounts fversions fcount rkeys rdays rvalues rcount a2 ((Except.error "java/lang/IndexOutOfBoundsException"), (dh3, dk4, dm5), (vk6, vf7, ve8, vv9, vi10, vg11, vm12), (fk13, fd14, fa15, fv16, fc17)) g19) (cwV 1 hts gL_remove_X5_remove rfl rfl rfl hs_X5_remove ⟨Nat.le_of_ble_eq_true rfl, Nat.le_of_ble_eq_true rfl⟩) (preVy_ (ci := 7) (q0 := 0) hPc hK hDc rfl rfl rfl rfl hS hU hN hFc hC.1) rfl rfl hl.1 rfl (lv_room (Nat.le_of_ble_eq_true rfl)) dL_remove_4 ⟨Nat.le_of_ble_eq_true rfl, Nat.le_of_ble_eq_true rfl⟩) hS (fun q _ h => hFc q h) hFc (fun q _ h => hFc q h) (fun E ce q26 u t H22 locs ht hvm hp hB hz1 hk1 hS hce hcv hcl => ?_) (fun z23 u t H22 locs ht hvm hw hB hz1 hk1 hS => ?_)
      · obtain ⟨hE, hB⟩ := hB
        cases hE
        obtain ⟨hP, hD⟩ := aft_ (Wr := wO_ o0 cJ ov) (Wc' := wD_ d0 s0 z0 b0 q0 t0 dh3 dk4 dm5 ++ wS_ s0 v0 f0 r0 ++ wV_ v0 v_keys v_firsts v_ends v_values v_inferred v_gone cI cZ vk6 vf7 ve8 vv9 vi10 vg11 vm12 ++ wF_ f0 f_keys f_days f_amounts f_versions cI fk13 fd14 fa15 fv16 fc17 ++ wR_ r0 r_keys r_days r_values cI rkeys rdays rvalues rcount) (W2 := wD_ d0 s0 z0 b0 q0 t0 dh3 dk4 dm5 ++ wS_ s0 v0 f0 r0 ++ wV_ v0 v_keys v_firsts v_ends v_values v_inferred v_gone cI cZ vk6 vf7 ve8 vv9 vi10 vg11 vm12 ++ wF_ f0 f_keys f_days f_amounts f_versions cI fk13 fd14 fa15 fv16 fc17 ++ wR_ r0 r_keys r_days r_values cI rkeys rdays rvalues rcount ++ wO_ o0 cJ ov) hP hD [0, 1, 2, 3, 4, 5, 6, 7, 8, 9, 10, 11, 12, 13, 14, 15, 16, 17] [18] [1, 2, 3, 4, 5, 6, 7, 8, 9, 10, 11, 12, 13, 14, 15, 16, 17, 18, 0] rfl rfl (by decide) (by decide) (by decide) hk1 hFc hB ht rfl
        refine vx_catch (name := "java/lang/IndexOutOfBoundsException") hown [] ⟨0, 9, 12, 13⟩ [⟨0, 9, 15, 17⟩] (htab.trans rfl) (fun z hz => nomatch hz) (by decide +kernel) (by decide) (hts _ (List.mem_of_getElem? (i := 1) rfl)) ((hC.1.1 "java/lang/IndexOutOfBoundsException" (by decide +kernel)).use rfl) hce hcv hcl ?_
        refine lv_astore_n (lv' := [(3, .ref q26), (0, .ref d0), (1, .int a2), (2, .ref o0)]) hx hb dL_remove_12 rfl hl (by decide) rfl (fun ls hl => ?_)
        refine lv_iconst (v := 1) hx hb dL_remove_13 (by decide) ?_
        have hR := Option.some.inj hf
        subst hR
        refine W.widen (k := 2) (n := 12) (Nat.le_of_ble_eq_true rfl) (Nat.le_of_ble_eq_true rfl) ?_
        exact W.iret (v := (1 : Int32)) hx hb hr (fun t ht hW => ⟨⟨(1 : Int32), (), rfl, rfl, by rw [ht]; exact hP, va_K.moved hW.alike hK, hD⟩, hS.F ht⟩) hS.2.2 dL_remove_14
      · exact absurd hw (fun h => nomatch h)
    · have hf := ite_F c25 hf
      by_cases c27 : E24 = "java/lang/IllegalStateException"
      · have hf := ite_T c27 hf
        subst c27
        refine vx_calli (vx_runV (As := [.int a2]) (rest := [.int 0, .ref o0]) ⟨hx, hb, hml, hown, hts⟩ (c_X5_remove l dC dI cI cZ cC cJ cD hst d0 s0 z0 b0 q0 t0 v0 f0 r0 v_keys v_firsts v_ends v_values v_inferred v_gone f_keys f_days f_amounts f_versions r_keys r_days r_values s.heap.size dhasSaved dkeptError dmoved vkeys vfirsts vends vvalues vinferred vgone vmade fkeys fdays famounts fversions fcount rkeys rdays rvalues rcount a2 ((Except.error "java/lang/IllegalStateException"), (dh3, dk4, dm5), (vk6, vf7, ve8, vv9, vi10, vg11, vm12), (fk13, fd14, fa15, fv16, fc17)) g19) (cwV 1 hts gL_remove_X5_remove rfl rfl rfl hs_X5_remove ⟨Nat.le_of_ble_eq_true rfl, Nat.le_of_ble_eq_true rfl⟩) (preVy_ (ci := 7) (q0 := 0) hPc hK hDc rfl rfl rfl rfl hS hU hN hFc hC.1) rfl rfl hl.1 rfl (lv_room (Nat.le_of_ble_eq_true rfl)) dL_remove_4 ⟨Nat.le_of_ble_eq_true rfl, Nat.le_of_ble_eq_true rfl⟩) hS (fun q _ h => hFc q h) hFc (fun q _ h => hFc q h) (fun E ce q28 u t H22 locs ht hvm hp hB hz1 hk1 hS hce hcv hcl => ?_) (fun z23 u t H22 locs ht hvm hw hB hz1 hk1 hS => ?_)
        · obtain ⟨hE, hB⟩ := hB
          cases hE
          obtain ⟨hP, hD⟩ := aft_ (Wr := wO_ o0 cJ ov) (Wc' := wD_ d0 s0 z0 b0 q0 t0 dh3 dk4 dm5 ++ wS_ s0 v0 f0 r0 ++ wV_ v0 v_keys v_firsts v_ends v_values v_inferred v_gone cI cZ vk6 vf7 ve8 vv9 vi10 vg11 vm12 ++ wF_ f0 f_keys f_days f_amounts f_versions cI fk13 fd14 fa15 fv16 fc17 ++ wR_ r0 r_keys r_days r_values cI rkeys rdays rvalues rcount) (W2 := wD_ d0 s0 z0 b0 q0 t0 dh3 dk4 dm5 ++ wS_ s0 v0 f0 r0 ++ wV_ v0 v_keys v_firsts v_ends v_values v_inferred v_gone cI cZ vk6 vf7 ve8 vv9 vi10 vg11 vm12 ++ wF_ f0 f_keys f_days f_amounts f_versions cI fk13 fd14 fa15 fv16 fc17 ++ wR_ r0 r_keys r_days r_values cI rkeys rdays rvalues rcount ++ wO_ o0 cJ ov) hP hD [0, 1, 2, 3, 4, 5, 6, 7, 8, 9, 10, 11, 12, 13, 14, 15, 16, 17] [18] [1, 2, 3, 4, 5, 6, 7, 8, 9, 10, 11, 12, 13, 14, 15, 16, 17, 18, 0] rfl rfl (by decide) (by decide) (by decide) hk1 hFc hB ht rfl
          refine vx_catch (name := "java/lang/IllegalStateException") hown [⟨0, 9, 12, 13⟩] ⟨0, 9, 15, 17⟩ [] (htab.trans rfl) (fun z hz => by (rcases List.mem_cons.mp hz with rfl | hz; exact Or.inr ⟨by decide, "java/lang/IndexOutOfBoundsException", hts _ (List.mem_of_getElem? (i := 1) rfl), hC.2 "java/lang/IllegalStateException" (by decide +kernel) "java/lang/IndexOutOfBoundsException" (by decide +kernel) (by decide +kernel)⟩; cases hz)) (by decide +kernel) (by decide) (hts _ (List.mem_of_getElem? (i := 2) rfl)) ((hC.1.1 "java/lang/IllegalStateException" (by decide +kernel)).use rfl) hce hcv hcl ?_
          refine lv_astore_n (lv' := [(3, .ref q28), (0, .ref d0), (1, .int a2), (2, .ref o0)]) hx hb dL_remove_15 rfl hl (by decide) rfl (fun ls hl => ?_)
          refine lv_iconst (v := 2) hx hb dL_remove_16 (by decide) ?_
          have hR := Option.some.inj hf
          subst hR
          refine W.widen (k := 2) (n := 12) (Nat.le_of_ble_eq_true rfl) (Nat.le_of_ble_eq_true rfl) ?_
          exact W.iret (v := (2 : Int32)) hx hb hr (fun t ht hW => ⟨⟨(2 : Int32), (), rfl, rfl, by rw [ht]; exact hP, va_K.moved hW.alike hK, hD⟩, hS.F ht⟩) hS.2.2 dL_remove_17
        · exact absurd hw (fun h => nomatch h)
      · have hf := ite_F c27 hf
        exact absurd hf (fun h => nomatch h)
  | ok r2 =>
    refine vx_calli (vx_runV (As := [.int a2]) (rest := [.int 0, .ref o0]) ⟨hx, hb, hml, hown, hts⟩ (c_X5_remove l dC dI cI cZ cC cJ cD hst d0 s0 z0 b0 q0 t0 v0 f0 r0 v_keys v_firsts v_ends v_values v_inferred v_gone f_keys f_days f_amounts f_versions r_keys r_days r_values s.heap.size dhasSaved dkeptError dmoved vkeys vfirsts vends vvalues vinferred vgone vmade fkeys fdays famounts fversions fcount rkeys rdays rvalues rcount a2 ((Except.ok r2), (dh3, dk4, dm5), (vk6, vf7, ve8, vv9, vi10, vg11, vm12), (fk13, fd14, fa15, fv16, fc17)) g19) (cwV 1 hts gL_remove_X5_remove rfl rfl rfl hs_X5_remove ⟨Nat.le_of_ble_eq_true rfl, Nat.le_of_ble_eq_true rfl⟩) (preVy_ (ci := 7) (q0 := 0) hPc hK hDc rfl rfl rfl rfl hS hU hN hFc hC.1) rfl rfl hl.1 rfl (lv_room (Nat.le_of_ble_eq_true rfl)) dL_remove_4 ⟨Nat.le_of_ble_eq_true rfl, Nat.le_of_ble_eq_true rfl⟩) hS (fun q _ h => hFc q h) hFc (fun q _ h => hFc q h) (fun E ce q9 u t H22 locs ht hvm hp hB hz1 hk1 hS hce hcv hcl => ?_) (fun z23 u t H22 locs ht hvm hw hB hz1 hk1 hS => ?_)
    · exact absurd hB.1 (fun h => nomatch h)
    · have hw : r2 = z23 := Except.ok.inj hw
      subst hw
      obtain ⟨hP, hD⟩ := aft_ (Wr := wO_ o0 cJ ov) (Wc' := wD_ d0 s0 z0 b0 q0 t0 dh3 dk4 dm5 ++ wS_ s0 v0 f0 r0 ++ wV_ v0 v_keys v_firsts v_ends v_values v_inferred v_gone cI cZ vk6 vf7 ve8 vv9 vi10 vg11 vm12 ++ wF_ f0 f_keys f_days f_amounts f_versions cI fk13 fd14 fa15 fv16 fc17 ++ wR_ r0 r_keys r_days r_values cI rkeys rdays rvalues rcount) (W2 := wD_ d0 s0 z0 b0 q0 t0 dh3 dk4 dm5 ++ wS_ s0 v0 f0 r0 ++ wV_ v0 v_keys v_firsts v_ends v_values v_inferred v_gone cI cZ vk6 vf7 ve8 vv9 vi10 vg11 vm12 ++ wF_ f0 f_keys f_days f_amounts f_versions cI fk13 fd14 fa15 fv16 fc17 ++ wR_ r0 r_keys r_days r_values cI rkeys rdays rvalues rcount ++ wO_ o0 cJ ov) hP hD [0, 1, 2, 3, 4, 5, 6, 7, 8, 9, 10, 11, 12, 13, 14, 15, 16, 17] [18] [1, 2, 3, 4, 5, 6, 7, 8, 9, 10, 11, 12, 13, 14, 15, 16, 17, 18, 0] rfl rfl (by decide) (by decide) (by decide) hk1 hFc hB ht rfl
      refine lv_i2l hx hb dL_remove_7 rfl ?_
      obtain ⟨h29, hf⟩ := gd_T hf
      refine va_last hx hb hK hP hD hS 18 3 rfl rfl h29 dL_remove_8 (fun H30 locs hP hD hS => ?_)
      have hP : va_P (dC, dI) vwCl (wD_ d0 s0 z0 b0 q0 t0 dh3 dk4 dm5 ++ wS_ s0 v0 f0 r0 ++ wV_ v0 v_keys v_firsts v_ends v_values v_inferred v_gone cI cZ vk6 vf7 ve8 vv9 vi10 vg11 vm12 ++ wF_ f0 f_keys f_days f_amounts f_versions cI fk13 fd14 fa15 fv16 fc17 ++ wR_ r0 r_keys r_days r_values cI rkeys rdays rvalues rcount ++ wO_ o0 cJ (vp_updL ov ((0 : Int32).toNatClampNeg) r2.toInt64)) H30 := hP
      have hD : va_D A (wD_ d0 s0 z0 b0 q0 t0 dh3 dk4 dm5 ++ wS_ s0 v0 f0 r0 ++ wV_ v0 v_keys v_firsts v_ends v_values v_inferred v_gone cI cZ vk6 vf7 ve8 vv9 vi10 vg11 vm12 ++ wF_ f0 f_keys f_days f_amounts f_versions cI fk13 fd14 fa15 fv16 fc17 ++ wR_ r0 r_keys r_days r_values cI rkeys rdays rvalues rcount ++ wO_ o0 cJ (vp_updL ov ((0 : Int32).toNatClampNeg) r2.toInt64)) := hD
      obtain ⟨u31, e32, hf⟩ := nm_T hf
      rw [← e32] at hP hD
      refine lv_goto (tgt := 18) hx hb dL_remove_9 (by decide) ?_
      refine lv_iconst (v := 0) hx hb dL_remove_18 (by decide) ?_
      have hR := Option.some.inj hf
      subst hR
      refine W.widen (k := 2) (n := 12) (Nat.le_of_ble_eq_true rfl) (Nat.le_of_ble_eq_true rfl) ?_
      exact W.iret (v := (0 : Int32)) hx hb hr (fun t ht hW => ⟨⟨(0 : Int32), (), rfl, rfl, by rw [ht]; exact hP, va_K.moved hW.alike hK, hD⟩, hS.F ht⟩) hS.2.2 dL_remove_19
theorem hs_L_remove : yL_remove.cls ≠ "java/lang/invoke/MethodHandle" ∧ yL_remove.cls ≠ "java/lang/invoke/VarHandle" ∧ (parseMethodDescriptor yL_remove.desc).map (fun d => d.parameters.length) = some 3 := by decide +kernel
def f_L_join (a2 : Int32) (D_ : tD_) (S_ : tS_) (V_ : tV_) (F_ : tF_) (R_ : tR_) (ov : tO_) : Option (Int32 × tD_ × tV_ × tF_ × tO_) :=
match D_ with
| (dhasSaved, dkeptError, dmoved) =>
match V_ with
| (vkeys, vfirsts, vends, vvalues, vinferred, vgone, vmade) =>
match F_ with
| (fkeys, fdays, famounts, fversions, fcount) =>
match R_ with
| (rkeys, rdays, rvalues, rcount) =>
bd_ (f_X5_join a2 (dhasSaved, dkeptError, dmoved) () (vkeys, vfirsts, vends, vvalues, vinferred, vgone, vmade) (fkeys, fdays, famounts, fversions, fcount) (rkeys, rdays, rvalues, rcount)) (fun (x1, (dh3, dk4, dm5), (vk6, vf7, ve8, vv9, vi10, vg11, vm12), (fk13, fd14, fa15, fv16, fc17)) =>
match x1 with
| Except.error E24 => (if E24 = "java/lang/IndexOutOfBoundsException" then some ((1 : Int32), (dh3, dk4, dm5), (vk6, vf7, ve8, vv9, vi10, vg11, vm12), (fk13, fd14, fa15, fv16, fc17), ov) else none)
| Except.ok r2 =>
gd_ (0 : Int32) 1 (nm_ (vp_updL ov ((0 : Int32).toNatClampNeg) r2.toInt64) (fun u29 =>
some ((0 : Int32), (dh3, dk4, dm5), (vk6, vf7, ve8, vv9, vi10, vg11, vm12), (fk13, fd14, fa15, fv16, fc17), u29))))
abbrev rm_L_join : Room := { frames := 8, cells := 1, slots := 6, locals := 132 }
set_option maxHeartbeats 4000000 in
set_option maxRecDepth 100000 in
theorem c_L_join (l : Launch) (dC : Nat → ClassId) (dI : Nat → Nat → Nat) (cI cZ cC cJ cD : ClassId) (hst : l.stackTraces = false) (d0 s0 z0 b0 q0 t0 v0 f0 r0 v_keys v_firsts v_ends v_values v_inferred v_gone f_keys f_days f_amounts f_versions r_keys r_days r_values o0 : Nat) (sz : Nat) (dhasSaved : Int32) (dkeptError : Int32) (dmoved : Int32) (vkeys : Nat → Int32) (vfirsts : Nat → Int32) (vends : Nat → Int32) (vvalues : Nat → Int32) (vinferred : Nat → Int32) (vgone : Nat → Int32) (vmade : Int32) (fkeys : Nat → Int32) (fdays : Nat → Int32) (famounts : Nat → Int32) (fversions : Nat → Int32) (fcount : Int32) (rkeys : Nat → Int32) (rdays : Nat → Int32) (rvalues : Nat → Int32) (rcount : Int32) (ov : Nat → Int64) (a2 : Int32) (R : Int32 × tD_ × tV_ × tF_ × tO_) (hf : f_L_join a2 (dhasSaved, dkeptError, dmoved) () (vkeys, vfirsts, vends, vvalues, vinferred, vgone, vmade) (fkeys, fdays, famounts, fversions, fcount) (rkeys, rdays, rvalues, rcount) ov = some R) : Met l yL_join wsL_join rm_L_join (PL_ (dC, dI) (ty_ cI cZ cC cJ cD) (wD_ d0 s0 z0 b0 q0 t0 dhasSaved dkeptError dmoved ++ wS_ s0 v0 f0 r0 ++ wV_ v0 v_keys v_firsts v_ends v_values v_inferred v_gone cI cZ vkeys vfirsts vends vvalues vinferred vgone vmade ++ wF_ f0 f_keys f_days f_amounts f_versions cI fkeys fdays famounts fversions fcount ++ wR_ r0 r_keys r_days r_values cI rkeys rdays rvalues rcount ++ wO_ o0 cJ ov) sz [.ref d0, .int a2, .ref o0]) (Qi_ (dC, dI) (ty_ cI cZ cC cJ cD) R.1 (wD_ d0 s0 z0 b0 q0 t0 R.2.1.1 R.2.1.2.1 R.2.1.2.2 ++ wS_ s0 v0 f0 r0 ++ wV_ v0 v_keys v_firsts v_ends v_values v_inferred v_gone cI cZ R.2.2.1.1 R.2.2.1.2.1 R.2.2.1.2.2.1 R.2.2.1.2.2.2.1 R.2.2.1.2.2.2.2.1 R.2.2.1.2.2.2.2.2.1 R.2.2.1.2.2.2.2.2.2 ++ wF_ f0 f_keys f_days f_amounts f_versions cI R.2.2.2.1.1 R.2.2.2.1.2.1 R.2.2.2.1.2.2.1 R.2.2.2.1.2.2.2.1 R.2.2.2.1.2.2.2.2 ++ wR_ r0 r_keys r_days r_values cI rkeys rdays rvalues rcount ++ wO_ o0 cJ R.2.2.2.2) (va_A (wD_ d0 s0 z0 b0 q0 t0 dhasSaved dkeptError dmoved ++ wS_ s0 v0 f0 r0 ++ wV_ v0 v_keys v_firsts v_ends v_values v_inferred v_gone cI cZ vkeys vfirsts vends vvalues vinferred vgone vmade ++ wF_ f0 f_keys f_days f_amounts f_versions cI fkeys fdays famounts fversions fcount ++ wR_ r0 r_keys r_days r_values cI rkeys rdays rvalues rcount ++ wO_ o0 cJ ov) sz)) 1 6 (va_A (wD_ d0 s0 z0 b0 q0 t0 dhasSaved dkeptError dmoved ++ wS_ s0 v0 f0 r0 ++ wV_ v0 v_keys v_firsts v_ends v_values v_inferred v_gone cI cZ vkeys vfirsts vends vvalues vinferred vgone vmade ++ wF_ f0 f_keys f_days f_amounts f_versions cI fkeys fdays famounts fversions fcount ++ wR_ r0 r_keys r_days r_values cI rkeys rdays rvalues rcount ++ wO_ o0 cJ ov) sz) := by
  refine metw_ (cc := cL_join) (maxL := 4) (ret := (some .int)) (hh := [(0, 9, 12, 13)]) (Qcf := fun A => Qi_ (dC, dI) (ty_ cI cZ cC cJ cD) R.1 (wD_ d0 s0 z0 b0 q0 t0 R.2.1.1 R.2.1.2.1 R.2.1.2.2 ++ wS_ s0 v0 f0 r0 ++ wV_ v0 v_keys v_firsts v_ends v_values v_inferred v_gone cI cZ R.2.2.1.1 R.2.2.1.2.1 R.2.2.1.2.2.1 R.2.2.1.2.2.2.1 R.2.2.1.2.2.2.2.1 R.2.2.1.2.2.2.2.2.1 R.2.2.1.2.2.2.2.2.2 ++ wF_ f0 f_keys f_days f_amounts f_versions cI R.2.2.2.1.1 R.2.2.2.1.2.1 R.2.2.2.1.2.2.1 R.2.2.2.1.2.2.2.1 R.2.2.2.1.2.2.2.2 ++ wR_ r0 r_keys r_days r_values cI rkeys rdays rvalues rcount ++ wO_ o0 cJ R.2.2.2.2) A) (by decide) rfl (Nat.le_of_ble_eq_true rfl) ?_
  intro p e s m args below meth c A ls hx hb hr hts hown hlocks hml htab hA hU hN hC hP hK hD hl
  have hown : s.vm.findClass RL = some m.cls := hown
  have hl : lv_has ls 4 [(0, .ref d0), (1, .int a2), (2, .ref o0)] := hl
  have hS : va_S A s.heap s.heap [] := va_S.rf
  unfold f_L_join at hf
  dsimp only at hf
  refine lv_aload_n hx hb dL_join_0 rfl (lv_at hl 2 rfl) ?_
  refine lv_iconst (v := 0) hx hb dL_join_1 (by decide) ?_
  refine lv_aload_n hx hb dL_join_2 rfl (lv_at hl 0 rfl) ?_
  refine lv_iload_n hx hb dL_join_3 rfl (lv_at hl 1 rfl) ?_
  obtain ⟨R18, g19, hf⟩ := bd_B hf
  obtain ⟨x1, ⟨dh3, dk4, dm5⟩, ⟨vk6, vf7, ve8, vv9, vi10, vg11, vm12⟩, ⟨fk13, fd14, fa15, fv16, fc17⟩⟩ := R18
  dsimp only at hf
  have hPc := hP.sub (ws' := wD_ d0 s0 z0 b0 q0 t0 dhasSaved dkeptError dmoved ++ wS_ s0 v0 f0 r0 ++ wV_ v0 v_keys v_firsts v_ends v_values v_inferred v_gone cI cZ vkeys vfirsts vends vvalues vinferred vgone vmade ++ wF_ f0 f_keys f_days f_amounts f_versions cI fkeys fdays famounts fversions fcount ++ wR_ r0 r_keys r_days r_values cI rkeys rdays rvalues rcount) [0, 1, 2, 3, 4, 5, 6, 7, 8, 9, 10, 11, 12, 13, 14, 15, 16, 17] rfl
  have hDc := hD.sub (ws' := wD_ d0 s0 z0 b0 q0 t0 dhasSaved dkeptError dmoved ++ wS_ s0 v0 f0 r0 ++ wV_ v0 v_keys v_firsts v_ends v_values v_inferred v_gone cI cZ vkeys vfirsts vends vvalues vinferred vgone vmade ++ wF_ f0 f_keys f_days f_amounts f_versions cI fkeys fdays famounts fversions fcount ++ wR_ r0 r_keys r_days r_values cI rkeys rdays rvalues rcount) [0, 1, 2, 3, 4, 5, 6, 7, 8, 9, 10, 11, 12, 13, 14, 15, 16, 17] (by decide) rfl
  have hFc := va_free (wc := wD_ d0 s0 z0 b0 q0 t0 dhasSaved dkeptError dmoved ++ wS_ s0 v0 f0 r0 ++ wV_ v0 v_keys v_firsts v_ends v_values v_inferred v_gone cI cZ vkeys vfirsts vends vvalues vinferred vgone vmade ++ wF_ f0 f_keys f_days f_amounts f_versions cI fkeys fdays famounts fversions fcount ++ wR_ r0 r_keys r_days r_values cI rkeys rdays rvalues rcount) hD hS hA [0, 1, 2, 3, 4, 5, 6, 7, 8, 9, 10, 11, 12, 13, 14, 15, 16, 17] rfl
  cases x1 with
  | error E24 =>
    by_cases c25 : E24 = "java/lang/IndexOutOfBoundsException"
    · have hf := ite_T c25 hf
      subst c25
      refine vx_calli (vx_runV (As := [.int a2]) (rest := [.int 0, .ref o0]) ⟨hx, hb, hml, hown, hts⟩ (c_X5_join l dC dI cI cZ cC cJ cD hst d0 s0 z0 b0 q0 t0 v0 f0 r0 v_keys v_firsts v_ends v_values v_inferred v_gone f_keys f_days f_amounts f_versions r_keys r_days r_values s.heap.size dhasSaved dkeptError dmoved vkeys vfirsts vends vvalues vinferred vgone vmade fkeys fdays famounts fversions fcount rkeys rdays rvalues rcount a2 ((Except.error "java/lang/IndexOutOfBoundsException"), (dh3, dk4, dm5), (vk6, vf7, ve8, vv9, vi10, vg11, vm12), (fk13, fd14, fa15, fv16, fc17)) g19) (cwV 1 hts gL_join_X5_join rfl rfl rfl hs_X5_join ⟨Nat.le_of_ble_eq_true rfl, Nat.le_of_ble_eq_true rfl⟩) (preVy_ (ci := 7) (q0 := 0) hPc hK hDc rfl rfl rfl rfl hS hU hN hFc hC.1) rfl rfl hl.1 rfl (lv_room (Nat.le_of_ble_eq_true rfl)) dL_join_4 ⟨Nat.le_of_ble_eq_true rfl, Nat.le_of_ble_eq_true rfl⟩) hS (fun q _ h => hFc q h) hFc (fun q _ h => hFc q h) (fun E ce q26 u t H22 locs ht hvm hp hB hz1 hk1 hS hce hcv hcl => ?_) (fun z23 u t H22 locs ht hvm hw hB hz1 hk1 hS => ?_)
      · obtain ⟨hE, hB⟩ := hB
        cases hE
        obtain ⟨hP, hD⟩ := aft_ (Wr := wO_ o0 cJ ov) (Wc' := wD_ d0 s0 z0 b0 q0 t0 dh3 dk4 dm5 ++ wS_ s0 v0 f0 r0 ++ wV_ v0 v_keys v_firsts v_ends v_values v_inferred v_gone cI cZ vk6 vf7 ve8 vv9 vi10 vg11 vm12 ++ wF_ f0 f_keys f_days f_amounts f_versions cI fk13 fd14 fa15 fv16 fc17 ++ wR_ r0 r_keys r_days r_values cI rkeys rdays rvalues rcount) (W2 := wD_ d0 s0 z0 b0 q0 t0 dh3 dk4 dm5 ++ wS_ s0 v0 f0 r0 ++ wV_ v0 v_keys v_firsts v_ends v_values v_inferred v_gone cI cZ vk6 vf7 ve8 vv9 vi10 vg11 vm12 ++ wF_ f0 f_keys f_days f_amounts f_versions cI fk13 fd14 fa15 fv16 fc17 ++ wR_ r0 r_keys r_days r_values cI rkeys rdays rvalues rcount ++ wO_ o0 cJ ov) hP hD [0, 1, 2, 3, 4, 5, 6, 7, 8, 9, 10, 11, 12, 13, 14, 15, 16, 17] [18] [1, 2, 3, 4, 5, 6, 7, 8, 9, 10, 11, 12, 13, 14, 15, 16, 17, 18, 0] rfl rfl (by decide) (by decide) (by decide) hk1 hFc hB ht rfl
        refine vx_catch (name := "java/lang/IndexOutOfBoundsException") hown [] ⟨0, 9, 12, 13⟩ [] (htab.trans rfl) (fun z hz => nomatch hz) (by decide +kernel) (by decide) (hts _ (List.mem_of_getElem? (i := 1) rfl)) ((hC.1.1 "java/lang/IndexOutOfBoundsException" (by decide +kernel)).use rfl) hce hcv hcl ?_
        refine lv_astore_n (lv' := [(3, .ref q26), (0, .ref d0), (1, .int a2), (2, .ref o0)]) hx hb dL_join_12 rfl hl (by decide) rfl (fun ls hl => ?_)
        refine lv_iconst (v := 1) hx hb dL_join_13 (by decide) ?_
        have hR := Option.some.inj hf
        subst hR
        refine W.widen (k := 1) (n := 6) (Nat.le_of_ble_eq_true rfl) (Nat.le_of_ble_eq_true rfl) ?_
        exact W.iret (v := (1 : Int32)) hx hb hr (fun t ht hW => ⟨⟨(1 : Int32), (), rfl, rfl, by rw [ht]; exact hP, va_K.moved hW.alike hK, hD⟩, hS.F ht⟩) hS.2.2 dL_join_14
      · exact absurd hw (fun h => nomatch h)
    · have hf := ite_F c25 hf
      exact absurd hf (fun h => nomatch h)
  | ok r2 =>
    refine vx_calli (vx_runV (As := [.int a2]) (rest := [.int 0, .ref o0]) ⟨hx, hb, hml, hown, hts⟩ (c_X5_join l dC dI cI cZ cC cJ cD hst d0 s0 z0 b0 q0 t0 v0 f0 r0 v_keys v_firsts v_ends v_values v_inferred v_gone f_keys f_days f_amounts f_versions r_keys r_days r_values s.heap.size dhasSaved dkeptError dmoved vkeys vfirsts vends vvalues vinferred vgone vmade fkeys fdays famounts fversions fcount rkeys rdays rvalues rcount a2 ((Except.ok r2), (dh3, dk4, dm5), (vk6, vf7, ve8, vv9, vi10, vg11, vm12), (fk13, fd14, fa15, fv16, fc17)) g19) (cwV 1 hts gL_join_X5_join rfl rfl rfl hs_X5_join ⟨Nat.le_of_ble_eq_true rfl, Nat.le_of_ble_eq_true rfl⟩) (preVy_ (ci := 7) (q0 := 0) hPc hK hDc rfl rfl rfl rfl hS hU hN hFc hC.1) rfl rfl hl.1 rfl (lv_room (Nat.le_of_ble_eq_true rfl)) dL_join_4 ⟨Nat.le_of_ble_eq_true rfl, Nat.le_of_ble_eq_true rfl⟩) hS (fun q _ h => hFc q h) hFc (fun q _ h => hFc q h) (fun E ce q9 u t H22 locs ht hvm hp hB hz1 hk1 hS hce hcv hcl => ?_) (fun z23 u t H22 locs ht hvm hw hB hz1 hk1 hS => ?_)
    · exact absurd hB.1 (fun h => nomatch h)
    · have hw : r2 = z23 := Except.ok.inj hw
      subst hw
      obtain ⟨hP, hD⟩ := aft_ (Wr := wO_ o0 cJ ov) (Wc' := wD_ d0 s0 z0 b0 q0 t0 dh3 dk4 dm5 ++ wS_ s0 v0 f0 r0 ++ wV_ v0 v_keys v_firsts v_ends v_values v_inferred v_gone cI cZ vk6 vf7 ve8 vv9 vi10 vg11 vm12 ++ wF_ f0 f_keys f_days f_amounts f_versions cI fk13 fd14 fa15 fv16 fc17 ++ wR_ r0 r_keys r_days r_values cI rkeys rdays rvalues rcount) (W2 := wD_ d0 s0 z0 b0 q0 t0 dh3 dk4 dm5 ++ wS_ s0 v0 f0 r0 ++ wV_ v0 v_keys v_firsts v_ends v_values v_inferred v_gone cI cZ vk6 vf7 ve8 vv9 vi10 vg11 vm12 ++ wF_ f0 f_keys f_days f_amounts f_versions cI fk13 fd14 fa15 fv16 fc17 ++ wR_ r0 r_keys r_days r_values cI rkeys rdays rvalues rcount ++ wO_ o0 cJ ov) hP hD [0, 1, 2, 3, 4, 5, 6, 7, 8, 9, 10, 11, 12, 13, 14, 15, 16, 17] [18] [1, 2, 3, 4, 5, 6, 7, 8, 9, 10, 11, 12, 13, 14, 15, 16, 17, 18, 0] rfl rfl (by decide) (by decide) (by decide) hk1 hFc hB ht rfl
      refine lv_i2l hx hb dL_join_7 rfl ?_
      obtain ⟨h27, hf⟩ := gd_T hf
      refine va_last hx hb hK hP hD hS 18 3 rfl rfl h27 dL_join_8 (fun H28 locs hP hD hS => ?_)
      have hP : va_P (dC, dI) vwCl (wD_ d0 s0 z0 b0 q0 t0 dh3 dk4 dm5 ++ wS_ s0 v0 f0 r0 ++ wV_ v0 v_keys v_firsts v_ends v_values v_inferred v_gone cI cZ vk6 vf7 ve8 vv9 vi10 vg11 vm12 ++ wF_ f0 f_keys f_days f_amounts f_versions cI fk13 fd14 fa15 fv16 fc17 ++ wR_ r0 r_keys r_days r_values cI rkeys rdays rvalues rcount ++ wO_ o0 cJ (vp_updL ov ((0 : Int32).toNatClampNeg) r2.toInt64)) H28 := hP
      have hD : va_D A (wD_ d0 s0 z0 b0 q0 t0 dh3 dk4 dm5 ++ wS_ s0 v0 f0 r0 ++ wV_ v0 v_keys v_firsts v_ends v_values v_inferred v_gone cI cZ vk6 vf7 ve8 vv9 vi10 vg11 vm12 ++ wF_ f0 f_keys f_days f_amounts f_versions cI fk13 fd14 fa15 fv16 fc17 ++ wR_ r0 r_keys r_days r_values cI rkeys rdays rvalues rcount ++ wO_ o0 cJ (vp_updL ov ((0 : Int32).toNatClampNeg) r2.toInt64)) := hD
      obtain ⟨u29, e30, hf⟩ := nm_T hf
      rw [← e30] at hP hD
      refine lv_goto (tgt := 15) hx hb dL_join_9 (by decide) ?_
      refine lv_iconst (v := 0) hx hb dL_join_15 (by decide) ?_
      have hR := Option.some.inj hf
      subst hR
      refine W.widen (k := 1) (n := 6) (Nat.le_of_ble_eq_true rfl) (Nat.le_of_ble_eq_true rfl) ?_
      exact W.iret (v := (0 : Int32)) hx hb hr (fun t ht hW => ⟨⟨(0 : Int32), (), rfl, rfl, by rw [ht]; exact hP, va_K.moved hW.alike hK, hD⟩, hS.F ht⟩) hS.2.2 dL_join_16
theorem hs_L_join : yL_join.cls ≠ "java/lang/invoke/MethodHandle" ∧ yL_join.cls ≠ "java/lang/invoke/VarHandle" ∧ (parseMethodDescriptor yL_join.desc).map (fun d => d.parameters.length) = some 3 := by decide +kernel
def f_L_versionsOf (a2 : Int32) (D_ : tD_) (S_ : tS_) (V_ : tV_) (F_ : tF_) (R_ : tR_) (ov : tO_) : Option (Int32 × tO_) :=
match D_ with
| (dhasSaved, dkeptError, dmoved) =>
match V_ with
| (vkeys, vfirsts, vends, vvalues, vinferred, vgone, vmade) =>
match F_ with
| (fkeys, fdays, famounts, fversions, fcount) =>
match R_ with
| (rkeys, rdays, rvalues, rcount) =>
bd_ (f_X5_versionsOf a2 (dhasSaved, dkeptError, dmoved) () (vkeys, vfirsts, vends, vvalues, vinferred, vgone, vmade) (fkeys, fdays, famounts, fversions, fcount) (rkeys, rdays, rvalues, rcount)) (fun x1 =>
match x1 with
| Except.error E9 => (if E9 = "java/lang/IndexOutOfBoundsException" then some ((1 : Int32), ov) else none)
| Except.ok r2 =>
gd_ (0 : Int32) 1 (nm_ (vp_updL ov ((0 : Int32).toNatClampNeg) r2.toInt64) (fun u14 =>
some ((0 : Int32), u14))))
abbrev rm_L_versionsOf : Room := { frames := 8, cells := 1, slots := 6, locals := 130 }
set_option maxHeartbeats 4000000 in
set_option maxRecDepth 100000 in
theorem c_L_versionsOf (l : Launch) (dC : Nat → ClassId) (dI : Nat → Nat → Nat) (cI cZ cC cJ cD : ClassId) (hst : l.stackTraces = false) (d0 s0 z0 b0 q0 t0 v0 f0 r0 v_keys v_firsts v_ends v_values v_inferred v_gone f_keys f_days f_amounts f_versions r_keys r_days r_values o0 : Nat) (sz : Nat) (dhasSaved : Int32) (dkeptError : Int32) (dmoved : Int32) (vkeys : Nat → Int32) (vfirsts : Nat → Int32) (vends : Nat → Int32) (vvalues : Nat → Int32) (vinferred : Nat → Int32) (vgone : Nat → Int32) (vmade : Int32) (fkeys : Nat → Int32) (fdays : Nat → Int32) (famounts : Nat → Int32) (fversions : Nat → Int32) (fcount : Int32) (rkeys : Nat → Int32) (rdays : Nat → Int32) (rvalues : Nat → Int32) (rcount : Int32) (ov : Nat → Int64) (a2 : Int32) (R : Int32 × tO_) (hf : f_L_versionsOf a2 (dhasSaved, dkeptError, dmoved) () (vkeys, vfirsts, vends, vvalues, vinferred, vgone, vmade) (fkeys, fdays, famounts, fversions, fcount) (rkeys, rdays, rvalues, rcount) ov = some R) : Met l yL_versionsOf wsL_versionsOf rm_L_versionsOf (PL_ (dC, dI) (ty_ cI cZ cC cJ cD) (wD_ d0 s0 z0 b0 q0 t0 dhasSaved dkeptError dmoved ++ wS_ s0 v0 f0 r0 ++ wV_ v0 v_keys v_firsts v_ends v_values v_inferred v_gone cI cZ vkeys vfirsts vends vvalues vinferred vgone vmade ++ wF_ f0 f_keys f_days f_amounts f_versions cI fkeys fdays famounts fversions fcount ++ wR_ r0 r_keys r_days r_values cI rkeys rdays rvalues rcount ++ wO_ o0 cJ ov) sz [.ref d0, .int a2, .ref o0]) (Qi_ (dC, dI) (ty_ cI cZ cC cJ cD) R.1 (wD_ d0 s0 z0 b0 q0 t0 dhasSaved dkeptError dmoved ++ wS_ s0 v0 f0 r0 ++ wV_ v0 v_keys v_firsts v_ends v_values v_inferred v_gone cI cZ vkeys vfirsts vends vvalues vinferred vgone vmade ++ wF_ f0 f_keys f_days f_amounts f_versions cI fkeys fdays famounts fversions fcount ++ wR_ r0 r_keys r_days r_values cI rkeys rdays rvalues rcount ++ wO_ o0 cJ R.2) (va_A (wD_ d0 s0 z0 b0 q0 t0 dhasSaved dkeptError dmoved ++ wS_ s0 v0 f0 r0 ++ wV_ v0 v_keys v_firsts v_ends v_values v_inferred v_gone cI cZ vkeys vfirsts vends vvalues vinferred vgone vmade ++ wF_ f0 f_keys f_days f_amounts f_versions cI fkeys fdays famounts fversions fcount ++ wR_ r0 r_keys r_days r_values cI rkeys rdays rvalues rcount ++ wO_ o0 cJ ov) sz)) 1 6 (va_A (wD_ d0 s0 z0 b0 q0 t0 dhasSaved dkeptError dmoved ++ wS_ s0 v0 f0 r0 ++ wV_ v0 v_keys v_firsts v_ends v_values v_inferred v_gone cI cZ vkeys vfirsts vends vvalues vinferred vgone vmade ++ wF_ f0 f_keys f_days f_amounts f_versions cI fkeys fdays famounts fversions fcount ++ wR_ r0 r_keys r_days r_values cI rkeys rdays rvalues rcount ++ wO_ o0 cJ ov) sz) := by
  refine metw_ (cc := cL_versionsOf) (maxL := 4) (ret := (some .int)) (hh := [(0, 9, 12, 13)]) (Qcf := fun A => Qi_ (dC, dI) (ty_ cI cZ cC cJ cD) R.1 (wD_ d0 s0 z0 b0 q0 t0 dhasSaved dkeptError dmoved ++ wS_ s0 v0 f0 r0 ++ wV_ v0 v_keys v_firsts v_ends v_values v_inferred v_gone cI cZ vkeys vfirsts vends vvalues vinferred vgone vmade ++ wF_ f0 f_keys f_days f_amounts f_versions cI fkeys fdays famounts fversions fcount ++ wR_ r0 r_keys r_days r_values cI rkeys rdays rvalues rcount ++ wO_ o0 cJ R.2) A) (by decide) rfl (Nat.le_of_ble_eq_true rfl) ?_
  intro p e s m args below meth c A ls hx hb hr hts hown hlocks hml htab hA hU hN hC hP hK hD hl
  have hown : s.vm.findClass RL = some m.cls := hown
  have hl : lv_has ls 4 [(0, .ref d0), (1, .int a2), (2, .ref o0)] := hl
  have hS : va_S A s.heap s.heap [] := va_S.rf
  unfold f_L_versionsOf at hf
  dsimp only at hf
  refine lv_aload_n hx hb dL_versionsOf_0 rfl (lv_at hl 2 rfl) ?_
  refine lv_iconst (v := 0) hx hb dL_versionsOf_1 (by decide) ?_
  refine lv_aload_n hx hb dL_versionsOf_2 rfl (lv_at hl 0 rfl) ?_
  refine lv_iload_n hx hb dL_versionsOf_3 rfl (lv_at hl 1 rfl) ?_
  obtain ⟨R3, g4, hf⟩ := bd_B hf
  obtain ⟨x1, rfl⟩ : ∃ z, z = R3 := ⟨_, rfl⟩
  have hPc := hP.sub (ws' := wD_ d0 s0 z0 b0 q0 t0 dhasSaved dkeptError dmoved ++ wS_ s0 v0 f0 r0 ++ wV_ v0 v_keys v_firsts v_ends v_values v_inferred v_gone cI cZ vkeys vfirsts vends vvalues vinferred vgone vmade ++ wF_ f0 f_keys f_days f_amounts f_versions cI fkeys fdays famounts fversions fcount ++ wR_ r0 r_keys r_days r_values cI rkeys rdays rvalues rcount) [0, 1, 2, 3, 4, 5, 6, 7, 8, 9, 10, 11, 12, 13, 14, 15, 16, 17] rfl
  have hDc := hD.sub (ws' := wD_ d0 s0 z0 b0 q0 t0 dhasSaved dkeptError dmoved ++ wS_ s0 v0 f0 r0 ++ wV_ v0 v_keys v_firsts v_ends v_values v_inferred v_gone cI cZ vkeys vfirsts vends vvalues vinferred vgone vmade ++ wF_ f0 f_keys f_days f_amounts f_versions cI fkeys fdays famounts fversions fcount ++ wR_ r0 r_keys r_days r_values cI rkeys rdays rvalues rcount) [0, 1, 2, 3, 4, 5, 6, 7, 8, 9, 10, 11, 12, 13, 14, 15, 16, 17] (by decide) rfl
  have hFc := va_free (wc := wD_ d0 s0 z0 b0 q0 t0 dhasSaved dkeptError dmoved ++ wS_ s0 v0 f0 r0 ++ wV_ v0 v_keys v_firsts v_ends v_values v_inferred v_gone cI cZ vkeys vfirsts vends vvalues vinferred vgone vmade ++ wF_ f0 f_keys f_days f_amounts f_versions cI fkeys fdays famounts fversions fcount ++ wR_ r0 r_keys r_days r_values cI rkeys rdays rvalues rcount) hD hS hA [0, 1, 2, 3, 4, 5, 6, 7, 8, 9, 10, 11, 12, 13, 14, 15, 16, 17] rfl
  cases x1 with
  | error E9 =>
    by_cases c10 : E9 = "java/lang/IndexOutOfBoundsException"
    · have hf := ite_T c10 hf
      subst c10
      refine vx_calli (vx_runV (As := [.int a2]) (rest := [.int 0, .ref o0]) ⟨hx, hb, hml, hown, hts⟩ (c_X5_versionsOf l dC dI cI cZ cC cJ cD hst d0 s0 z0 b0 q0 t0 v0 f0 r0 v_keys v_firsts v_ends v_values v_inferred v_gone f_keys f_days f_amounts f_versions r_keys r_days r_values s.heap.size dhasSaved dkeptError dmoved vkeys vfirsts vends vvalues vinferred vgone vmade fkeys fdays famounts fversions fcount rkeys rdays rvalues rcount a2 (Except.error "java/lang/IndexOutOfBoundsException") g4) (cwV 1 hts gL_versionsOf_X5_versionsOf rfl rfl rfl hs_X5_versionsOf ⟨Nat.le_of_ble_eq_true rfl, Nat.le_of_ble_eq_true rfl⟩) (preVy_ (ci := 7) (q0 := 0) hPc hK hDc rfl rfl rfl rfl hS hU hN hFc hC.1) rfl rfl hl.1 rfl (lv_room (Nat.le_of_ble_eq_true rfl)) dL_versionsOf_4 ⟨Nat.le_of_ble_eq_true rfl, Nat.le_of_ble_eq_true rfl⟩) hS (fun q _ h => hFc q h) hFc (fun q _ h => hFc q h) (fun E ce q11 u t H7 locs ht hvm hp hB hz1 hk1 hS hce hcv hcl => ?_) (fun z8 u t H7 locs ht hvm hw hB hz1 hk1 hS => ?_)
      · obtain ⟨hE, hB⟩ := hB
        cases hE
        obtain ⟨hP, hD⟩ := aft_ (Wr := wO_ o0 cJ ov) (Wc' := wD_ d0 s0 z0 b0 q0 t0 dhasSaved dkeptError dmoved ++ wS_ s0 v0 f0 r0 ++ wV_ v0 v_keys v_firsts v_ends v_values v_inferred v_gone cI cZ vkeys vfirsts vends vvalues vinferred vgone vmade ++ wF_ f0 f_keys f_days f_amounts f_versions cI fkeys fdays famounts fversions fcount ++ wR_ r0 r_keys r_days r_values cI rkeys rdays rvalues rcount) (W2 := wD_ d0 s0 z0 b0 q0 t0 dhasSaved dkeptError dmoved ++ wS_ s0 v0 f0 r0 ++ wV_ v0 v_keys v_firsts v_ends v_values v_inferred v_gone cI cZ vkeys vfirsts vends vvalues vinferred vgone vmade ++ wF_ f0 f_keys f_days f_amounts f_versions cI fkeys fdays famounts fversions fcount ++ wR_ r0 r_keys r_days r_values cI rkeys rdays rvalues rcount ++ wO_ o0 cJ ov) hP hD [0, 1, 2, 3, 4, 5, 6, 7, 8, 9, 10, 11, 12, 13, 14, 15, 16, 17] [18] [1, 2, 3, 4, 5, 6, 7, 8, 9, 10, 11, 12, 13, 14, 15, 16, 17, 18, 0] rfl rfl (by decide) (by decide) (by decide) hk1 hFc hB ht rfl
        refine vx_catch (name := "java/lang/IndexOutOfBoundsException") hown [] ⟨0, 9, 12, 13⟩ [] (htab.trans rfl) (fun z hz => nomatch hz) (by decide +kernel) (by decide) (hts _ (List.mem_of_getElem? (i := 1) rfl)) ((hC.1.1 "java/lang/IndexOutOfBoundsException" (by decide +kernel)).use rfl) hce hcv hcl ?_
        refine lv_astore_n (lv' := [(3, .ref q11), (0, .ref d0), (1, .int a2), (2, .ref o0)]) hx hb dL_versionsOf_12 rfl hl (by decide) rfl (fun ls hl => ?_)
        refine lv_iconst (v := 1) hx hb dL_versionsOf_13 (by decide) ?_
        have hR := Option.some.inj hf
        subst hR
        refine W.widen (k := 1) (n := 6) (Nat.le_of_ble_eq_true rfl) (Nat.le_of_ble_eq_true rfl) ?_
        exact W.iret (v := (1 : Int32)) hx hb hr (fun t ht hW => ⟨⟨(1 : Int32), (), rfl, rfl, by rw [ht]; exact hP, va_K.moved hW.alike hK, hD⟩, hS.F ht⟩) hS.2.2 dL_versionsOf_14
      · exact absurd hw (fun h => nomatch h)
    · have hf := ite_F c10 hf
      exact absurd hf (fun h => nomatch h)
  | ok r2 =>
    refine vx_calli (vx_runV (As := [.int a2]) (rest := [.int 0, .ref o0]) ⟨hx, hb, hml, hown, hts⟩ (c_X5_versionsOf l dC dI cI cZ cC cJ cD hst d0 s0 z0 b0 q0 t0 v0 f0 r0 v_keys v_firsts v_ends v_values v_inferred v_gone f_keys f_days f_amounts f_versions r_keys r_days r_values s.heap.size dhasSaved dkeptError dmoved vkeys vfirsts vends vvalues vinferred vgone vmade fkeys fdays famounts fversions fcount rkeys rdays rvalues rcount a2 (Except.ok r2) g4) (cwV 1 hts gL_versionsOf_X5_versionsOf rfl rfl rfl hs_X5_versionsOf ⟨Nat.le_of_ble_eq_true rfl, Nat.le_of_ble_eq_true rfl⟩) (preVy_ (ci := 7) (q0 := 0) hPc hK hDc rfl rfl rfl rfl hS hU hN hFc hC.1) rfl rfl hl.1 rfl (lv_room (Nat.le_of_ble_eq_true rfl)) dL_versionsOf_4 ⟨Nat.le_of_ble_eq_true rfl, Nat.le_of_ble_eq_true rfl⟩) hS (fun q _ h => hFc q h) hFc (fun q _ h => hFc q h) (fun E ce q9 u t H7 locs ht hvm hp hB hz1 hk1 hS hce hcv hcl => ?_) (fun z8 u t H7 locs ht hvm hw hB hz1 hk1 hS => ?_)
    · exact absurd hB.1 (fun h => nomatch h)
    · have hw : r2 = z8 := Except.ok.inj hw
      subst hw
      obtain ⟨hP, hD⟩ := aft_ (Wr := wO_ o0 cJ ov) (Wc' := wD_ d0 s0 z0 b0 q0 t0 dhasSaved dkeptError dmoved ++ wS_ s0 v0 f0 r0 ++ wV_ v0 v_keys v_firsts v_ends v_values v_inferred v_gone cI cZ vkeys vfirsts vends vvalues vinferred vgone vmade ++ wF_ f0 f_keys f_days f_amounts f_versions cI fkeys fdays famounts fversions fcount ++ wR_ r0 r_keys r_days r_values cI rkeys rdays rvalues rcount) (W2 := wD_ d0 s0 z0 b0 q0 t0 dhasSaved dkeptError dmoved ++ wS_ s0 v0 f0 r0 ++ wV_ v0 v_keys v_firsts v_ends v_values v_inferred v_gone cI cZ vkeys vfirsts vends vvalues vinferred vgone vmade ++ wF_ f0 f_keys f_days f_amounts f_versions cI fkeys fdays famounts fversions fcount ++ wR_ r0 r_keys r_days r_values cI rkeys rdays rvalues rcount ++ wO_ o0 cJ ov) hP hD [0, 1, 2, 3, 4, 5, 6, 7, 8, 9, 10, 11, 12, 13, 14, 15, 16, 17] [18] [1, 2, 3, 4, 5, 6, 7, 8, 9, 10, 11, 12, 13, 14, 15, 16, 17, 18, 0] rfl rfl (by decide) (by decide) (by decide) hk1 hFc hB ht rfl
      refine lv_i2l hx hb dL_versionsOf_7 rfl ?_
      obtain ⟨h12, hf⟩ := gd_T hf
      refine va_last hx hb hK hP hD hS 18 3 rfl rfl h12 dL_versionsOf_8 (fun H13 locs hP hD hS => ?_)
      have hP : va_P (dC, dI) vwCl (wD_ d0 s0 z0 b0 q0 t0 dhasSaved dkeptError dmoved ++ wS_ s0 v0 f0 r0 ++ wV_ v0 v_keys v_firsts v_ends v_values v_inferred v_gone cI cZ vkeys vfirsts vends vvalues vinferred vgone vmade ++ wF_ f0 f_keys f_days f_amounts f_versions cI fkeys fdays famounts fversions fcount ++ wR_ r0 r_keys r_days r_values cI rkeys rdays rvalues rcount ++ wO_ o0 cJ (vp_updL ov ((0 : Int32).toNatClampNeg) r2.toInt64)) H13 := hP
      have hD : va_D A (wD_ d0 s0 z0 b0 q0 t0 dhasSaved dkeptError dmoved ++ wS_ s0 v0 f0 r0 ++ wV_ v0 v_keys v_firsts v_ends v_values v_inferred v_gone cI cZ vkeys vfirsts vends vvalues vinferred vgone vmade ++ wF_ f0 f_keys f_days f_amounts f_versions cI fkeys fdays famounts fversions fcount ++ wR_ r0 r_keys r_days r_values cI rkeys rdays rvalues rcount ++ wO_ o0 cJ (vp_updL ov ((0 : Int32).toNatClampNeg) r2.toInt64)) := hD
      obtain ⟨u14, e15, hf⟩ := nm_T hf
      rw [← e15] at hP hD
      refine lv_goto (tgt := 15) hx hb dL_versionsOf_9 (by decide) ?_
      refine lv_iconst (v := 0) hx hb dL_versionsOf_15 (by decide) ?_
      have hR := Option.some.inj hf
      subst hR
      refine W.widen (k := 1) (n := 6) (Nat.le_of_ble_eq_true rfl) (Nat.le_of_ble_eq_true rfl) ?_
      exact W.iret (v := (0 : Int32)) hx hb hr (fun t ht hW => ⟨⟨(0 : Int32), (), rfl, rfl, by rw [ht]; exact hP, va_K.moved hW.alike hK, hD⟩, hS.F ht⟩) hS.2.2 dL_versionsOf_16
theorem hs_L_versionsOf : yL_versionsOf.cls ≠ "java/lang/invoke/MethodHandle" ∧ yL_versionsOf.cls ≠ "java/lang/invoke/VarHandle" ∧ (parseMethodDescriptor yL_versionsOf.desc).map (fun d => d.parameters.length) = some 3 := by decide +kernel
def f_L_versionAt (a2 : Int32) (a3 : Int32) (D_ : tD_) (S_ : tS_) (V_ : tV_) (F_ : tF_) (R_ : tR_) (ov : tO_) : Option (Int32 × tO_) :=
match D_ with
| (dhasSaved, dkeptError, dmoved) =>
match V_ with
| (vkeys, vfirsts, vends, vvalues, vinferred, vgone, vmade) =>
match F_ with
| (fkeys, fdays, famounts, fversions, fcount) =>
match R_ with
| (rkeys, rdays, rvalues, rcount) =>
bd_ (f_X5_versionAt a2 a3 (dhasSaved, dkeptError, dmoved) () (vkeys, vfirsts, vends, vvalues, vinferred, vgone, vmade) (fkeys, fdays, famounts, fversions, fcount) (rkeys, rdays, rvalues, rcount)) (fun x1 =>
match x1 with
| Except.error E9 => (if E9 = "java/lang/IndexOutOfBoundsException" then some ((1 : Int32), ov) else (if E9 = "java/util/NoSuchElementException" then some ((2 : Int32), ov) else none))
| Except.ok r2 =>
gd_ (0 : Int32) 1 (nm_ (vp_updL ov ((0 : Int32).toNatClampNeg) r2.toInt64) (fun u16 =>
some ((0 : Int32), u16))))
abbrev rm_L_versionAt : Room := { frames := 8, cells := 2, slots := 12, locals := 131 }
set_option maxHeartbeats 4000000 in
set_option maxRecDepth 100000 in
theorem c_L_versionAt (l : Launch) (dC : Nat → ClassId) (dI : Nat → Nat → Nat) (cI cZ cC cJ cD : ClassId) (hst : l.stackTraces = false) (d0 s0 z0 b0 q0 t0 v0 f0 r0 v_keys v_firsts v_ends v_values v_inferred v_gone f_keys f_days f_amounts f_versions r_keys r_days r_values o0 : Nat) (sz : Nat) (dhasSaved : Int32) (dkeptError : Int32) (dmoved : Int32) (vkeys : Nat → Int32) (vfirsts : Nat → Int32) (vends : Nat → Int32) (vvalues : Nat → Int32) (vinferred : Nat → Int32) (vgone : Nat → Int32) (vmade : Int32) (fkeys : Nat → Int32) (fdays : Nat → Int32) (famounts : Nat → Int32) (fversions : Nat → Int32) (fcount : Int32) (rkeys : Nat → Int32) (rdays : Nat → Int32) (rvalues : Nat → Int32) (rcount : Int32) (ov : Nat → Int64) (a2 : Int32) (a3 : Int32) (R : Int32 × tO_) (hf : f_L_versionAt a2 a3 (dhasSaved, dkeptError, dmoved) () (vkeys, vfirsts, vends, vvalues, vinferred, vgone, vmade) (fkeys, fdays, famounts, fversions, fcount) (rkeys, rdays, rvalues, rcount) ov = some R) : Met l yL_versionAt wsL_versionAt rm_L_versionAt (PL_ (dC, dI) (ty_ cI cZ cC cJ cD) (wD_ d0 s0 z0 b0 q0 t0 dhasSaved dkeptError dmoved ++ wS_ s0 v0 f0 r0 ++ wV_ v0 v_keys v_firsts v_ends v_values v_inferred v_gone cI cZ vkeys vfirsts vends vvalues vinferred vgone vmade ++ wF_ f0 f_keys f_days f_amounts f_versions cI fkeys fdays famounts fversions fcount ++ wR_ r0 r_keys r_days r_values cI rkeys rdays rvalues rcount ++ wO_ o0 cJ ov) sz [.ref d0, .int a2, .int a3, .ref o0]) (Qi_ (dC, dI) (ty_ cI cZ cC cJ cD) R.1 (wD_ d0 s0 z0 b0 q0 t0 dhasSaved dkeptError dmoved ++ wS_ s0 v0 f0 r0 ++ wV_ v0 v_keys v_firsts v_ends v_values v_inferred v_gone cI cZ vkeys vfirsts vends vvalues vinferred vgone vmade ++ wF_ f0 f_keys f_days f_amounts f_versions cI fkeys fdays famounts fversions fcount ++ wR_ r0 r_keys r_days r_values cI rkeys rdays rvalues rcount ++ wO_ o0 cJ R.2) (va_A (wD_ d0 s0 z0 b0 q0 t0 dhasSaved dkeptError dmoved ++ wS_ s0 v0 f0 r0 ++ wV_ v0 v_keys v_firsts v_ends v_values v_inferred v_gone cI cZ vkeys vfirsts vends vvalues vinferred vgone vmade ++ wF_ f0 f_keys f_days f_amounts f_versions cI fkeys fdays famounts fversions fcount ++ wR_ r0 r_keys r_days r_values cI rkeys rdays rvalues rcount ++ wO_ o0 cJ ov) sz)) 2 12 (va_A (wD_ d0 s0 z0 b0 q0 t0 dhasSaved dkeptError dmoved ++ wS_ s0 v0 f0 r0 ++ wV_ v0 v_keys v_firsts v_ends v_values v_inferred v_gone cI cZ vkeys vfirsts vends vvalues vinferred vgone vmade ++ wF_ f0 f_keys f_days f_amounts f_versions cI fkeys fdays famounts fversions fcount ++ wR_ r0 r_keys r_days r_values cI rkeys rdays rvalues rcount ++ wO_ o0 cJ ov) sz) := by
  refine metw_ (cc := cL_versionAt) (maxL := 5) (ret := (some .int)) (hh := [(0, 10, 13, 13), (0, 10, 17, 26)]) (Qcf := fun A => Qi_ (dC, dI) (ty_ cI cZ cC cJ cD) R.1 (wD_ d0 s0 z0 b0 q0 t0 dhasSaved dkeptError dmoved ++ wS_ s0 v0 f0 r0 ++ wV_ v0 v_keys v_firsts v_ends v_values v_inferred v_gone cI cZ vkeys vfirsts vends vvalues vinferred vgone vmade ++ wF_ f0 f_keys f_days f_amounts f_versions cI fkeys fdays famounts fversions fcount ++ wR_ r0 r_keys r_days r_values cI rkeys rdays rvalues rcount ++ wO_ o0 cJ R.2) A) (by decide) rfl (Nat.le_of_ble_eq_true rfl) ?_
  intro p e s m args below meth c A ls hx hb hr hts hown hlocks hml htab hA hU hN hC hP hK hD hl
  have hown : s.vm.findClass RL = some m.cls := hown
  have hl : lv_has ls 5 [(0, .ref d0), (1, .int a2), (2, .int a3), (3, .ref o0)] := hl
  have hS : va_S A s.heap s.heap [] := va_S.rf
  unfold f_L_versionAt at hf
  dsimp only at hf
  refine lv_aload_n hx hb dL_versionAt_0 rfl (lv_at hl 3 rfl) ?_
  refine lv_iconst (v := 0) hx hb dL_versionAt_1 (by decide) ?_
  refine lv_aload_n hx hb dL_versionAt_2 rfl (lv_at hl 0 rfl) ?_
  refine lv_iload_n hx hb dL_versionAt_3 rfl (lv_at hl 1 rfl) ?_
  refine lv_iload_n hx hb dL_versionAt_4 rfl (lv_at hl 2 rfl) ?_
  obtain ⟨R3, g4, hf⟩ := bd_B hf
  obtain ⟨x1, rfl⟩ : ∃ z, z = R3 := ⟨_, rfl⟩
  have hPc := hP.sub (ws' := wD_ d0 s0 z0 b0 q0 t0 dhasSaved dkeptError dmoved ++ wS_ s0 v0 f0 r0 ++ wV_ v0 v_keys v_firsts v_ends v_values v_inferred v_gone cI cZ vkeys vfirsts vends vvalues vinferred vgone vmade ++ wF_ f0 f_keys f_days f_amounts f_versions cI fkeys fdays famounts fversions fcount ++ wR_ r0 r_keys r_days r_values cI rkeys rdays rvalues rcount) [0, 1, 2, 3, 4, 5, 6, 7, 8, 9, 10, 11, 12, 13, 14, 15, 16, 17] rfl
  have hDc := hD.sub (ws' := wD_ d0 s0 z0 b0 q0 t0 dhasSaved dkeptError dmoved ++ wS_ s0 v0 f0 r0 ++ wV_ v0 v_keys v_firsts v_ends v_values v_inferred v_gone cI cZ vkeys vfirsts vends vvalues vinferred vgone vmade ++ wF_ f0 f_keys f_days f_amounts f_versions cI fkeys fdays famounts fversions fcount ++ wR_ r0 r_keys r_days r_values cI rkeys rdays rvalues rcount) [0, 1, 2, 3, 4, 5, 6, 7, 8, 9, 10, 11, 12, 13, 14, 15, 16, 17] (by decide) rfl
  have hFc := va_free (wc := wD_ d0 s0 z0 b0 q0 t0 dhasSaved dkeptError dmoved ++ wS_ s0 v0 f0 r0 ++ wV_ v0 v_keys v_firsts v_ends v_values v_inferred v_gone cI cZ vkeys vfirsts vends vvalues vinferred vgone vmade ++ wF_ f0 f_keys f_days f_amounts f_versions cI fkeys fdays famounts fversions fcount ++ wR_ r0 r_keys r_days r_values cI rkeys rdays rvalues rcount) hD hS hA [0, 1, 2, 3, 4, 5, 6, 7, 8, 9, 10, 11, 12, 13, 14, 15, 16, 17] rfl
  cases x1 with
  | error E9 =>
    by_cases c10 : E9 = "java/lang/IndexOutOfBoundsException"
    · have hf := ite_T c10 hf
      subst c10
      refine vx_calli (vx_runV (As := [.int a2, .int a3]) (rest := [.int 0, .ref o0]) ⟨hx, hb, hml, hown, hts⟩ (c_X5_versionAt l dC dI cI cZ cC cJ cD hst d0 s0 z0 b0 q0 t0 v0 f0 r0 v_keys v_firsts v_ends v_values v_inferred v_gone f_keys f_days f_amounts f_versions r_keys r_days r_values s.heap.size dhasSaved dkeptError dmoved vkeys vfirsts vends vvalues vinferred vgone vmade fkeys fdays famounts fversions fcount rkeys rdays rvalues rcount a2 a3 (Except.error "java/lang/IndexOutOfBoundsException") g4) (cwV 2 hts gL_versionAt_X5_versionAt rfl rfl rfl hs_X5_versionAt ⟨Nat.le_of_ble_eq_true rfl, Nat.le_of_ble_eq_true rfl⟩) (preVy_ (ci := 7) (q0 := 0) hPc hK hDc rfl rfl rfl rfl hS hU hN hFc hC.1) rfl rfl hl.1 rfl (lv_room (Nat.le_of_ble_eq_true rfl)) dL_versionAt_5 ⟨Nat.le_of_ble_eq_true rfl, Nat.le_of_ble_eq_true rfl⟩) hS (fun q _ h => hFc q h) hFc (fun q _ h => hFc q h) (fun E ce q11 u t H7 locs ht hvm hp hB hz1 hk1 hS hce hcv hcl => ?_) (fun z8 u t H7 locs ht hvm hw hB hz1 hk1 hS => ?_)
      · obtain ⟨hE, hB⟩ := hB
        cases hE
        obtain ⟨hP, hD⟩ := aft_ (Wr := wO_ o0 cJ ov) (Wc' := wD_ d0 s0 z0 b0 q0 t0 dhasSaved dkeptError dmoved ++ wS_ s0 v0 f0 r0 ++ wV_ v0 v_keys v_firsts v_ends v_values v_inferred v_gone cI cZ vkeys vfirsts vends vvalues vinferred vgone vmade ++ wF_ f0 f_keys f_days f_amounts f_versions cI fkeys fdays famounts fversions fcount ++ wR_ r0 r_keys r_days r_values cI rkeys rdays rvalues rcount) (W2 := wD_ d0 s0 z0 b0 q0 t0 dhasSaved dkeptError dmoved ++ wS_ s0 v0 f0 r0 ++ wV_ v0 v_keys v_firsts v_ends v_values v_inferred v_gone cI cZ vkeys vfirsts vends vvalues vinferred vgone vmade ++ wF_ f0 f_keys f_days f_amounts f_versions cI fkeys fdays famounts fversions fcount ++ wR_ r0 r_keys r_days r_values cI rkeys rdays rvalues rcount ++ wO_ o0 cJ ov) hP hD [0, 1, 2, 3, 4, 5, 6, 7, 8, 9, 10, 11, 12, 13, 14, 15, 16, 17] [18] [1, 2, 3, 4, 5, 6, 7, 8, 9, 10, 11, 12, 13, 14, 15, 16, 17, 18, 0] rfl rfl (by decide) (by decide) (by decide) hk1 hFc hB ht rfl
        refine vx_catch (name := "java/lang/IndexOutOfBoundsException") hown [] ⟨0, 10, 13, 13⟩ [⟨0, 10, 17, 26⟩] (htab.trans rfl) (fun z hz => nomatch hz) (by decide +kernel) (by decide) (hts _ (List.mem_of_getElem? (i := 1) rfl)) ((hC.1.1 "java/lang/IndexOutOfBoundsException" (by decide +kernel)).use rfl) hce hcv hcl ?_
        refine lv_astore (lv' := [(4, .ref q11), (0, .ref d0), (1, .int a2), (2, .int a3), (3, .ref o0)]) hx hb dL_versionAt_13 hl (by decide) rfl (fun ls hl => ?_)
        refine lv_iconst (v := 1) hx hb dL_versionAt_15 (by decide) ?_
        have hR := Option.some.inj hf
        subst hR
        refine W.widen (k := 2) (n := 12) (Nat.le_of_ble_eq_true rfl) (Nat.le_of_ble_eq_true rfl) ?_
        exact W.iret (v := (1 : Int32)) hx hb hr (fun t ht hW => ⟨⟨(1 : Int32), (), rfl, rfl, by rw [ht]; exact hP, va_K.moved hW.alike hK, hD⟩, hS.F ht⟩) hS.2.2 dL_versionAt_16
      · exact absurd hw (fun h => nomatch h)
    · have hf := ite_F c10 hf
      by_cases c12 : E9 = "java/util/NoSuchElementException"
      · have hf := ite_T c12 hf
        subst c12
        refine vx_calli (vx_runV (As := [.int a2, .int a3]) (rest := [.int 0, .ref o0]) ⟨hx, hb, hml, hown, hts⟩ (c_X5_versionAt l dC dI cI cZ cC cJ cD hst d0 s0 z0 b0 q0 t0 v0 f0 r0 v_keys v_firsts v_ends v_values v_inferred v_gone f_keys f_days f_amounts f_versions r_keys r_days r_values s.heap.size dhasSaved dkeptError dmoved vkeys vfirsts vends vvalues vinferred vgone vmade fkeys fdays famounts fversions fcount rkeys rdays rvalues rcount a2 a3 (Except.error "java/util/NoSuchElementException") g4) (cwV 2 hts gL_versionAt_X5_versionAt rfl rfl rfl hs_X5_versionAt ⟨Nat.le_of_ble_eq_true rfl, Nat.le_of_ble_eq_true rfl⟩) (preVy_ (ci := 7) (q0 := 0) hPc hK hDc rfl rfl rfl rfl hS hU hN hFc hC.1) rfl rfl hl.1 rfl (lv_room (Nat.le_of_ble_eq_true rfl)) dL_versionAt_5 ⟨Nat.le_of_ble_eq_true rfl, Nat.le_of_ble_eq_true rfl⟩) hS (fun q _ h => hFc q h) hFc (fun q _ h => hFc q h) (fun E ce q13 u t H7 locs ht hvm hp hB hz1 hk1 hS hce hcv hcl => ?_) (fun z8 u t H7 locs ht hvm hw hB hz1 hk1 hS => ?_)
        · obtain ⟨hE, hB⟩ := hB
          cases hE
          obtain ⟨hP, hD⟩ := aft_ (Wr := wO_ o0 cJ ov) (Wc' := wD_ d0 s0 z0 b0 q0 t0 dhasSaved dkeptError dmoved ++ wS_ s0 v0 f0 r0 ++ wV_ v0 v_keys v_firsts v_ends v_values v_inferred v_gone cI cZ vkeys vfirsts vends vvalues vinferred vgone vmade ++ wF_ f0 f_keys f_days f_amounts f_versions cI fkeys fdays famounts fversions fcount ++ wR_ r0 r_keys r_days r_values cI rkeys rdays rvalues rcount) (W2 := wD_ d0 s0 z0 b0 q0 t0 dhasSaved dkeptError dmoved ++ wS_ s0 v0 f0 r0 ++ wV_ v0 v_keys v_firsts v_ends v_values v_inferred v_gone cI cZ vkeys vfirsts vends vvalues vinferred vgone vmade ++ wF_ f0 f_keys f_days f_amounts f_versions cI fkeys fdays famounts fversions fcount ++ wR_ r0 r_keys r_days r_values cI rkeys rdays rvalues rcount ++ wO_ o0 cJ ov) hP hD [0, 1, 2, 3, 4, 5, 6, 7, 8, 9, 10, 11, 12, 13, 14, 15, 16, 17] [18] [1, 2, 3, 4, 5, 6, 7, 8, 9, 10, 11, 12, 13, 14, 15, 16, 17, 18, 0] rfl rfl (by decide) (by decide) (by decide) hk1 hFc hB ht rfl
          refine vx_catch (name := "java/util/NoSuchElementException") hown [⟨0, 10, 13, 13⟩] ⟨0, 10, 17, 26⟩ [] (htab.trans rfl) (fun z hz => by (rcases List.mem_cons.mp hz with rfl | hz; exact Or.inr ⟨by decide, "java/lang/IndexOutOfBoundsException", hts _ (List.mem_of_getElem? (i := 1) rfl), hC.2 "java/util/NoSuchElementException" (by decide +kernel) "java/lang/IndexOutOfBoundsException" (by decide +kernel) (by decide +kernel)⟩; cases hz)) (by decide +kernel) (by decide) (hts _ (List.mem_of_getElem? (i := 2) rfl)) ((hC.1.1 "java/util/NoSuchElementException" (by decide +kernel)).use rfl) hce hcv hcl ?_
          refine lv_astore (lv' := [(4, .ref q13), (0, .ref d0), (1, .int a2), (2, .int a3), (3, .ref o0)]) hx hb dL_versionAt_17 hl (by decide) rfl (fun ls hl => ?_)
          refine lv_iconst (v := 2) hx hb dL_versionAt_19 (by decide) ?_
          have hR := Option.some.inj hf
          subst hR
          refine W.widen (k := 2) (n := 12) (Nat.le_of_ble_eq_true rfl) (Nat.le_of_ble_eq_true rfl) ?_
          exact W.iret (v := (2 : Int32)) hx hb hr (fun t ht hW => ⟨⟨(2 : Int32), (), rfl, rfl, by rw [ht]; exact hP, va_K.moved hW.alike hK, hD⟩, hS.F ht⟩) hS.2.2 dL_versionAt_20
        · exact absurd hw (fun h => nomatch h)
      · have hf := ite_F c12 hf
        exact absurd hf (fun h => nomatch h)
  | ok r2 =>
    refine vx_calli (vx_runV (As := [.int a2, .int a3]) (rest := [.int 0, .ref o0]) ⟨hx, hb, hml, hown, hts⟩ (c_X5_versionAt l dC dI cI cZ cC cJ cD hst d0 s0 z0 b0 q0 t0 v0 f0 r0 v_keys v_firsts v_ends v_values v_inferred v_gone f_keys f_days f_amounts f_versions r_keys r_days r_values s.heap.size dhasSaved dkeptError dmoved vkeys vfirsts vends vvalues vinferred vgone vmade fkeys fdays famounts fversions fcount rkeys rdays rvalues rcount a2 a3 (Except.ok r2) g4) (cwV 2 hts gL_versionAt_X5_versionAt rfl rfl rfl hs_X5_versionAt ⟨Nat.le_of_ble_eq_true rfl, Nat.le_of_ble_eq_true rfl⟩) (preVy_ (ci := 7) (q0 := 0) hPc hK hDc rfl rfl rfl rfl hS hU hN hFc hC.1) rfl rfl hl.1 rfl (lv_room (Nat.le_of_ble_eq_true rfl)) dL_versionAt_5 ⟨Nat.le_of_ble_eq_true rfl, Nat.le_of_ble_eq_true rfl⟩) hS (fun q _ h => hFc q h) hFc (fun q _ h => hFc q h) (fun E ce q9 u t H7 locs ht hvm hp hB hz1 hk1 hS hce hcv hcl => ?_) (fun z8 u t H7 locs ht hvm hw hB hz1 hk1 hS => ?_)
    · exact absurd hB.1 (fun h => nomatch h)
    · have hw : r2 = z8 := Except.ok.inj hw
      subst hw
      obtain ⟨hP, hD⟩ := aft_ (Wr := wO_ o0 cJ ov) (Wc' := wD_ d0 s0 z0 b0 q0 t0 dhasSaved dkeptError dmoved ++ wS_ s0 v0 f0 r0 ++ wV_ v0 v_keys v_firsts v_ends v_values v_inferred v_gone cI cZ vkeys vfirsts vends vvalues vinferred vgone vmade ++ wF_ f0 f_keys f_days f_amounts f_versions cI fkeys fdays famounts fversions fcount ++ wR_ r0 r_keys r_days r_values cI rkeys rdays rvalues rcount) (W2 := wD_ d0 s0 z0 b0 q0 t0 dhasSaved dkeptError dmoved ++ wS_ s0 v0 f0 r0 ++ wV_ v0 v_keys v_firsts v_ends v_values v_inferred v_gone cI cZ vkeys vfirsts vends vvalues vinferred vgone vmade ++ wF_ f0 f_keys f_days f_amounts f_versions cI fkeys fdays famounts fversions fcount ++ wR_ r0 r_keys r_days r_values cI rkeys rdays rvalues rcount ++ wO_ o0 cJ ov) hP hD [0, 1, 2, 3, 4, 5, 6, 7, 8, 9, 10, 11, 12, 13, 14, 15, 16, 17] [18] [1, 2, 3, 4, 5, 6, 7, 8, 9, 10, 11, 12, 13, 14, 15, 16, 17, 18, 0] rfl rfl (by decide) (by decide) (by decide) hk1 hFc hB ht rfl
      refine lv_i2l hx hb dL_versionAt_8 rfl ?_
      obtain ⟨h14, hf⟩ := gd_T hf
      refine va_last hx hb hK hP hD hS 18 3 rfl rfl h14 dL_versionAt_9 (fun H15 locs hP hD hS => ?_)
      have hP : va_P (dC, dI) vwCl (wD_ d0 s0 z0 b0 q0 t0 dhasSaved dkeptError dmoved ++ wS_ s0 v0 f0 r0 ++ wV_ v0 v_keys v_firsts v_ends v_values v_inferred v_gone cI cZ vkeys vfirsts vends vvalues vinferred vgone vmade ++ wF_ f0 f_keys f_days f_amounts f_versions cI fkeys fdays famounts fversions fcount ++ wR_ r0 r_keys r_days r_values cI rkeys rdays rvalues rcount ++ wO_ o0 cJ (vp_updL ov ((0 : Int32).toNatClampNeg) r2.toInt64)) H15 := hP
      have hD : va_D A (wD_ d0 s0 z0 b0 q0 t0 dhasSaved dkeptError dmoved ++ wS_ s0 v0 f0 r0 ++ wV_ v0 v_keys v_firsts v_ends v_values v_inferred v_gone cI cZ vkeys vfirsts vends vvalues vinferred vgone vmade ++ wF_ f0 f_keys f_days f_amounts f_versions cI fkeys fdays famounts fversions fcount ++ wR_ r0 r_keys r_days r_values cI rkeys rdays rvalues rcount ++ wO_ o0 cJ (vp_updL ov ((0 : Int32).toNatClampNeg) r2.toInt64)) := hD
      obtain ⟨u16, e17, hf⟩ := nm_T hf
      rw [← e17] at hP hD
      refine lv_goto (tgt := 21) hx hb dL_versionAt_10 (by decide) ?_
      refine lv_iconst (v := 0) hx hb dL_versionAt_21 (by decide) ?_
      have hR := Option.some.inj hf
      subst hR
      refine W.widen (k := 2) (n := 12) (Nat.le_of_ble_eq_true rfl) (Nat.le_of_ble_eq_true rfl) ?_
      exact W.iret (v := (0 : Int32)) hx hb hr (fun t ht hW => ⟨⟨(0 : Int32), (), rfl, rfl, by rw [ht]; exact hP, va_K.moved hW.alike hK, hD⟩, hS.F ht⟩) hS.2.2 dL_versionAt_22
theorem hs_L_versionAt : yL_versionAt.cls ≠ "java/lang/invoke/MethodHandle" ∧ yL_versionAt.cls ≠ "java/lang/invoke/VarHandle" ∧ (parseMethodDescriptor yL_versionAt.desc).map (fun d => d.parameters.length) = some 4 := by decide +kernel
def f_L_validOn (a2 : Int32) (a3 : Int32) (D_ : tD_) (S_ : tS_) (V_ : tV_) (F_ : tF_) (R_ : tR_) (ov : tO_) : Option (Int32 × tO_) :=
match D_ with
| (dhasSaved, dkeptError, dmoved) =>
match V_ with
| (vkeys, vfirsts, vends, vvalues, vinferred, vgone, vmade) =>
match F_ with
| (fkeys, fdays, famounts, fversions, fcount) =>
match R_ with
| (rkeys, rdays, rvalues, rcount) =>
bd_ (f_X5_validOn a2 a3 (dhasSaved, dkeptError, dmoved) () (vkeys, vfirsts, vends, vvalues, vinferred, vgone, vmade) (fkeys, fdays, famounts, fversions, fcount) (rkeys, rdays, rvalues, rcount)) (fun x1 =>
match x1 with
| Except.error E9 => (if E9 = "java/lang/IndexOutOfBoundsException" then some ((1 : Int32), ov) else (if E9 = "java/lang/IllegalArgumentException" then some ((2 : Int32), ov) else (if E9 = "java/util/NoSuchElementException" then some ((3 : Int32), ov) else none)))
| Except.ok r2 =>
gd_ (0 : Int32) 1 (nm_ (vp_updL ov ((0 : Int32).toNatClampNeg) r2.toInt64) (fun u18 =>
some ((0 : Int32), u18))))
abbrev rm_L_validOn : Room := { frames := 8, cells := 3, slots := 18, locals := 131 }
set_option maxHeartbeats 4000000 in
set_option maxRecDepth 100000 in
theorem c_L_validOn (l : Launch) (dC : Nat → ClassId) (dI : Nat → Nat → Nat) (cI cZ cC cJ cD : ClassId) (hst : l.stackTraces = false) (d0 s0 z0 b0 q0 t0 v0 f0 r0 v_keys v_firsts v_ends v_values v_inferred v_gone f_keys f_days f_amounts f_versions r_keys r_days r_values o0 : Nat) (sz : Nat) (dhasSaved : Int32) (dkeptError : Int32) (dmoved : Int32) (vkeys : Nat → Int32) (vfirsts : Nat → Int32) (vends : Nat → Int32) (vvalues : Nat → Int32) (vinferred : Nat → Int32) (vgone : Nat → Int32) (vmade : Int32) (fkeys : Nat → Int32) (fdays : Nat → Int32) (famounts : Nat → Int32) (fversions : Nat → Int32) (fcount : Int32) (rkeys : Nat → Int32) (rdays : Nat → Int32) (rvalues : Nat → Int32) (rcount : Int32) (ov : Nat → Int64) (a2 : Int32) (a3 : Int32) (R : Int32 × tO_) (hf : f_L_validOn a2 a3 (dhasSaved, dkeptError, dmoved) () (vkeys, vfirsts, vends, vvalues, vinferred, vgone, vmade) (fkeys, fdays, famounts, fversions, fcount) (rkeys, rdays, rvalues, rcount) ov = some R) : Met l yL_validOn wsL_validOn rm_L_validOn (PL_ (dC, dI) (ty_ cI cZ cC cJ cD) (wD_ d0 s0 z0 b0 q0 t0 dhasSaved dkeptError dmoved ++ wS_ s0 v0 f0 r0 ++ wV_ v0 v_keys v_firsts v_ends v_values v_inferred v_gone cI cZ vkeys vfirsts vends vvalues vinferred vgone vmade ++ wF_ f0 f_keys f_days f_amounts f_versions cI fkeys fdays famounts fversions fcount ++ wR_ r0 r_keys r_days r_values cI rkeys rdays rvalues rcount ++ wO_ o0 cJ ov) sz [.ref d0, .int a2, .int a3, .ref o0]) (Qi_ (dC, dI) (ty_ cI cZ cC cJ cD) R.1 (wD_ d0 s0 z0 b0 q0 t0 dhasSaved dkeptError dmoved ++ wS_ s0 v0 f0 r0 ++ wV_ v0 v_keys v_firsts v_ends v_values v_inferred v_gone cI cZ vkeys vfirsts vends vvalues vinferred vgone vmade ++ wF_ f0 f_keys f_days f_amounts f_versions cI fkeys fdays famounts fversions fcount ++ wR_ r0 r_keys r_days r_values cI rkeys rdays rvalues rcount ++ wO_ o0 cJ R.2) (va_A (wD_ d0 s0 z0 b0 q0 t0 dhasSaved dkeptError dmoved ++ wS_ s0 v0 f0 r0 ++ wV_ v0 v_keys v_firsts v_ends v_values v_inferred v_gone cI cZ vkeys vfirsts vends vvalues vinferred vgone vmade ++ wF_ f0 f_keys f_days f_amounts f_versions cI fkeys fdays famounts fversions fcount ++ wR_ r0 r_keys r_days r_values cI rkeys rdays rvalues rcount ++ wO_ o0 cJ ov) sz)) 3 18 (va_A (wD_ d0 s0 z0 b0 q0 t0 dhasSaved dkeptError dmoved ++ wS_ s0 v0 f0 r0 ++ wV_ v0 v_keys v_firsts v_ends v_values v_inferred v_gone cI cZ vkeys vfirsts vends vvalues vinferred vgone vmade ++ wF_ f0 f_keys f_days f_amounts f_versions cI fkeys fdays famounts fversions fcount ++ wR_ r0 r_keys r_days r_values cI rkeys rdays rvalues rcount ++ wO_ o0 cJ ov) sz) := by
  refine metw_ (cc := cL_validOn) (maxL := 5) (ret := (some .int)) (hh := [(0, 10, 13, 13), (0, 10, 17, 15), (0, 10, 21, 26)]) (Qcf := fun A => Qi_ (dC, dI) (ty_ cI cZ cC cJ cD) R.1 (wD_ d0 s0 z0 b0 q0 t0 dhasSaved dkeptError dmoved ++ wS_ s0 v0 f0 r0 ++ wV_ v0 v_keys v_firsts v_ends v_values v_inferred v_gone cI cZ vkeys vfirsts vends vvalues vinferred vgone vmade ++ wF_ f0 f_keys f_days f_amounts f_versions cI fkeys fdays famounts fversions fcount ++ wR_ r0 r_keys r_days r_values cI rkeys rdays rvalues rcount ++ wO_ o0 cJ R.2) A) (by decide) rfl (Nat.le_of_ble_eq_true rfl) ?_
  intro p e s m args below meth c A ls hx hb hr hts hown hlocks hml htab hA hU hN hC hP hK hD hl
  have hown : s.vm.findClass RL = some m.cls := hown
  have hl : lv_has ls 5 [(0, .ref d0), (1, .int a2), (2, .int a3), (3, .ref o0)] := hl
  have hS : va_S A s.heap s.heap [] := va_S.rf
  unfold f_L_validOn at hf
  dsimp only at hf
  refine lv_aload_n hx hb dL_validOn_0 rfl (lv_at hl 3 rfl) ?_
  refine lv_iconst (v := 0) hx hb dL_validOn_1 (by decide) ?_
  refine lv_aload_n hx hb dL_validOn_2 rfl (lv_at hl 0 rfl) ?_
  refine lv_iload_n hx hb dL_validOn_3 rfl (lv_at hl 1 rfl) ?_
  refine lv_iload_n hx hb dL_validOn_4 rfl (lv_at hl 2 rfl) ?_
  obtain ⟨R3, g4, hf⟩ := bd_B hf
  obtain ⟨x1, rfl⟩ : ∃ z, z = R3 := ⟨_, rfl⟩
  have hPc := hP.sub (ws' := wD_ d0 s0 z0 b0 q0 t0 dhasSaved dkeptError dmoved ++ wS_ s0 v0 f0 r0 ++ wV_ v0 v_keys v_firsts v_ends v_values v_inferred v_gone cI cZ vkeys vfirsts vends vvalues vinferred vgone vmade ++ wF_ f0 f_keys f_days f_amounts f_versions cI fkeys fdays famounts fversions fcount ++ wR_ r0 r_keys r_days r_values cI rkeys rdays rvalues rcount) [0, 1, 2, 3, 4, 5, 6, 7, 8, 9, 10, 11, 12, 13, 14, 15, 16, 17] rfl
  have hDc := hD.sub (ws' := wD_ d0 s0 z0 b0 q0 t0 dhasSaved dkeptError dmoved ++ wS_ s0 v0 f0 r0 ++ wV_ v0 v_keys v_firsts v_ends v_values v_inferred v_gone cI cZ vkeys vfirsts vends vvalues vinferred vgone vmade ++ wF_ f0 f_keys f_days f_amounts f_versions cI fkeys fdays famounts fversions fcount ++ wR_ r0 r_keys r_days r_values cI rkeys rdays rvalues rcount) [0, 1, 2, 3, 4, 5, 6, 7, 8, 9, 10, 11, 12, 13, 14, 15, 16, 17] (by decide) rfl
  have hFc := va_free (wc := wD_ d0 s0 z0 b0 q0 t0 dhasSaved dkeptError dmoved ++ wS_ s0 v0 f0 r0 ++ wV_ v0 v_keys v_firsts v_ends v_values v_inferred v_gone cI cZ vkeys vfirsts vends vvalues vinferred vgone vmade ++ wF_ f0 f_keys f_days f_amounts f_versions cI fkeys fdays famounts fversions fcount ++ wR_ r0 r_keys r_days r_values cI rkeys rdays rvalues rcount) hD hS hA [0, 1, 2, 3, 4, 5, 6, 7, 8, 9, 10, 11, 12, 13, 14, 15, 16, 17] rfl
  cases x1 with
  | error E9 =>
    by_cases c10 : E9 = "java/lang/IndexOutOfBoundsException"
    · have hf := ite_T c10 hf
      subst c10
      refine vx_calli (vx_runV (As := [.int a2, .int a3]) (rest := [.int 0, .ref o0]) ⟨hx, hb, hml, hown, hts⟩ (c_X5_validOn l dC dI cI cZ cC cJ cD hst d0 s0 z0 b0 q0 t0 v0 f0 r0 v_keys v_firsts v_ends v_values v_inferred v_gone f_keys f_days f_amounts f_versions r_keys r_days r_values s.heap.size dhasSaved dkeptError dmoved vkeys vfirsts vends vvalues vinferred vgone vmade fkeys fdays famounts fversions fcount rkeys rdays rvalues rcount a2 a3 (Except.error "java/lang/IndexOutOfBoundsException") g4) (cwV 2 hts gL_validOn_X5_validOn rfl rfl rfl hs_X5_validOn ⟨Nat.le_of_ble_eq_true rfl, Nat.le_of_ble_eq_true rfl⟩) (preVy_ (ci := 7) (q0 := 0) hPc hK hDc rfl rfl rfl rfl hS hU hN hFc hC.1) rfl rfl hl.1 rfl (lv_room (Nat.le_of_ble_eq_true rfl)) dL_validOn_5 ⟨Nat.le_of_ble_eq_true rfl, Nat.le_of_ble_eq_true rfl⟩) hS (fun q _ h => hFc q h) hFc (fun q _ h => hFc q h) (fun E ce q11 u t H7 locs ht hvm hp hB hz1 hk1 hS hce hcv hcl => ?_) (fun z8 u t H7 locs ht hvm hw hB hz1 hk1 hS => ?_)
      · obtain ⟨hE, hB⟩ := hB
        cases hE
        obtain ⟨hP, hD⟩ := aft_ (Wr := wO_ o0 cJ ov) (Wc' := wD_ d0 s0 z0 b0 q0 t0 dhasSaved dkeptError dmoved ++ wS_ s0 v0 f0 r0 ++ wV_ v0 v_keys v_firsts v_ends v_values v_inferred v_gone cI cZ vkeys vfirsts vends vvalues vinferred vgone vmade ++ wF_ f0 f_keys f_days f_amounts f_versions cI fkeys fdays famounts fversions fcount ++ wR_ r0 r_keys r_days r_values cI rkeys rdays rvalues rcount) (W2 := wD_ d0 s0 z0 b0 q0 t0 dhasSaved dkeptError dmoved ++ wS_ s0 v0 f0 r0 ++ wV_ v0 v_keys v_firsts v_ends v_values v_inferred v_gone cI cZ vkeys vfirsts vends vvalues vinferred vgone vmade ++ wF_ f0 f_keys f_days f_amounts f_versions cI fkeys fdays famounts fversions fcount ++ wR_ r0 r_keys r_days r_values cI rkeys rdays rvalues rcount ++ wO_ o0 cJ ov) hP hD [0, 1, 2, 3, 4, 5, 6, 7, 8, 9, 10, 11, 12, 13, 14, 15, 16, 17] [18] [1, 2, 3, 4, 5, 6, 7, 8, 9, 10, 11, 12, 13, 14, 15, 16, 17, 18, 0] rfl rfl (by decide) (by decide) (by decide) hk1 hFc hB ht rfl
        refine vx_catch (name := "java/lang/IndexOutOfBoundsException") hown [] ⟨0, 10, 13, 13⟩ [⟨0, 10, 17, 15⟩, ⟨0, 10, 21, 26⟩] (htab.trans rfl) (fun z hz => nomatch hz) (by decide +kernel) (by decide) (hts _ (List.mem_of_getElem? (i := 1) rfl)) ((hC.1.1 "java/lang/IndexOutOfBoundsException" (by decide +kernel)).use rfl) hce hcv hcl ?_
        refine lv_astore (lv' := [(4, .ref q11), (0, .ref d0), (1, .int a2), (2, .int a3), (3, .ref o0)]) hx hb dL_validOn_13 hl (by decide) rfl (fun ls hl => ?_)
        refine lv_iconst (v := 1) hx hb dL_validOn_15 (by decide) ?_
        have hR := Option.some.inj hf
        subst hR
        refine W.widen (k := 3) (n := 18) (Nat.le_of_ble_eq_true rfl) (Nat.le_of_ble_eq_true rfl) ?_
        exact W.iret (v := (1 : Int32)) hx hb hr (fun t ht hW => ⟨⟨(1 : Int32), (), rfl, rfl, by rw [ht]; exact hP, va_K.moved hW.alike hK, hD⟩, hS.F ht⟩) hS.2.2 dL_validOn_16
      · exact absurd hw (fun h => nomatch h)
    · have hf := ite_F c10 hf
      by_cases c12 : E9 = "java/lang/IllegalArgumentException"
      · have hf := ite_T c12 hf
        subst c12
        refine vx_calli (vx_runV (As := [.int a2, .int a3]) (rest := [.int 0, .ref o0]) ⟨hx, hb, hml, hown, hts⟩ (c_X5_validOn l dC dI cI cZ cC cJ cD hst d0 s0 z0 b0 q0 t0 v0 f0 r0 v_keys v_firsts v_ends v_values v_inferred v_gone f_keys f_days f_amounts f_versions r_keys r_days r_values s.heap.size dhasSaved dkeptError dmoved vkeys vfirsts vends vvalues vinferred vgone vmade fkeys fdays famounts fversions fcount rkeys rdays rvalues rcount a2 a3 (Except.error "java/lang/IllegalArgumentException") g4) (cwV 2 hts gL_validOn_X5_validOn rfl rfl rfl hs_X5_validOn ⟨Nat.le_of_ble_eq_true rfl, Nat.le_of_ble_eq_true rfl⟩) (preVy_ (ci := 7) (q0 := 0) hPc hK hDc rfl rfl rfl rfl hS hU hN hFc hC.1) rfl rfl hl.1 rfl (lv_room (Nat.le_of_ble_eq_true rfl)) dL_validOn_5 ⟨Nat.le_of_ble_eq_true rfl, Nat.le_of_ble_eq_true rfl⟩) hS (fun q _ h => hFc q h) hFc (fun q _ h => hFc q h) (fun E ce q13 u t H7 locs ht hvm hp hB hz1 hk1 hS hce hcv hcl => ?_) (fun z8 u t H7 locs ht hvm hw hB hz1 hk1 hS => ?_)
        · obtain ⟨hE, hB⟩ := hB
          cases hE
          obtain ⟨hP, hD⟩ := aft_ (Wr := wO_ o0 cJ ov) (Wc' := wD_ d0 s0 z0 b0 q0 t0 dhasSaved dkeptError dmoved ++ wS_ s0 v0 f0 r0 ++ wV_ v0 v_keys v_firsts v_ends v_values v_inferred v_gone cI cZ vkeys vfirsts vends vvalues vinferred vgone vmade ++ wF_ f0 f_keys f_days f_amounts f_versions cI fkeys fdays famounts fversions fcount ++ wR_ r0 r_keys r_days r_values cI rkeys rdays rvalues rcount) (W2 := wD_ d0 s0 z0 b0 q0 t0 dhasSaved dkeptError dmoved ++ wS_ s0 v0 f0 r0 ++ wV_ v0 v_keys v_firsts v_ends v_values v_inferred v_gone cI cZ vkeys vfirsts vends vvalues vinferred vgone vmade ++ wF_ f0 f_keys f_days f_amounts f_versions cI fkeys fdays famounts fversions fcount ++ wR_ r0 r_keys r_days r_values cI rkeys rdays rvalues rcount ++ wO_ o0 cJ ov) hP hD [0, 1, 2, 3, 4, 5, 6, 7, 8, 9, 10, 11, 12, 13, 14, 15, 16, 17] [18] [1, 2, 3, 4, 5, 6, 7, 8, 9, 10, 11, 12, 13, 14, 15, 16, 17, 18, 0] rfl rfl (by decide) (by decide) (by decide) hk1 hFc hB ht rfl
          refine vx_catch (name := "java/lang/IllegalArgumentException") hown [⟨0, 10, 13, 13⟩] ⟨0, 10, 17, 15⟩ [⟨0, 10, 21, 26⟩] (htab.trans rfl) (fun z hz => by (rcases List.mem_cons.mp hz with rfl | hz; exact Or.inr ⟨by decide, "java/lang/IndexOutOfBoundsException", hts _ (List.mem_of_getElem? (i := 1) rfl), hC.2 "java/lang/IllegalArgumentException" (by decide +kernel) "java/lang/IndexOutOfBoundsException" (by decide +kernel) (by decide +kernel)⟩; cases hz)) (by decide +kernel) (by decide) (hts _ (List.mem_of_getElem? (i := 2) rfl)) ((hC.1.1 "java/lang/IllegalArgumentException" (by decide +kernel)).use rfl) hce hcv hcl ?_
          refine lv_astore (lv' := [(4, .ref q13), (0, .ref d0), (1, .int a2), (2, .int a3), (3, .ref o0)]) hx hb dL_validOn_17 hl (by decide) rfl (fun ls hl => ?_)
          refine lv_iconst (v := 2) hx hb dL_validOn_19 (by decide) ?_
          have hR := Option.some.inj hf
          subst hR
          refine W.widen (k := 3) (n := 18) (Nat.le_of_ble_eq_true rfl) (Nat.le_of_ble_eq_true rfl) ?_
          exact W.iret (v := (2 : Int32)) hx hb hr (fun t ht hW => ⟨⟨(2 : Int32), (), rfl, rfl, by rw [ht]; exact hP, va_K.moved hW.alike hK, hD⟩, hS.F ht⟩) hS.2.2 dL_validOn_20
        · exact absurd hw (fun h => nomatch h)
      · have hf := ite_F c12 hf
        by_cases c14 : E9 = "java/util/NoSuchElementException"
        · have hf := ite_T c14 hf
          subst c14
          refine vx_calli (vx_runV (As := [.int a2, .int a3]) (rest := [.int 0, .ref o0]) ⟨hx, hb, hml, hown, hts⟩ (c_X5_validOn l dC dI cI cZ cC cJ cD hst d0 s0 z0 b0 q0 t0 v0 f0 r0 v_keys v_firsts v_ends v_values v_inferred v_gone f_keys f_days f_amounts f_versions r_keys r_days r_values s.heap.size dhasSaved dkeptError dmoved vkeys vfirsts vends vvalues vinferred vgone vmade fkeys fdays famounts fversions fcount rkeys rdays rvalues rcount a2 a3 (Except.error "java/util/NoSuchElementException") g4) (cwV 2 hts gL_validOn_X5_validOn rfl rfl rfl hs_X5_validOn ⟨Nat.le_of_ble_eq_true rfl, Nat.le_of_ble_eq_true rfl⟩) (preVy_ (ci := 7) (q0 := 0) hPc hK hDc rfl rfl rfl rfl hS hU hN hFc hC.1) rfl rfl hl.1 rfl (lv_room (Nat.le_of_ble_eq_true rfl)) dL_validOn_5 ⟨Nat.le_of_ble_eq_true rfl, Nat.le_of_ble_eq_true rfl⟩) hS (fun q _ h => hFc q h) hFc (fun q _ h => hFc q h) (fun E ce q15 u t H7 locs ht hvm hp hB hz1 hk1 hS hce hcv hcl => ?_) (fun z8 u t H7 locs ht hvm hw hB hz1 hk1 hS => ?_)
          · obtain ⟨hE, hB⟩ := hB
            cases hE
            obtain ⟨hP, hD⟩ := aft_ (Wr := wO_ o0 cJ ov) (Wc' := wD_ d0 s0 z0 b0 q0 t0 dhasSaved dkeptError dmoved ++ wS_ s0 v0 f0 r0 ++ wV_ v0 v_keys v_firsts v_ends v_values v_inferred v_gone cI cZ vkeys vfirsts vends vvalues vinferred vgone vmade ++ wF_ f0 f_keys f_days f_amounts f_versions cI fkeys fdays famounts fversions fcount ++ wR_ r0 r_keys r_days r_values cI rkeys rdays rvalues rcount) (W2 := wD_ d0 s0 z0 b0 q0 t0 dhasSaved dkeptError dmoved ++ wS_ s0 v0 f0 r0 ++ wV_ v0 v_keys v_firsts v_ends v_values v_inferred v_gone cI cZ vkeys vfirsts vends vvalues vinferred vgone vmade ++ wF_ f0 f_keys f_days f_amounts f_versions cI fkeys fdays famounts fversions fcount ++ wR_ r0 r_keys r_days r_values cI rkeys rdays rvalues rcount ++ wO_ o0 cJ ov) hP hD [0, 1, 2, 3, 4, 5, 6, 7, 8, 9, 10, 11, 12, 13, 14, 15, 16, 17] [18] [1, 2, 3, 4, 5, 6, 7, 8, 9, 10, 11, 12, 13, 14, 15, 16, 17, 18, 0] rfl rfl (by decide) (by decide) (by decide) hk1 hFc hB ht rfl
            refine vx_catch (name := "java/util/NoSuchElementException") hown [⟨0, 10, 13, 13⟩, ⟨0, 10, 17, 15⟩] ⟨0, 10, 21, 26⟩ [] (htab.trans rfl) (fun z hz => by (rcases List.mem_cons.mp hz with rfl | hz; exact Or.inr ⟨by decide, "java/lang/IndexOutOfBoundsException", hts _ (List.mem_of_getElem? (i := 1) rfl), hC.2 "java/util/NoSuchElementException" (by decide +kernel) "java/lang/IndexOutOfBoundsException" (by decide +kernel) (by decide +kernel)⟩; rcases List.mem_cons.mp hz with rfl | hz; exact Or.inr ⟨by decide, "java/lang/IllegalArgumentException", hts _ (List.mem_of_getElem? (i := 2) rfl), hC.2 "java/util/NoSuchElementException" (by decide +kernel) "java/lang/IllegalArgumentException" (by decide +kernel) (by decide +kernel)⟩; cases hz)) (by decide +kernel) (by decide) (hts _ (List.mem_of_getElem? (i := 3) rfl)) ((hC.1.1 "java/util/NoSuchElementException" (by decide +kernel)).use rfl) hce hcv hcl ?_
            refine lv_astore (lv' := [(4, .ref q15), (0, .ref d0), (1, .int a2), (2, .int a3), (3, .ref o0)]) hx hb dL_validOn_21 hl (by decide) rfl (fun ls hl => ?_)
            refine lv_iconst (v := 3) hx hb dL_validOn_23 (by decide) ?_
            have hR := Option.some.inj hf
            subst hR
            refine W.widen (k := 3) (n := 18) (Nat.le_of_ble_eq_true rfl) (Nat.le_of_ble_eq_true rfl) ?_
            exact W.iret (v := (3 : Int32)) hx hb hr (fun t ht hW => ⟨⟨(3 : Int32), (), rfl, rfl, by rw [ht]; exact hP, va_K.moved hW.alike hK, hD⟩, hS.F ht⟩) hS.2.2 dL_validOn_24
          · exact absurd hw (fun h => nomatch h)
        · have hf := ite_F c14 hf
          exact absurd hf (fun h => nomatch h)
  | ok r2 =>
    refine vx_calli (vx_runV (As := [.int a2, .int a3]) (rest := [.int 0, .ref o0]) ⟨hx, hb, hml, hown, hts⟩ (c_X5_validOn l dC dI cI cZ cC cJ cD hst d0 s0 z0 b0 q0 t0 v0 f0 r0 v_keys v_firsts v_ends v_values v_inferred v_gone f_keys f_days f_amounts f_versions r_keys r_days r_values s.heap.size dhasSaved dkeptError dmoved vkeys vfirsts vends vvalues vinferred vgone vmade fkeys fdays famounts fversions fcount rkeys rdays rvalues rcount a2 a3 (Except.ok r2) g4) (cwV 2 hts gL_validOn_X5_validOn rfl rfl rfl hs_X5_validOn ⟨Nat.le_of_ble_eq_true rfl, Nat.le_of_ble_eq_true rfl⟩) (preVy_ (ci := 7) (q0 := 0) hPc hK hDc rfl rfl rfl rfl hS hU hN hFc hC.1) rfl rfl hl.1 rfl (lv_room (Nat.le_of_ble_eq_true rfl)) dL_validOn_5 ⟨Nat.le_of_ble_eq_true rfl, Nat.le_of_ble_eq_true rfl⟩) hS (fun q _ h => hFc q h) hFc (fun q _ h => hFc q h) (fun E ce q9 u t H7 locs ht hvm hp hB hz1 hk1 hS hce hcv hcl => ?_) (fun z8 u t H7 locs ht hvm hw hB hz1 hk1 hS => ?_)
    · exact absurd hB.1 (fun h => nomatch h)
    · have hw : r2 = z8 := Except.ok.inj hw
      subst hw
      obtain ⟨hP, hD⟩ := aft_ (Wr := wO_ o0 cJ ov) (Wc' := wD_ d0 s0 z0 b0 q0 t0 dhasSaved dkeptError dmoved ++ wS_ s0 v0 f0 r0 ++ wV_ v0 v_keys v_firsts v_ends v_values v_inferred v_gone cI cZ vkeys vfirsts vends vvalues vinferred vgone vmade ++ wF_ f0 f_keys f_days f_amounts f_versions cI fkeys fdays famounts fversions fcount ++ wR_ r0 r_keys r_days r_values cI rkeys rdays rvalues rcount) (W2 := wD_ d0 s0 z0 b0 q0 t0 dhasSaved dkeptError dmoved ++ wS_ s0 v0 f0 r0 ++ wV_ v0 v_keys v_firsts v_ends v_values v_inferred v_gone cI cZ vkeys vfirsts vends vvalues vinferred vgone vmade ++ wF_ f0 f_keys f_days f_amounts f_versions cI fkeys fdays famounts fversions fcount ++ wR_ r0 r_keys r_days r_values cI rkeys rdays rvalues rcount ++ wO_ o0 cJ ov) hP hD [0, 1, 2, 3, 4, 5, 6, 7, 8, 9, 10, 11, 12, 13, 14, 15, 16, 17] [18] [1, 2, 3, 4, 5, 6, 7, 8, 9, 10, 11, 12, 13, 14, 15, 16, 17, 18, 0] rfl rfl (by decide) (by decide) (by decide) hk1 hFc hB ht rfl
      refine lv_i2l hx hb dL_validOn_8 rfl ?_
      obtain ⟨h16, hf⟩ := gd_T hf
      refine va_last hx hb hK hP hD hS 18 3 rfl rfl h16 dL_validOn_9 (fun H17 locs hP hD hS => ?_)
      have hP : va_P (dC, dI) vwCl (wD_ d0 s0 z0 b0 q0 t0 dhasSaved dkeptError dmoved ++ wS_ s0 v0 f0 r0 ++ wV_ v0 v_keys v_firsts v_ends v_values v_inferred v_gone cI cZ vkeys vfirsts vends vvalues vinferred vgone vmade ++ wF_ f0 f_keys f_days f_amounts f_versions cI fkeys fdays famounts fversions fcount ++ wR_ r0 r_keys r_days r_values cI rkeys rdays rvalues rcount ++ wO_ o0 cJ (vp_updL ov ((0 : Int32).toNatClampNeg) r2.toInt64)) H17 := hP
      have hD : va_D A (wD_ d0 s0 z0 b0 q0 t0 dhasSaved dkeptError dmoved ++ wS_ s0 v0 f0 r0 ++ wV_ v0 v_keys v_firsts v_ends v_values v_inferred v_gone cI cZ vkeys vfirsts vends vvalues vinferred vgone vmade ++ wF_ f0 f_keys f_days f_amounts f_versions cI fkeys fdays famounts fversions fcount ++ wR_ r0 r_keys r_days r_values cI rkeys rdays rvalues rcount ++ wO_ o0 cJ (vp_updL ov ((0 : Int32).toNatClampNeg) r2.toInt64)) := hD
      obtain ⟨u18, e19, hf⟩ := nm_T hf
      rw [← e19] at hP hD
      refine lv_goto (tgt := 25) hx hb dL_validOn_10 (by decide) ?_
      refine lv_iconst (v := 0) hx hb dL_validOn_25 (by decide) ?_
      have hR := Option.some.inj hf
      subst hR
      refine W.widen (k := 3) (n := 18) (Nat.le_of_ble_eq_true rfl) (Nat.le_of_ble_eq_true rfl) ?_
      exact W.iret (v := (0 : Int32)) hx hb hr (fun t ht hW => ⟨⟨(0 : Int32), (), rfl, rfl, by rw [ht]; exact hP, va_K.moved hW.alike hK, hD⟩, hS.F ht⟩) hS.2.2 dL_validOn_26
theorem hs_L_validOn : yL_validOn.cls ≠ "java/lang/invoke/MethodHandle" ∧ yL_validOn.cls ≠ "java/lang/invoke/VarHandle" ∧ (parseMethodDescriptor yL_validOn.desc).map (fun d => d.parameters.length) = some 4 := by decide +kernel
def f_L_nextAfter (a2 : Int32) (a3 : Int32) (D_ : tD_) (S_ : tS_) (V_ : tV_) (F_ : tF_) (R_ : tR_) (ov : tO_) : Option (Int32 × tO_) :=
match D_ with
| (dhasSaved, dkeptError, dmoved) =>
match V_ with
| (vkeys, vfirsts, vends, vvalues, vinferred, vgone, vmade) =>
match F_ with
| (fkeys, fdays, famounts, fversions, fcount) =>
match R_ with
| (rkeys, rdays, rvalues, rcount) =>
bd_ (f_X5_nextAfter a2 a3 (dhasSaved, dkeptError, dmoved) () (vkeys, vfirsts, vends, vvalues, vinferred, vgone, vmade) (fkeys, fdays, famounts, fversions, fcount) (rkeys, rdays, rvalues, rcount)) (fun x1 =>
match x1 with
| Except.error E9 => (if E9 = "java/lang/IndexOutOfBoundsException" then some ((1 : Int32), ov) else (if E9 = "java/lang/IllegalArgumentException" then some ((2 : Int32), ov) else (if E9 = "java/util/NoSuchElementException" then some ((3 : Int32), ov) else none)))
| Except.ok r2 =>
gd_ (0 : Int32) 1 (nm_ (vp_updL ov ((0 : Int32).toNatClampNeg) r2.toInt64) (fun u18 =>
some ((0 : Int32), u18))))
abbrev rm_L_nextAfter : Room := { frames := 8, cells := 3, slots := 18, locals := 131 }
set_option maxHeartbeats 4000000 in
set_option maxRecDepth 100000 in
theorem c_L_nextAfter (l : Launch) (dC : Nat → ClassId) (dI : Nat → Nat → Nat) (cI cZ cC cJ cD : ClassId) (hst : l.stackTraces = false) (d0 s0 z0 b0 q0 t0 v0 f0 r0 v_keys v_firsts v_ends v_values v_inferred v_gone f_keys f_days f_amounts f_versions r_keys r_days r_values o0 : Nat) (sz : Nat) (dhasSaved : Int32) (dkeptError : Int32) (dmoved : Int32) (vkeys : Nat → Int32) (vfirsts : Nat → Int32) (vends : Nat → Int32) (vvalues : Nat → Int32) (vinferred : Nat → Int32) (vgone : Nat → Int32) (vmade : Int32) (fkeys : Nat → Int32) (fdays : Nat → Int32) (famounts : Nat → Int32) (fversions : Nat → Int32) (fcount : Int32) (rkeys : Nat → Int32) (rdays : Nat → Int32) (rvalues : Nat → Int32) (rcount : Int32) (ov : Nat → Int64) (a2 : Int32) (a3 : Int32) (R : Int32 × tO_) (hf : f_L_nextAfter a2 a3 (dhasSaved, dkeptError, dmoved) () (vkeys, vfirsts, vends, vvalues, vinferred, vgone, vmade) (fkeys, fdays, famounts, fversions, fcount) (rkeys, rdays, rvalues, rcount) ov = some R) : Met l yL_nextAfter wsL_nextAfter rm_L_nextAfter (PL_ (dC, dI) (ty_ cI cZ cC cJ cD) (wD_ d0 s0 z0 b0 q0 t0 dhasSaved dkeptError dmoved ++ wS_ s0 v0 f0 r0 ++ wV_ v0 v_keys v_firsts v_ends v_values v_inferred v_gone cI cZ vkeys vfirsts vends vvalues vinferred vgone vmade ++ wF_ f0 f_keys f_days f_amounts f_versions cI fkeys fdays famounts fversions fcount ++ wR_ r0 r_keys r_days r_values cI rkeys rdays rvalues rcount ++ wO_ o0 cJ ov) sz [.ref d0, .int a2, .int a3, .ref o0]) (Qi_ (dC, dI) (ty_ cI cZ cC cJ cD) R.1 (wD_ d0 s0 z0 b0 q0 t0 dhasSaved dkeptError dmoved ++ wS_ s0 v0 f0 r0 ++ wV_ v0 v_keys v_firsts v_ends v_values v_inferred v_gone cI cZ vkeys vfirsts vends vvalues vinferred vgone vmade ++ wF_ f0 f_keys f_days f_amounts f_versions cI fkeys fdays famounts fversions fcount ++ wR_ r0 r_keys r_days r_values cI rkeys rdays rvalues rcount ++ wO_ o0 cJ R.2) (va_A (wD_ d0 s0 z0 b0 q0 t0 dhasSaved dkeptError dmoved ++ wS_ s0 v0 f0 r0 ++ wV_ v0 v_keys v_firsts v_ends v_values v_inferred v_gone cI cZ vkeys vfirsts vends vvalues vinferred vgone vmade ++ wF_ f0 f_keys f_days f_amounts f_versions cI fkeys fdays famounts fversions fcount ++ wR_ r0 r_keys r_days r_values cI rkeys rdays rvalues rcount ++ wO_ o0 cJ ov) sz)) 3 18 (va_A (wD_ d0 s0 z0 b0 q0 t0 dhasSaved dkeptError dmoved ++ wS_ s0 v0 f0 r0 ++ wV_ v0 v_keys v_firsts v_ends v_values v_inferred v_gone cI cZ vkeys vfirsts vends vvalues vinferred vgone vmade ++ wF_ f0 f_keys f_days f_amounts f_versions cI fkeys fdays famounts fversions fcount ++ wR_ r0 r_keys r_days r_values cI rkeys rdays rvalues rcount ++ wO_ o0 cJ ov) sz) := by
  refine metw_ (cc := cL_nextAfter) (maxL := 5) (ret := (some .int)) (hh := [(0, 10, 13, 13), (0, 10, 17, 15), (0, 10, 21, 26)]) (Qcf := fun A => Qi_ (dC, dI) (ty_ cI cZ cC cJ cD) R.1 (wD_ d0 s0 z0 b0 q0 t0 dhasSaved dkeptError dmoved ++ wS_ s0 v0 f0 r0 ++ wV_ v0 v_keys v_firsts v_ends v_values v_inferred v_gone cI cZ vkeys vfirsts vends vvalues vinferred vgone vmade ++ wF_ f0 f_keys f_days f_amounts f_versions cI fkeys fdays famounts fversions fcount ++ wR_ r0 r_keys r_days r_values cI rkeys rdays rvalues rcount ++ wO_ o0 cJ R.2) A) (by decide) rfl (Nat.le_of_ble_eq_true rfl) ?_
  intro p e s m args below meth c A ls hx hb hr hts hown hlocks hml htab hA hU hN hC hP hK hD hl
  have hown : s.vm.findClass RL = some m.cls := hown
  have hl : lv_has ls 5 [(0, .ref d0), (1, .int a2), (2, .int a3), (3, .ref o0)] := hl
  have hS : va_S A s.heap s.heap [] := va_S.rf
  unfold f_L_nextAfter at hf
  dsimp only at hf
  refine lv_aload_n hx hb dL_nextAfter_0 rfl (lv_at hl 3 rfl) ?_
  refine lv_iconst (v := 0) hx hb dL_nextAfter_1 (by decide) ?_
  refine lv_aload_n hx hb dL_nextAfter_2 rfl (lv_at hl 0 rfl) ?_
  refine lv_iload_n hx hb dL_nextAfter_3 rfl (lv_at hl 1 rfl) ?_
  refine lv_iload_n hx hb dL_nextAfter_4 rfl (lv_at hl 2 rfl) ?_
  obtain ⟨R3, g4, hf⟩ := bd_B hf
  obtain ⟨x1, rfl⟩ : ∃ z, z = R3 := ⟨_, rfl⟩
  have hPc := hP.sub (ws' := wD_ d0 s0 z0 b0 q0 t0 dhasSaved dkeptError dmoved ++ wS_ s0 v0 f0 r0 ++ wV_ v0 v_keys v_firsts v_ends v_values v_inferred v_gone cI cZ vkeys vfirsts vends vvalues vinferred vgone vmade ++ wF_ f0 f_keys f_days f_amounts f_versions cI fkeys fdays famounts fversions fcount ++ wR_ r0 r_keys r_days r_values cI rkeys rdays rvalues rcount) [0, 1, 2, 3, 4, 5, 6, 7, 8, 9, 10, 11, 12, 13, 14, 15, 16, 17] rfl
  have hDc := hD.sub (ws' := wD_ d0 s0 z0 b0 q0 t0 dhasSaved dkeptError dmoved ++ wS_ s0 v0 f0 r0 ++ wV_ v0 v_keys v_firsts v_ends v_values v_inferred v_gone cI cZ vkeys vfirsts vends vvalues vinferred vgone vmade ++ wF_ f0 f_keys f_days f_amounts f_versions cI fkeys fdays famounts fversions fcount ++ wR_ r0 r_keys r_days r_values cI rkeys rdays rvalues rcount) [0, 1, 2, 3, 4, 5, 6, 7, 8, 9, 10, 11, 12, 13, 14, 15, 16, 17] (by decide) rfl
  have hFc := va_free (wc := wD_ d0 s0 z0 b0 q0 t0 dhasSaved dkeptError dmoved ++ wS_ s0 v0 f0 r0 ++ wV_ v0 v_keys v_firsts v_ends v_values v_inferred v_gone cI cZ vkeys vfirsts vends vvalues vinferred vgone vmade ++ wF_ f0 f_keys f_days f_amounts f_versions cI fkeys fdays famounts fversions fcount ++ wR_ r0 r_keys r_days r_values cI rkeys rdays rvalues rcount) hD hS hA [0, 1, 2, 3, 4, 5, 6, 7, 8, 9, 10, 11, 12, 13, 14, 15, 16, 17] rfl
  cases x1 with
  | error E9 =>
    by_cases c10 : E9 = "java/lang/IndexOutOfBoundsException"
    · have hf := ite_T c10 hf
      subst c10
      refine vx_calli (vx_runV (As := [.int a2, .int a3]) (rest := [.int 0, .ref o0]) ⟨hx, hb, hml, hown, hts⟩ (c_X5_nextAfter l dC dI cI cZ cC cJ cD hst d0 s0 z0 b0 q0 t0 v0 f0 r0 v_keys v_firsts v_ends v_values v_inferred v_gone f_keys f_days f_amounts f_versions r_keys r_days r_values s.heap.size dhasSaved dkeptError dmoved vkeys vfirsts vends vvalues vinferred vgone vmade fkeys fdays famounts fversions fcount rkeys rdays rvalues rcount a2 a3 (Except.error "java/lang/IndexOutOfBoundsException") g4) (cwV 2 hts gL_nextAfter_X5_nextAfter rfl rfl rfl hs_X5_nextAfter ⟨Nat.le_of_ble_eq_true rfl, Nat.le_of_ble_eq_true rfl⟩) (preVy_ (ci := 7) (q0 := 0) hPc hK hDc rfl rfl rfl rfl hS hU hN hFc hC.1) rfl rfl hl.1 rfl (lv_room (Nat.le_of_ble_eq_true rfl)) dL_nextAfter_5 ⟨Nat.le_of_ble_eq_true rfl, Nat.le_of_ble_eq_true rfl⟩) hS (fun q _ h => hFc q h) hFc (fun q _ h => hFc q h) (fun E ce q11 u t H7 locs ht hvm hp hB hz1 hk1 hS hce hcv hcl => ?_) (fun z8 u t H7 locs ht hvm hw hB hz1 hk1 hS => ?_)
      · obtain ⟨hE, hB⟩ := hB
        cases hE
        obtain ⟨hP, hD⟩ := aft_ (Wr := wO_ o0 cJ ov) (Wc' := wD_ d0 s0 z0 b0 q0 t0 dhasSaved dkeptError dmoved ++ wS_ s0 v0 f0 r0 ++ wV_ v0 v_keys v_firsts v_ends v_values v_inferred v_gone cI cZ vkeys vfirsts vends vvalues vinferred vgone vmade ++ wF_ f0 f_keys f_days f_amounts f_versions cI fkeys fdays famounts fversions fcount ++ wR_ r0 r_keys r_days r_values cI rkeys rdays rvalues rcount) (W2 := wD_ d0 s0 z0 b0 q0 t0 dhasSaved dkeptError dmoved ++ wS_ s0 v0 f0 r0 ++ wV_ v0 v_keys v_firsts v_ends v_values v_inferred v_gone cI cZ vkeys vfirsts vends vvalues vinferred vgone vmade ++ wF_ f0 f_keys f_days f_amounts f_versions cI fkeys fdays famounts fversions fcount ++ wR_ r0 r_keys r_days r_values cI rkeys rdays rvalues rcount ++ wO_ o0 cJ ov) hP hD [0, 1, 2, 3, 4, 5, 6, 7, 8, 9, 10, 11, 12, 13, 14, 15, 16, 17] [18] [1, 2, 3, 4, 5, 6, 7, 8, 9, 10, 11, 12, 13, 14, 15, 16, 17, 18, 0] rfl rfl (by decide) (by decide) (by decide) hk1 hFc hB ht rfl
        refine vx_catch (name := "java/lang/IndexOutOfBoundsException") hown [] ⟨0, 10, 13, 13⟩ [⟨0, 10, 17, 15⟩, ⟨0, 10, 21, 26⟩] (htab.trans rfl) (fun z hz => nomatch hz) (by decide +kernel) (by decide) (hts _ (List.mem_of_getElem? (i := 1) rfl)) ((hC.1.1 "java/lang/IndexOutOfBoundsException" (by decide +kernel)).use rfl) hce hcv hcl ?_
        refine lv_astore (lv' := [(4, .ref q11), (0, .ref d0), (1, .int a2), (2, .int a3), (3, .ref o0)]) hx hb dL_nextAfter_13 hl (by decide) rfl (fun ls hl => ?_)
        refine lv_iconst (v := 1) hx hb dL_nextAfter_15 (by decide) ?_
        have hR := Option.some.inj hf
        subst hR
        refine W.widen (k := 3) (n := 18) (Nat.le_of_ble_eq_true rfl) (Nat.le_of_ble_eq_true rfl) ?_
        exact W.iret (v := (1 : Int32)) hx hb hr (fun t ht hW => ⟨⟨(1 : Int32), (), rfl, rfl, by rw [ht]; exact hP, va_K.moved hW.alike hK, hD⟩, hS.F ht⟩) hS.2.2 dL_nextAfter_16
      · exact absurd hw (fun h => nomatch h)
    · have hf := ite_F c10 hf
      by_cases c12 : E9 = "java/lang/IllegalArgumentException"
      · have hf := ite_T c12 hf
        subst c12
        refine vx_calli (vx_runV (As := [.int a2, .int a3]) (rest := [.int 0, .ref o0]) ⟨hx, hb, hml, hown, hts⟩ (c_X5_nextAfter l dC dI cI cZ cC cJ cD hst d0 s0 z0 b0 q0 t0 v0 f0 r0 v_keys v_firsts v_ends v_values v_inferred v_gone f_keys f_days f_amounts f_versions r_keys r_days r_values s.heap.size dhasSaved dkeptError dmoved vkeys vfirsts vends vvalues vinferred vgone vmade fkeys fdays famounts fversions fcount rkeys rdays rvalues rcount a2 a3 (Except.error "java/lang/IllegalArgumentException") g4) (cwV 2 hts gL_nextAfter_X5_nextAfter rfl rfl rfl hs_X5_nextAfter ⟨Nat.le_of_ble_eq_true rfl, Nat.le_of_ble_eq_true rfl⟩) (preVy_ (ci := 7) (q0 := 0) hPc hK hDc rfl rfl rfl rfl hS hU hN hFc hC.1) rfl rfl hl.1 rfl (lv_room (Nat.le_of_ble_eq_true rfl)) dL_nextAfter_5 ⟨Nat.le_of_ble_eq_true rfl, Nat.le_of_ble_eq_true rfl⟩) hS (fun q _ h => hFc q h) hFc (fun q _ h => hFc q h) (fun E ce q13 u t H7 locs ht hvm hp hB hz1 hk1 hS hce hcv hcl => ?_) (fun z8 u t H7 locs ht hvm hw hB hz1 hk1 hS => ?_)
        · obtain ⟨hE, hB⟩ := hB
          cases hE
          obtain ⟨hP, hD⟩ := aft_ (Wr := wO_ o0 cJ ov) (Wc' := wD_ d0 s0 z0 b0 q0 t0 dhasSaved dkeptError dmoved ++ wS_ s0 v0 f0 r0 ++ wV_ v0 v_keys v_firsts v_ends v_values v_inferred v_gone cI cZ vkeys vfirsts vends vvalues vinferred vgone vmade ++ wF_ f0 f_keys f_days f_amounts f_versions cI fkeys fdays famounts fversions fcount ++ wR_ r0 r_keys r_days r_values cI rkeys rdays rvalues rcount) (W2 := wD_ d0 s0 z0 b0 q0 t0 dhasSaved dkeptError dmoved ++ wS_ s0 v0 f0 r0 ++ wV_ v0 v_keys v_firsts v_ends v_values v_inferred v_gone cI cZ vkeys vfirsts vends vvalues vinferred vgone vmade ++ wF_ f0 f_keys f_days f_amounts f_versions cI fkeys fdays famounts fversions fcount ++ wR_ r0 r_keys r_days r_values cI rkeys rdays rvalues rcount ++ wO_ o0 cJ ov) hP hD [0, 1, 2, 3, 4, 5, 6, 7, 8, 9, 10, 11, 12, 13, 14, 15, 16, 17] [18] [1, 2, 3, 4, 5, 6, 7, 8, 9, 10, 11, 12, 13, 14, 15, 16, 17, 18, 0] rfl rfl (by decide) (by decide) (by decide) hk1 hFc hB ht rfl
          refine vx_catch (name := "java/lang/IllegalArgumentException") hown [⟨0, 10, 13, 13⟩] ⟨0, 10, 17, 15⟩ [⟨0, 10, 21, 26⟩] (htab.trans rfl) (fun z hz => by (rcases List.mem_cons.mp hz with rfl | hz; exact Or.inr ⟨by decide, "java/lang/IndexOutOfBoundsException", hts _ (List.mem_of_getElem? (i := 1) rfl), hC.2 "java/lang/IllegalArgumentException" (by decide +kernel) "java/lang/IndexOutOfBoundsException" (by decide +kernel) (by decide +kernel)⟩; cases hz)) (by decide +kernel) (by decide) (hts _ (List.mem_of_getElem? (i := 2) rfl)) ((hC.1.1 "java/lang/IllegalArgumentException" (by decide +kernel)).use rfl) hce hcv hcl ?_
          refine lv_astore (lv' := [(4, .ref q13), (0, .ref d0), (1, .int a2), (2, .int a3), (3, .ref o0)]) hx hb dL_nextAfter_17 hl (by decide) rfl (fun ls hl => ?_)
          refine lv_iconst (v := 2) hx hb dL_nextAfter_19 (by decide) ?_
          have hR := Option.some.inj hf
          subst hR
          refine W.widen (k := 3) (n := 18) (Nat.le_of_ble_eq_true rfl) (Nat.le_of_ble_eq_true rfl) ?_
          exact W.iret (v := (2 : Int32)) hx hb hr (fun t ht hW => ⟨⟨(2 : Int32), (), rfl, rfl, by rw [ht]; exact hP, va_K.moved hW.alike hK, hD⟩, hS.F ht⟩) hS.2.2 dL_nextAfter_20
        · exact absurd hw (fun h => nomatch h)
      · have hf := ite_F c12 hf
        by_cases c14 : E9 = "java/util/NoSuchElementException"
        · have hf := ite_T c14 hf
          subst c14
          refine vx_calli (vx_runV (As := [.int a2, .int a3]) (rest := [.int 0, .ref o0]) ⟨hx, hb, hml, hown, hts⟩ (c_X5_nextAfter l dC dI cI cZ cC cJ cD hst d0 s0 z0 b0 q0 t0 v0 f0 r0 v_keys v_firsts v_ends v_values v_inferred v_gone f_keys f_days f_amounts f_versions r_keys r_days r_values s.heap.size dhasSaved dkeptError dmoved vkeys vfirsts vends vvalues vinferred vgone vmade fkeys fdays famounts fversions fcount rkeys rdays rvalues rcount a2 a3 (Except.error "java/util/NoSuchElementException") g4) (cwV 2 hts gL_nextAfter_X5_nextAfter rfl rfl rfl hs_X5_nextAfter ⟨Nat.le_of_ble_eq_true rfl, Nat.le_of_ble_eq_true rfl⟩) (preVy_ (ci := 7) (q0 := 0) hPc hK hDc rfl rfl rfl rfl hS hU hN hFc hC.1) rfl rfl hl.1 rfl (lv_room (Nat.le_of_ble_eq_true rfl)) dL_nextAfter_5 ⟨Nat.le_of_ble_eq_true rfl, Nat.le_of_ble_eq_true rfl⟩) hS (fun q _ h => hFc q h) hFc (fun q _ h => hFc q h) (fun E ce q15 u t H7 locs ht hvm hp hB hz1 hk1 hS hce hcv hcl => ?_) (fun z8 u t H7 locs ht hvm hw hB hz1 hk1 hS => ?_)
          · obtain ⟨hE, hB⟩ := hB
            cases hE
            obtain ⟨hP, hD⟩ := aft_ (Wr := wO_ o0 cJ ov) (Wc' := wD_ d0 s0 z0 b0 q0 t0 dhasSaved dkeptError dmoved ++ wS_ s0 v0 f0 r0 ++ wV_ v0 v_keys v_firsts v_ends v_values v_inferred v_gone cI cZ vkeys vfirsts vends vvalues vinferred vgone vmade ++ wF_ f0 f_keys f_days f_amounts f_versions cI fkeys fdays famounts fversions fcount ++ wR_ r0 r_keys r_days r_values cI rkeys rdays rvalues rcount) (W2 := wD_ d0 s0 z0 b0 q0 t0 dhasSaved dkeptError dmoved ++ wS_ s0 v0 f0 r0 ++ wV_ v0 v_keys v_firsts v_ends v_values v_inferred v_gone cI cZ vkeys vfirsts vends vvalues vinferred vgone vmade ++ wF_ f0 f_keys f_days f_amounts f_versions cI fkeys fdays famounts fversions fcount ++ wR_ r0 r_keys r_days r_values cI rkeys rdays rvalues rcount ++ wO_ o0 cJ ov) hP hD [0, 1, 2, 3, 4, 5, 6, 7, 8, 9, 10, 11, 12, 13, 14, 15, 16, 17] [18] [1, 2, 3, 4, 5, 6, 7, 8, 9, 10, 11, 12, 13, 14, 15, 16, 17, 18, 0] rfl rfl (by decide) (by decide) (by decide) hk1 hFc hB ht rfl
            refine vx_catch (name := "java/util/NoSuchElementException") hown [⟨0, 10, 13, 13⟩, ⟨0, 10, 17, 15⟩] ⟨0, 10, 21, 26⟩ [] (htab.trans rfl) (fun z hz => by (rcases List.mem_cons.mp hz with rfl | hz; exact Or.inr ⟨by decide, "java/lang/IndexOutOfBoundsException", hts _ (List.mem_of_getElem? (i := 1) rfl), hC.2 "java/util/NoSuchElementException" (by decide +kernel) "java/lang/IndexOutOfBoundsException" (by decide +kernel) (by decide +kernel)⟩; rcases List.mem_cons.mp hz with rfl | hz; exact Or.inr ⟨by decide, "java/lang/IllegalArgumentException", hts _ (List.mem_of_getElem? (i := 2) rfl), hC.2 "java/util/NoSuchElementException" (by decide +kernel) "java/lang/IllegalArgumentException" (by decide +kernel) (by decide +kernel)⟩; cases hz)) (by decide +kernel) (by decide) (hts _ (List.mem_of_getElem? (i := 3) rfl)) ((hC.1.1 "java/util/NoSuchElementException" (by decide +kernel)).use rfl) hce hcv hcl ?_
            refine lv_astore (lv' := [(4, .ref q15), (0, .ref d0), (1, .int a2), (2, .int a3), (3, .ref o0)]) hx hb dL_nextAfter_21 hl (by decide) rfl (fun ls hl => ?_)
            refine lv_iconst (v := 3) hx hb dL_nextAfter_23 (by decide) ?_
            have hR := Option.some.inj hf
            subst hR
            refine W.widen (k := 3) (n := 18) (Nat.le_of_ble_eq_true rfl) (Nat.le_of_ble_eq_true rfl) ?_
            exact W.iret (v := (3 : Int32)) hx hb hr (fun t ht hW => ⟨⟨(3 : Int32), (), rfl, rfl, by rw [ht]; exact hP, va_K.moved hW.alike hK, hD⟩, hS.F ht⟩) hS.2.2 dL_nextAfter_24
          · exact absurd hw (fun h => nomatch h)
        · have hf := ite_F c14 hf
          exact absurd hf (fun h => nomatch h)
  | ok r2 =>
    refine vx_calli (vx_runV (As := [.int a2, .int a3]) (rest := [.int 0, .ref o0]) ⟨hx, hb, hml, hown, hts⟩ (c_X5_nextAfter l dC dI cI cZ cC cJ cD hst d0 s0 z0 b0 q0 t0 v0 f0 r0 v_keys v_firsts v_ends v_values v_inferred v_gone f_keys f_days f_amounts f_versions r_keys r_days r_values s.heap.size dhasSaved dkeptError dmoved vkeys vfirsts vends vvalues vinferred vgone vmade fkeys fdays famounts fversions fcount rkeys rdays rvalues rcount a2 a3 (Except.ok r2) g4) (cwV 2 hts gL_nextAfter_X5_nextAfter rfl rfl rfl hs_X5_nextAfter ⟨Nat.le_of_ble_eq_true rfl, Nat.le_of_ble_eq_true rfl⟩) (preVy_ (ci := 7) (q0 := 0) hPc hK hDc rfl rfl rfl rfl hS hU hN hFc hC.1) rfl rfl hl.1 rfl (lv_room (Nat.le_of_ble_eq_true rfl)) dL_nextAfter_5 ⟨Nat.le_of_ble_eq_true rfl, Nat.le_of_ble_eq_true rfl⟩) hS (fun q _ h => hFc q h) hFc (fun q _ h => hFc q h) (fun E ce q9 u t H7 locs ht hvm hp hB hz1 hk1 hS hce hcv hcl => ?_) (fun z8 u t H7 locs ht hvm hw hB hz1 hk1 hS => ?_)
    · exact absurd hB.1 (fun h => nomatch h)
    · have hw : r2 = z8 := Except.ok.inj hw
      subst hw
      obtain ⟨hP, hD⟩ := aft_ (Wr := wO_ o0 cJ ov) (Wc' := wD_ d0 s0 z0 b0 q0 t0 dhasSaved dkeptError dmoved ++ wS_ s0 v0 f0 r0 ++ wV_ v0 v_keys v_firsts v_ends v_values v_inferred v_gone cI cZ vkeys vfirsts vends vvalues vinferred vgone vmade ++ wF_ f0 f_keys f_days f_amounts f_versions cI fkeys fdays famounts fversions fcount ++ wR_ r0 r_keys r_days r_values cI rkeys rdays rvalues rcount) (W2 := wD_ d0 s0 z0 b0 q0 t0 dhasSaved dkeptError dmoved ++ wS_ s0 v0 f0 r0 ++ wV_ v0 v_keys v_firsts v_ends v_values v_inferred v_gone cI cZ vkeys vfirsts vends vvalues vinferred vgone vmade ++ wF_ f0 f_keys f_days f_amounts f_versions cI fkeys fdays famounts fversions fcount ++ wR_ r0 r_keys r_days r_values cI rkeys rdays rvalues rcount ++ wO_ o0 cJ ov) hP hD [0, 1, 2, 3, 4, 5, 6, 7, 8, 9, 10, 11, 12, 13, 14, 15, 16, 17] [18] [1, 2, 3, 4, 5, 6, 7, 8, 9, 10, 11, 12, 13, 14, 15, 16, 17, 18, 0] rfl rfl (by decide) (by decide) (by decide) hk1 hFc hB ht rfl
      refine lv_i2l hx hb dL_nextAfter_8 rfl ?_
      obtain ⟨h16, hf⟩ := gd_T hf
      refine va_last hx hb hK hP hD hS 18 3 rfl rfl h16 dL_nextAfter_9 (fun H17 locs hP hD hS => ?_)
      have hP : va_P (dC, dI) vwCl (wD_ d0 s0 z0 b0 q0 t0 dhasSaved dkeptError dmoved ++ wS_ s0 v0 f0 r0 ++ wV_ v0 v_keys v_firsts v_ends v_values v_inferred v_gone cI cZ vkeys vfirsts vends vvalues vinferred vgone vmade ++ wF_ f0 f_keys f_days f_amounts f_versions cI fkeys fdays famounts fversions fcount ++ wR_ r0 r_keys r_days r_values cI rkeys rdays rvalues rcount ++ wO_ o0 cJ (vp_updL ov ((0 : Int32).toNatClampNeg) r2.toInt64)) H17 := hP
      have hD : va_D A (wD_ d0 s0 z0 b0 q0 t0 dhasSaved dkeptError dmoved ++ wS_ s0 v0 f0 r0 ++ wV_ v0 v_keys v_firsts v_ends v_values v_inferred v_gone cI cZ vkeys vfirsts vends vvalues vinferred vgone vmade ++ wF_ f0 f_keys f_days f_amounts f_versions cI fkeys fdays famounts fversions fcount ++ wR_ r0 r_keys r_days r_values cI rkeys rdays rvalues rcount ++ wO_ o0 cJ (vp_updL ov ((0 : Int32).toNatClampNeg) r2.toInt64)) := hD
      obtain ⟨u18, e19, hf⟩ := nm_T hf
      rw [← e19] at hP hD
      refine lv_goto (tgt := 25) hx hb dL_nextAfter_10 (by decide) ?_
      refine lv_iconst (v := 0) hx hb dL_nextAfter_25 (by decide) ?_
      have hR := Option.some.inj hf
      subst hR
      refine W.widen (k := 3) (n := 18) (Nat.le_of_ble_eq_true rfl) (Nat.le_of_ble_eq_true rfl) ?_
      exact W.iret (v := (0 : Int32)) hx hb hr (fun t ht hW => ⟨⟨(0 : Int32), (), rfl, rfl, by rw [ht]; exact hP, va_K.moved hW.alike hK, hD⟩, hS.F ht⟩) hS.2.2 dL_nextAfter_26
theorem hs_L_nextAfter : yL_nextAfter.cls ≠ "java/lang/invoke/MethodHandle" ∧ yL_nextAfter.cls ≠ "java/lang/invoke/VarHandle" ∧ (parseMethodDescriptor yL_nextAfter.desc).map (fun d => d.parameters.length) = some 4 := by decide +kernel
