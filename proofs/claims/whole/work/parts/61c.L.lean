def f_L_loadRows (a2 : Int32) (D_ : tD_) (S_ : tS_) (V_ : tV_) (F_ : tF_) (R_ : tR_) (B_ : tV_) (ov : tO_) : Option (Int32 × tD_ × tV_ × tF_ × tR_ × tV_ × tO_) :=
match D_ with
| (dhasSaved, dkeptError, dmoved) =>
match V_ with
| (vkeys, vfirsts, vends, vvalues, vinferred, vgone, vmade) =>
match F_ with
| (fkeys, fdays, famounts, fversions, fcount) =>
match R_ with
| (rkeys, rdays, rvalues, rcount) =>
match B_ with
| (bkeys, bfirsts, bends, bvalues, binferred, bgone, bmade) =>
bd_ (f_X5_loadRows a2 (dhasSaved, dkeptError, dmoved) () (vkeys, vfirsts, vends, vvalues, vinferred, vgone, vmade) (fkeys, fdays, famounts, fversions, fcount) (rkeys, rdays, rvalues, rcount) (bkeys, bfirsts, bends, bvalues, binferred, bgone, bmade)) (fun (x1, (dh3, dk4, dm5), (vk6, vf7, ve8, vv9, vi10, vg11, vm12), (fk13, fd14, fa15, fv16, fc17), (rk18, rd19, rv20, rc21), (bk22, bf23, be24, bv25, bi26, bg27, bm28)) =>
match x1 with
| Except.error E35 => (if E35 = "java/lang/IllegalArgumentException" then some ((1 : Int32), (dh3, dk4, dm5), (vk6, vf7, ve8, vv9, vi10, vg11, vm12), (fk13, fd14, fa15, fv16, fc17), (rk18, rd19, rv20, rc21), (bk22, bf23, be24, bv25, bi26, bg27, bm28), ov) else (if E35 = "java/lang/IllegalStateException" then some ((2 : Int32), (dh3, dk4, dm5), (vk6, vf7, ve8, vv9, vi10, vg11, vm12), (fk13, fd14, fa15, fv16, fc17), (rk18, rd19, rv20, rc21), (bk22, bf23, be24, bv25, bi26, bg27, bm28), ov) else none))
| Except.ok r2 =>
gd_ (0 : Int32) 1 (nm_ (vp_updL ov ((0 : Int32).toNatClampNeg) r2.toInt64) (fun u42 =>
some ((0 : Int32), (dh3, dk4, dm5), (vk6, vf7, ve8, vv9, vi10, vg11, vm12), (fk13, fd14, fa15, fv16, fc17), (rk18, rd19, rv20, rc21), (bk22, bf23, be24, bv25, bi26, bg27, bm28), u42))))
abbrev rm_L_loadRows : Room := { frames := 7, cells := 1, slots := 6, locals := 160 }
set_option maxHeartbeats 4000000 in
set_option maxRecDepth 100000 in
theorem c_L_loadRows (l : Launch) (dC : Nat → ClassId) (dI : Nat → Nat → Nat) (cI cZ cC cJ cD : ClassId) (hst : l.stackTraces = false) (d0 s0 z0 b0 q0 t0 v0 f0 r0 v_keys v_firsts v_ends v_values v_inferred v_gone f_keys f_days f_amounts f_versions r_keys r_days r_values b_keys b_firsts b_ends b_values b_inferred b_gone o0 : Nat) (sz : Nat) (dhasSaved : Int32) (dkeptError : Int32) (dmoved : Int32) (vkeys : Nat → Int32) (vfirsts : Nat → Int32) (vends : Nat → Int32) (vvalues : Nat → Int32) (vinferred : Nat → Int32) (vgone : Nat → Int32) (vmade : Int32) (fkeys : Nat → Int32) (fdays : Nat → Int32) (famounts : Nat → Int32) (fversions : Nat → Int32) (fcount : Int32) (rkeys : Nat → Int32) (rdays : Nat → Int32) (rvalues : Nat → Int32) (rcount : Int32) (bkeys : Nat → Int32) (bfirsts : Nat → Int32) (bends : Nat → Int32) (bvalues : Nat → Int32) (binferred : Nat → Int32) (bgone : Nat → Int32) (bmade : Int32) (ov : Nat → Int64) (a2 : Int32) (R : Int32 × tD_ × tV_ × tF_ × tR_ × tV_ × tO_) (hf : f_L_loadRows a2 (dhasSaved, dkeptError, dmoved) () (vkeys, vfirsts, vends, vvalues, vinferred, vgone, vmade) (fkeys, fdays, famounts, fversions, fcount) (rkeys, rdays, rvalues, rcount) (bkeys, bfirsts, bends, bvalues, binferred, bgone, bmade) ov = some R) : Met l yL_loadRows wsL_loadRows rm_L_loadRows (PL_ (dC, dI) (ty_ cI cZ cC cJ cD) (wD_ d0 s0 z0 b0 q0 t0 dhasSaved dkeptError dmoved ++ wS_ s0 v0 f0 r0 ++ wV_ v0 v_keys v_firsts v_ends v_values v_inferred v_gone cI cZ vkeys vfirsts vends vvalues vinferred vgone vmade ++ wF_ f0 f_keys f_days f_amounts f_versions cI fkeys fdays famounts fversions fcount ++ wR_ r0 r_keys r_days r_values cI rkeys rdays rvalues rcount ++ wV_ b0 b_keys b_firsts b_ends b_values b_inferred b_gone cI cZ bkeys bfirsts bends bvalues binferred bgone bmade ++ wO_ o0 cJ ov) sz [.ref d0, .int a2, .ref o0]) (Qi_ (dC, dI) (ty_ cI cZ cC cJ cD) R.1 (wD_ d0 s0 z0 b0 q0 t0 R.2.1.1 R.2.1.2.1 R.2.1.2.2 ++ wS_ s0 v0 f0 r0 ++ wV_ v0 v_keys v_firsts v_ends v_values v_inferred v_gone cI cZ R.2.2.1.1 R.2.2.1.2.1 R.2.2.1.2.2.1 R.2.2.1.2.2.2.1 R.2.2.1.2.2.2.2.1 R.2.2.1.2.2.2.2.2.1 R.2.2.1.2.2.2.2.2.2 ++ wF_ f0 f_keys f_days f_amounts f_versions cI R.2.2.2.1.1 R.2.2.2.1.2.1 R.2.2.2.1.2.2.1 R.2.2.2.1.2.2.2.1 R.2.2.2.1.2.2.2.2 ++ wR_ r0 r_keys r_days r_values cI R.2.2.2.2.1.1 R.2.2.2.2.1.2.1 R.2.2.2.2.1.2.2.1 R.2.2.2.2.1.2.2.2 ++ wV_ b0 b_keys b_firsts b_ends b_values b_inferred b_gone cI cZ R.2.2.2.2.2.1.1 R.2.2.2.2.2.1.2.1 R.2.2.2.2.2.1.2.2.1 R.2.2.2.2.2.1.2.2.2.1 R.2.2.2.2.2.1.2.2.2.2.1 R.2.2.2.2.2.1.2.2.2.2.2.1 R.2.2.2.2.2.1.2.2.2.2.2.2 ++ wO_ o0 cJ R.2.2.2.2.2.2) (va_A (wD_ d0 s0 z0 b0 q0 t0 dhasSaved dkeptError dmoved ++ wS_ s0 v0 f0 r0 ++ wV_ v0 v_keys v_firsts v_ends v_values v_inferred v_gone cI cZ vkeys vfirsts vends vvalues vinferred vgone vmade ++ wF_ f0 f_keys f_days f_amounts f_versions cI fkeys fdays famounts fversions fcount ++ wR_ r0 r_keys r_days r_values cI rkeys rdays rvalues rcount ++ wV_ b0 b_keys b_firsts b_ends b_values b_inferred b_gone cI cZ bkeys bfirsts bends bvalues binferred bgone bmade ++ wO_ o0 cJ ov) sz)) 1 6 (va_A (wD_ d0 s0 z0 b0 q0 t0 dhasSaved dkeptError dmoved ++ wS_ s0 v0 f0 r0 ++ wV_ v0 v_keys v_firsts v_ends v_values v_inferred v_gone cI cZ vkeys vfirsts vends vvalues vinferred vgone vmade ++ wF_ f0 f_keys f_days f_amounts f_versions cI fkeys fdays famounts fversions fcount ++ wR_ r0 r_keys r_days r_values cI rkeys rdays rvalues rcount ++ wV_ b0 b_keys b_firsts b_ends b_values b_inferred b_gone cI cZ bkeys bfirsts bends bvalues binferred bgone bmade ++ wO_ o0 cJ ov) sz) := by
  refine metw_ (cc := cL_loadRows) (maxL := 4) (ret := (some .int)) (hh := [(0, 9, 12, 15), (0, 9, 15, 17)]) (Qcf := fun A => Qi_ (dC, dI) (ty_ cI cZ cC cJ cD) R.1 (wD_ d0 s0 z0 b0 q0 t0 R.2.1.1 R.2.1.2.1 R.2.1.2.2 ++ wS_ s0 v0 f0 r0 ++ wV_ v0 v_keys v_firsts v_ends v_values v_inferred v_gone cI cZ R.2.2.1.1 R.2.2.1.2.1 R.2.2.1.2.2.1 R.2.2.1.2.2.2.1 R.2.2.1.2.2.2.2.1 R.2.2.1.2.2.2.2.2.1 R.2.2.1.2.2.2.2.2.2 ++ wF_ f0 f_keys f_days f_amounts f_versions cI R.2.2.2.1.1 R.2.2.2.1.2.1 R.2.2.2.1.2.2.1 R.2.2.2.1.2.2.2.1 R.2.2.2.1.2.2.2.2 ++ wR_ r0 r_keys r_days r_values cI R.2.2.2.2.1.1 R.2.2.2.2.1.2.1 R.2.2.2.2.1.2.2.1 R.2.2.2.2.1.2.2.2 ++ wV_ b0 b_keys b_firsts b_ends b_values b_inferred b_gone cI cZ R.2.2.2.2.2.1.1 R.2.2.2.2.2.1.2.1 R.2.2.2.2.2.1.2.2.1 R.2.2.2.2.2.1.2.2.2.1 R.2.2.2.2.2.1.2.2.2.2.1 R.2.2.2.2.2.1.2.2.2.2.2.1 R.2.2.2.2.2.1.2.2.2.2.2.2 ++ wO_ o0 cJ R.2.2.2.2.2.2) A) (by decide) rfl (Nat.le_of_ble_eq_true rfl) ?_
  intro p e s m args below meth c A ls hx hb hr hts hown hlocks hml htab hA hU hN hC hP hK hD hl
  have hown : s.vm.findClass RL = some m.cls := hown
  have hl : lv_has ls 4 [(0, .ref d0), (1, .int a2), (2, .ref o0)] := hl
  have hS : va_S A s.heap s.heap [] := va_S.rf
  unfold f_L_loadRows at hf
  dsimp only at hf
  refine lv_aload_n hx hb dL_loadRows_0 rfl (lv_at hl 2 rfl) ?_
  refine lv_iconst (v := 0) hx hb dL_loadRows_1 (by decide) ?_
  refine lv_aload_n hx hb dL_loadRows_2 rfl (lv_at hl 0 rfl) ?_
  refine lv_iload_n hx hb dL_loadRows_3 rfl (lv_at hl 1 rfl) ?_
  obtain ⟨R29, g30, hf⟩ := bd_B hf
  obtain ⟨x1, ⟨dh3, dk4, dm5⟩, ⟨vk6, vf7, ve8, vv9, vi10, vg11, vm12⟩, ⟨fk13, fd14, fa15, fv16, fc17⟩, ⟨rk18, rd19, rv20, rc21⟩, ⟨bk22, bf23, be24, bv25, bi26, bg27, bm28⟩⟩ := R29
  dsimp only at hf
  have hPc := hP.sub (ws' := wD_ d0 s0 z0 b0 q0 t0 dhasSaved dkeptError dmoved ++ wS_ s0 v0 f0 r0 ++ wV_ v0 v_keys v_firsts v_ends v_values v_inferred v_gone cI cZ vkeys vfirsts vends vvalues vinferred vgone vmade ++ wF_ f0 f_keys f_days f_amounts f_versions cI fkeys fdays famounts fversions fcount ++ wR_ r0 r_keys r_days r_values cI rkeys rdays rvalues rcount ++ wV_ b0 b_keys b_firsts b_ends b_values b_inferred b_gone cI cZ bkeys bfirsts bends bvalues binferred bgone bmade) [0, 1, 2, 3, 4, 5, 6, 7, 8, 9, 10, 11, 12, 13, 14, 15, 16, 17, 18, 19, 20, 21, 22, 23, 24] rfl
  have hDc := hD.sub (ws' := wD_ d0 s0 z0 b0 q0 t0 dhasSaved dkeptError dmoved ++ wS_ s0 v0 f0 r0 ++ wV_ v0 v_keys v_firsts v_ends v_values v_inferred v_gone cI cZ vkeys vfirsts vends vvalues vinferred vgone vmade ++ wF_ f0 f_keys f_days f_amounts f_versions cI fkeys fdays famounts fversions fcount ++ wR_ r0 r_keys r_days r_values cI rkeys rdays rvalues rcount ++ wV_ b0 b_keys b_firsts b_ends b_values b_inferred b_gone cI cZ bkeys bfirsts bends bvalues binferred bgone bmade) [0, 1, 2, 3, 4, 5, 6, 7, 8, 9, 10, 11, 12, 13, 14, 15, 16, 17, 18, 19, 20, 21, 22, 23, 24] (by decide) rfl
  have hFc := va_free (wc := wD_ d0 s0 z0 b0 q0 t0 dhasSaved dkeptError dmoved ++ wS_ s0 v0 f0 r0 ++ wV_ v0 v_keys v_firsts v_ends v_values v_inferred v_gone cI cZ vkeys vfirsts vends vvalues vinferred vgone vmade ++ wF_ f0 f_keys f_days f_amounts f_versions cI fkeys fdays famounts fversions fcount ++ wR_ r0 r_keys r_days r_values cI rkeys rdays rvalues rcount ++ wV_ b0 b_keys b_firsts b_ends b_values b_inferred b_gone cI cZ bkeys bfirsts bends bvalues binferred bgone bmade) hD hS hA [0, 1, 2, 3, 4, 5, 6, 7, 8, 9, 10, 11, 12, 13, 14, 15, 16, 17, 18, 19, 20, 21, 22, 23, 24] rfl
  cases x1 with
  | error E35 =>
    by_cases c36 : E35 = "java/lang/IllegalArgumentException"
    · have hf := ite_T c36 hf
      subst c36
      refine vx_calli (vx_runV (As := [.int a2]) (rest := [.int 0, .ref o0]) ⟨hx, hb, hml, hown, hts⟩ (c_X5_loadRows l dC dI cI cZ cC cJ cD hst d0 s0 z0 b0 q0 t0 v0 f0 r0 v_keys v_firsts v_ends v_values v_inferred v_gone f_keys f_days f_amounts f_versions r_keys r_days r_values b_keys b_firsts b_ends b_values b_inferred b_gone s.heap.size dhasSaved dkeptError dmoved vkeys vfirsts vends vvalues vinferred vgone vmade fkeys fdays famounts fversions fcount rkeys rdays rvalues rcount bkeys bfirsts bends bvalues binferred bgone bmade a2 ((Except.error "java/lang/IllegalArgumentException"), (dh3, dk4, dm5), (vk6, vf7, ve8, vv9, vi10, vg11, vm12), (fk13, fd14, fa15, fv16, fc17), (rk18, rd19, rv20, rc21), (bk22, bf23, be24, bv25, bi26, bg27, bm28)) g30) (cwV 1 hts gL_loadRows_X5_loadRows rfl rfl rfl hs_X5_loadRows ⟨Nat.le_of_ble_eq_true rfl, Nat.le_of_ble_eq_true rfl⟩) (preVy_ (ci := 7) (q0 := 0) hPc hK hDc rfl rfl rfl rfl hS hU hN hFc hC.1) rfl rfl hl.1 rfl (lv_room (Nat.le_of_ble_eq_true rfl)) dL_loadRows_4 ⟨Nat.le_of_ble_eq_true rfl, Nat.le_of_ble_eq_true rfl⟩) hS (fun q _ h => hFc q h) hFc (fun q _ h => hFc q h) (fun E ce q37 u t H33 locs ht hvm hp hB hz1 hk1 hS hce hcv hcl => ?_) (fun z34 u t H33 locs ht hvm hw hB hz1 hk1 hS => ?_)
      · obtain ⟨hE, hB⟩ := hB
        cases hE
        obtain ⟨hP, hD⟩ := aft_ (Wr := wO_ o0 cJ ov) (Wc' := wD_ d0 s0 z0 b0 q0 t0 dh3 dk4 dm5 ++ wS_ s0 v0 f0 r0 ++ wV_ v0 v_keys v_firsts v_ends v_values v_inferred v_gone cI cZ vk6 vf7 ve8 vv9 vi10 vg11 vm12 ++ wF_ f0 f_keys f_days f_amounts f_versions cI fk13 fd14 fa15 fv16 fc17 ++ wR_ r0 r_keys r_days r_values cI rk18 rd19 rv20 rc21 ++ wV_ b0 b_keys b_firsts b_ends b_values b_inferred b_gone cI cZ bk22 bf23 be24 bv25 bi26 bg27 bm28) (W2 := wD_ d0 s0 z0 b0 q0 t0 dh3 dk4 dm5 ++ wS_ s0 v0 f0 r0 ++ wV_ v0 v_keys v_firsts v_ends v_values v_inferred v_gone cI cZ vk6 vf7 ve8 vv9 vi10 vg11 vm12 ++ wF_ f0 f_keys f_days f_amounts f_versions cI fk13 fd14 fa15 fv16 fc17 ++ wR_ r0 r_keys r_days r_values cI rk18 rd19 rv20 rc21 ++ wV_ b0 b_keys b_firsts b_ends b_values b_inferred b_gone cI cZ bk22 bf23 be24 bv25 bi26 bg27 bm28 ++ wO_ o0 cJ ov) hP hD [0, 1, 2, 3, 4, 5, 6, 7, 8, 9, 10, 11, 12, 13, 14, 15, 16, 17, 18, 19, 20, 21, 22, 23, 24] [25] [1, 2, 3, 4, 5, 6, 7, 8, 9, 10, 11, 12, 13, 14, 15, 16, 17, 18, 19, 20, 21, 22, 23, 24, 25, 0] rfl rfl (by decide) (by decide) (by decide) hk1 hFc hB ht rfl
        refine vx_catch (name := "java/lang/IllegalArgumentException") hown [] ⟨0, 9, 12, 15⟩ [⟨0, 9, 15, 17⟩] (htab.trans rfl) (fun z hz => nomatch hz) (by decide +kernel) (by decide) (hts _ (List.mem_of_getElem? (i := 1) rfl)) ((hC.1.1 "java/lang/IllegalArgumentException" (by decide +kernel)).use rfl) hce hcv hcl ?_
        refine lv_astore_n (lv' := [(3, .ref q37), (0, .ref d0), (1, .int a2), (2, .ref o0)]) hx hb dL_loadRows_12 rfl hl (by decide) rfl (fun ls hl => ?_)
        refine lv_iconst (v := 1) hx hb dL_loadRows_13 (by decide) ?_
        have hR := Option.some.inj hf
        subst hR
        refine W.widen (k := 1) (n := 6) (Nat.le_of_ble_eq_true rfl) (Nat.le_of_ble_eq_true rfl) ?_
        exact W.iret (v := (1 : Int32)) hx hb hr (fun t ht hW => ⟨⟨(1 : Int32), (), rfl, rfl, by rw [ht]; exact hP, va_K.moved hW.alike hK, hD⟩, hS.F ht⟩) hS.2.2 dL_loadRows_14
      · exact absurd hw (fun h => nomatch h)
    · have hf := ite_F c36 hf
      by_cases c38 : E35 = "java/lang/IllegalStateException"
      · have hf := ite_T c38 hf
        subst c38
        refine vx_calli (vx_runV (As := [.int a2]) (rest := [.int 0, .ref o0]) ⟨hx, hb, hml, hown, hts⟩ (c_X5_loadRows l dC dI cI cZ cC cJ cD hst d0 s0 z0 b0 q0 t0 v0 f0 r0 v_keys v_firsts v_ends v_values v_inferred v_gone f_keys f_days f_amounts f_versions r_keys r_days r_values b_keys b_firsts b_ends b_values b_inferred b_gone s.heap.size dhasSaved dkeptError dmoved vkeys vfirsts vends vvalues vinferred vgone vmade fkeys fdays famounts fversions fcount rkeys rdays rvalues rcount bkeys bfirsts bends bvalues binferred bgone bmade a2 ((Except.error "java/lang/IllegalStateException"), (dh3, dk4, dm5), (vk6, vf7, ve8, vv9, vi10, vg11, vm12), (fk13, fd14, fa15, fv16, fc17), (rk18, rd19, rv20, rc21), (bk22, bf23, be24, bv25, bi26, bg27, bm28)) g30) (cwV 1 hts gL_loadRows_X5_loadRows rfl rfl rfl hs_X5_loadRows ⟨Nat.le_of_ble_eq_true rfl, Nat.le_of_ble_eq_true rfl⟩) (preVy_ (ci := 7) (q0 := 0) hPc hK hDc rfl rfl rfl rfl hS hU hN hFc hC.1) rfl rfl hl.1 rfl (lv_room (Nat.le_of_ble_eq_true rfl)) dL_loadRows_4 ⟨Nat.le_of_ble_eq_true rfl, Nat.le_of_ble_eq_true rfl⟩) hS (fun q _ h => hFc q h) hFc (fun q _ h => hFc q h) (fun E ce q39 u t H33 locs ht hvm hp hB hz1 hk1 hS hce hcv hcl => ?_) (fun z34 u t H33 locs ht hvm hw hB hz1 hk1 hS => ?_)
        · obtain ⟨hE, hB⟩ := hB
          cases hE
          obtain ⟨hP, hD⟩ := aft_ (Wr := wO_ o0 cJ ov) (Wc' := wD_ d0 s0 z0 b0 q0 t0 dh3 dk4 dm5 ++ wS_ s0 v0 f0 r0 ++ wV_ v0 v_keys v_firsts v_ends v_values v_inferred v_gone cI cZ vk6 vf7 ve8 vv9 vi10 vg11 vm12 ++ wF_ f0 f_keys f_days f_amounts f_versions cI fk13 fd14 fa15 fv16 fc17 ++ wR_ r0 r_keys r_days r_values cI rk18 rd19 rv20 rc21 ++ wV_ b0 b_keys b_firsts b_ends b_values b_inferred b_gone cI cZ bk22 bf23 be24 bv25 bi26 bg27 bm28) (W2 := wD_ d0 s0 z0 b0 q0 t0 dh3 dk4 dm5 ++ wS_ s0 v0 f0 r0 ++ wV_ v0 v_keys v_firsts v_ends v_values v_inferred v_gone cI cZ vk6 vf7 ve8 vv9 vi10 vg11 vm12 ++ wF_ f0 f_keys f_days f_amounts f_versions cI fk13 fd14 fa15 fv16 fc17 ++ wR_ r0 r_keys r_days r_values cI rk18 rd19 rv20 rc21 ++ wV_ b0 b_keys b_firsts b_ends b_values b_inferred b_gone cI cZ bk22 bf23 be24 bv25 bi26 bg27 bm28 ++ wO_ o0 cJ ov) hP hD [0, 1, 2, 3, 4, 5, 6, 7, 8, 9, 10, 11, 12, 13, 14, 15, 16, 17, 18, 19, 20, 21, 22, 23, 24] [25] [1, 2, 3, 4, 5, 6, 7, 8, 9, 10, 11, 12, 13, 14, 15, 16, 17, 18, 19, 20, 21, 22, 23, 24, 25, 0] rfl rfl (by decide) (by decide) (by decide) hk1 hFc hB ht rfl
          refine vx_catch (name := "java/lang/IllegalStateException") hown [⟨0, 9, 12, 15⟩] ⟨0, 9, 15, 17⟩ [] (htab.trans rfl) (fun z hz => by (rcases List.mem_cons.mp hz with rfl | hz; exact Or.inr ⟨by decide, "java/lang/IllegalArgumentException", hts _ (List.mem_of_getElem? (i := 1) rfl), hC.2 "java/lang/IllegalStateException" (by decide +kernel) "java/lang/IllegalArgumentException" (by decide +kernel) (by decide +kernel)⟩; cases hz)) (by decide +kernel) (by decide) (hts _ (List.mem_of_getElem? (i := 2) rfl)) ((hC.1.1 "java/lang/IllegalStateException" (by decide +kernel)).use rfl) hce hcv hcl ?_
          refine lv_astore_n (lv' := [(3, .ref q39), (0, .ref d0), (1, .int a2), (2, .ref o0)]) hx hb dL_loadRows_15 rfl hl (by decide) rfl (fun ls hl => ?_)
          refine lv_iconst (v := 2) hx hb dL_loadRows_16 (by decide) ?_
          have hR := Option.some.inj hf
          subst hR
          refine W.widen (k := 1) (n := 6) (Nat.le_of_ble_eq_true rfl) (Nat.le_of_ble_eq_true rfl) ?_
          exact W.iret (v := (2 : Int32)) hx hb hr (fun t ht hW => ⟨⟨(2 : Int32), (), rfl, rfl, by rw [ht]; exact hP, va_K.moved hW.alike hK, hD⟩, hS.F ht⟩) hS.2.2 dL_loadRows_17
        · exact absurd hw (fun h => nomatch h)
      · have hf := ite_F c38 hf
        exact absurd hf (fun h => nomatch h)
  | ok r2 =>
    refine vx_calli (vx_runV (As := [.int a2]) (rest := [.int 0, .ref o0]) ⟨hx, hb, hml, hown, hts⟩ (c_X5_loadRows l dC dI cI cZ cC cJ cD hst d0 s0 z0 b0 q0 t0 v0 f0 r0 v_keys v_firsts v_ends v_values v_inferred v_gone f_keys f_days f_amounts f_versions r_keys r_days r_values b_keys b_firsts b_ends b_values b_inferred b_gone s.heap.size dhasSaved dkeptError dmoved vkeys vfirsts vends vvalues vinferred vgone vmade fkeys fdays famounts fversions fcount rkeys rdays rvalues rcount bkeys bfirsts bends bvalues binferred bgone bmade a2 ((Except.ok r2), (dh3, dk4, dm5), (vk6, vf7, ve8, vv9, vi10, vg11, vm12), (fk13, fd14, fa15, fv16, fc17), (rk18, rd19, rv20, rc21), (bk22, bf23, be24, bv25, bi26, bg27, bm28)) g30) (cwV 1 hts gL_loadRows_X5_loadRows rfl rfl rfl hs_X5_loadRows ⟨Nat.le_of_ble_eq_true rfl, Nat.le_of_ble_eq_true rfl⟩) (preVy_ (ci := 7) (q0 := 0) hPc hK hDc rfl rfl rfl rfl hS hU hN hFc hC.1) rfl rfl hl.1 rfl (lv_room (Nat.le_of_ble_eq_true rfl)) dL_loadRows_4 ⟨Nat.le_of_ble_eq_true rfl, Nat.le_of_ble_eq_true rfl⟩) hS (fun q _ h => hFc q h) hFc (fun q _ h => hFc q h) (fun E ce q9 u t H33 locs ht hvm hp hB hz1 hk1 hS hce hcv hcl => ?_) (fun z34 u t H33 locs ht hvm hw hB hz1 hk1 hS => ?_)
    · exact absurd hB.1 (fun h => nomatch h)
    · have hw : r2 = z34 := Except.ok.inj hw
      subst hw
      obtain ⟨hP, hD⟩ := aft_ (Wr := wO_ o0 cJ ov) (Wc' := wD_ d0 s0 z0 b0 q0 t0 dh3 dk4 dm5 ++ wS_ s0 v0 f0 r0 ++ wV_ v0 v_keys v_firsts v_ends v_values v_inferred v_gone cI cZ vk6 vf7 ve8 vv9 vi10 vg11 vm12 ++ wF_ f0 f_keys f_days f_amounts f_versions cI fk13 fd14 fa15 fv16 fc17 ++ wR_ r0 r_keys r_days r_values cI rk18 rd19 rv20 rc21 ++ wV_ b0 b_keys b_firsts b_ends b_values b_inferred b_gone cI cZ bk22 bf23 be24 bv25 bi26 bg27 bm28) (W2 := wD_ d0 s0 z0 b0 q0 t0 dh3 dk4 dm5 ++ wS_ s0 v0 f0 r0 ++ wV_ v0 v_keys v_firsts v_ends v_values v_inferred v_gone cI cZ vk6 vf7 ve8 vv9 vi10 vg11 vm12 ++ wF_ f0 f_keys f_days f_amounts f_versions cI fk13 fd14 fa15 fv16 fc17 ++ wR_ r0 r_keys r_days r_values cI rk18 rd19 rv20 rc21 ++ wV_ b0 b_keys b_firsts b_ends b_values b_inferred b_gone cI cZ bk22 bf23 be24 bv25 bi26 bg27 bm28 ++ wO_ o0 cJ ov) hP hD [0, 1, 2, 3, 4, 5, 6, 7, 8, 9, 10, 11, 12, 13, 14, 15, 16, 17, 18, 19, 20, 21, 22, 23, 24] [25] [1, 2, 3, 4, 5, 6, 7, 8, 9, 10, 11, 12, 13, 14, 15, 16, 17, 18, 19, 20, 21, 22, 23, 24, 25, 0] rfl rfl (by decide) (by decide) (by decide) hk1 hFc hB ht rfl
      refine lv_i2l hx hb dL_loadRows_7 rfl ?_
      obtain ⟨h40, hf⟩ := gd_T hf
      refine va_last hx hb hK hP hD hS 25 3 rfl rfl h40 dL_loadRows_8 (fun H41 locs hP hD hS => ?_)
      have hP : va_P (dC, dI) vwCl (wD_ d0 s0 z0 b0 q0 t0 dh3 dk4 dm5 ++ wS_ s0 v0 f0 r0 ++ wV_ v0 v_keys v_firsts v_ends v_values v_inferred v_gone cI cZ vk6 vf7 ve8 vv9 vi10 vg11 vm12 ++ wF_ f0 f_keys f_days f_amounts f_versions cI fk13 fd14 fa15 fv16 fc17 ++ wR_ r0 r_keys r_days r_values cI rk18 rd19 rv20 rc21 ++ wV_ b0 b_keys b_firsts b_ends b_values b_inferred b_gone cI cZ bk22 bf23 be24 bv25 bi26 bg27 bm28 ++ wO_ o0 cJ (vp_updL ov ((0 : Int32).toNatClampNeg) r2.toInt64)) H41 := hP
      have hD : va_D A (wD_ d0 s0 z0 b0 q0 t0 dh3 dk4 dm5 ++ wS_ s0 v0 f0 r0 ++ wV_ v0 v_keys v_firsts v_ends v_values v_inferred v_gone cI cZ vk6 vf7 ve8 vv9 vi10 vg11 vm12 ++ wF_ f0 f_keys f_days f_amounts f_versions cI fk13 fd14 fa15 fv16 fc17 ++ wR_ r0 r_keys r_days r_values cI rk18 rd19 rv20 rc21 ++ wV_ b0 b_keys b_firsts b_ends b_values b_inferred b_gone cI cZ bk22 bf23 be24 bv25 bi26 bg27 bm28 ++ wO_ o0 cJ (vp_updL ov ((0 : Int32).toNatClampNeg) r2.toInt64)) := hD
      obtain ⟨u42, e43, hf⟩ := nm_T hf
      rw [← e43] at hP hD
      refine lv_goto (tgt := 18) hx hb dL_loadRows_9 (by decide) ?_
      refine lv_iconst (v := 0) hx hb dL_loadRows_18 (by decide) ?_
      have hR := Option.some.inj hf
      subst hR
      refine W.widen (k := 1) (n := 6) (Nat.le_of_ble_eq_true rfl) (Nat.le_of_ble_eq_true rfl) ?_
      exact W.iret (v := (0 : Int32)) hx hb hr (fun t ht hW => ⟨⟨(0 : Int32), (), rfl, rfl, by rw [ht]; exact hP, va_K.moved hW.alike hK, hD⟩, hS.F ht⟩) hS.2.2 dL_loadRows_19
theorem hs_L_loadRows : yL_loadRows.cls ≠ "java/lang/invoke/MethodHandle" ∧ yL_loadRows.cls ≠ "java/lang/invoke/VarHandle" ∧ (parseMethodDescriptor yL_loadRows.desc).map (fun d => d.parameters.length) = some 3 := by decide +kernel
def f_L_append (a2 : Int32) (D_ : tD_) (T_ : tT_) (ov : tO_) : Option (Int32 × tT_ × tO_) :=
match D_ with
| (dhasSaved, dkeptError, dmoved) =>
match T_ with
| (tcharacters, tlength, tplace) =>
bd_ (f_X5_append a2 (dhasSaved, dkeptError, dmoved) (tcharacters, tlength, tplace)) (fun (x1, (tc3, tl4, tp5)) =>
match x1 with
| Except.error E12 => (if E12 = "java/lang/IllegalArgumentException" then some ((1 : Int32), (tc3, tl4, tp5), ov) else (if E12 = "java/lang/IllegalStateException" then some ((2 : Int32), (tc3, tl4, tp5), ov) else none))
| Except.ok r2 =>
gd_ (0 : Int32) 1 (nm_ (vp_updL ov ((0 : Int32).toNatClampNeg) r2.toInt64) (fun u19 =>
some ((0 : Int32), (tc3, tl4, tp5), u19))))
abbrev rm_L_append : Room := { frames := 7, cells := 1, slots := 6, locals := 110 }
set_option maxHeartbeats 4000000 in
set_option maxRecDepth 100000 in
theorem c_L_append (l : Launch) (dC : Nat → ClassId) (dI : Nat → Nat → Nat) (cI cZ cC cJ cD : ClassId) (hst : l.stackTraces = false) (d0 s0 z0 b0 q0 t0 t_characters o0 : Nat) (sz : Nat) (dhasSaved : Int32) (dkeptError : Int32) (dmoved : Int32) (tcharacters : Nat → Int32) (tlength : Int32) (tplace : Int32) (ov : Nat → Int64) (a2 : Int32) (R : Int32 × tT_ × tO_) (hf : f_L_append a2 (dhasSaved, dkeptError, dmoved) (tcharacters, tlength, tplace) ov = some R) : Met l yL_append wsL_append rm_L_append (PL_ (dC, dI) (ty_ cI cZ cC cJ cD) (wD_ d0 s0 z0 b0 q0 t0 dhasSaved dkeptError dmoved ++ wT_ t0 t_characters cC tcharacters tlength tplace ++ wO_ o0 cJ ov) sz [.ref d0, .int a2, .ref o0]) (Qi_ (dC, dI) (ty_ cI cZ cC cJ cD) R.1 (wD_ d0 s0 z0 b0 q0 t0 dhasSaved dkeptError dmoved ++ wT_ t0 t_characters cC R.2.1.1 R.2.1.2.1 R.2.1.2.2 ++ wO_ o0 cJ R.2.2) (va_A (wD_ d0 s0 z0 b0 q0 t0 dhasSaved dkeptError dmoved ++ wT_ t0 t_characters cC tcharacters tlength tplace ++ wO_ o0 cJ ov) sz)) 1 6 (va_A (wD_ d0 s0 z0 b0 q0 t0 dhasSaved dkeptError dmoved ++ wT_ t0 t_characters cC tcharacters tlength tplace ++ wO_ o0 cJ ov) sz) := by
  refine metw_ (cc := cL_append) (maxL := 4) (ret := (some .int)) (hh := [(0, 9, 12, 15), (0, 9, 15, 17)]) (Qcf := fun A => Qi_ (dC, dI) (ty_ cI cZ cC cJ cD) R.1 (wD_ d0 s0 z0 b0 q0 t0 dhasSaved dkeptError dmoved ++ wT_ t0 t_characters cC R.2.1.1 R.2.1.2.1 R.2.1.2.2 ++ wO_ o0 cJ R.2.2) A) (by decide) rfl (Nat.le_of_ble_eq_true rfl) ?_
  intro p e s m args below meth c A ls hx hb hr hts hown hlocks hml htab hA hU hN hC hP hK hD hl
  have hown : s.vm.findClass RL = some m.cls := hown
  have hl : lv_has ls 4 [(0, .ref d0), (1, .int a2), (2, .ref o0)] := hl
  have hS : va_S A s.heap s.heap [] := va_S.rf
  unfold f_L_append at hf
  dsimp only at hf
  refine lv_aload_n hx hb dL_append_0 rfl (lv_at hl 2 rfl) ?_
  refine lv_iconst (v := 0) hx hb dL_append_1 (by decide) ?_
  refine lv_aload_n hx hb dL_append_2 rfl (lv_at hl 0 rfl) ?_
  refine lv_iload_n hx hb dL_append_3 rfl (lv_at hl 1 rfl) ?_
  obtain ⟨R6, g7, hf⟩ := bd_B hf
  obtain ⟨x1, ⟨tc3, tl4, tp5⟩⟩ := R6
  dsimp only at hf
  have hPc := hP.sub (ws' := wD_ d0 s0 z0 b0 q0 t0 dhasSaved dkeptError dmoved ++ wT_ t0 t_characters cC tcharacters tlength tplace) [0, 1, 2] rfl
  have hDc := hD.sub (ws' := wD_ d0 s0 z0 b0 q0 t0 dhasSaved dkeptError dmoved ++ wT_ t0 t_characters cC tcharacters tlength tplace) [0, 1, 2] (by decide) rfl
  have hFc := va_free (wc := wD_ d0 s0 z0 b0 q0 t0 dhasSaved dkeptError dmoved ++ wT_ t0 t_characters cC tcharacters tlength tplace) hD hS hA [0, 1, 2] rfl
  cases x1 with
  | error E12 =>
    by_cases c13 : E12 = "java/lang/IllegalArgumentException"
    · have hf := ite_T c13 hf
      subst c13
      refine vx_calli (vx_runV (As := [.int a2]) (rest := [.int 0, .ref o0]) ⟨hx, hb, hml, hown, hts⟩ (c_X5_append l dC dI cI cZ cC cJ cD hst d0 s0 z0 b0 q0 t0 t_characters s.heap.size dhasSaved dkeptError dmoved tcharacters tlength tplace a2 ((Except.error "java/lang/IllegalArgumentException"), (tc3, tl4, tp5)) g7) (cwV 1 hts gL_append_X5_append rfl rfl rfl hs_X5_append ⟨Nat.le_of_ble_eq_true rfl, Nat.le_of_ble_eq_true rfl⟩) (preVy_ (ci := 7) (q0 := 0) hPc hK hDc rfl rfl rfl rfl hS hU hN hFc hC.1) rfl rfl hl.1 rfl (lv_room (Nat.le_of_ble_eq_true rfl)) dL_append_4 ⟨Nat.le_of_ble_eq_true rfl, Nat.le_of_ble_eq_true rfl⟩) hS (fun q _ h => hFc q h) hFc (fun q _ h => hFc q h) (fun E ce q14 u t H10 locs ht hvm hp hB hz1 hk1 hS hce hcv hcl => ?_) (fun z11 u t H10 locs ht hvm hw hB hz1 hk1 hS => ?_)
      · obtain ⟨hE, hB⟩ := hB
        cases hE
        obtain ⟨hP, hD⟩ := aft_ (Wr := wO_ o0 cJ ov) (Wc' := wD_ d0 s0 z0 b0 q0 t0 dhasSaved dkeptError dmoved ++ wT_ t0 t_characters cC tc3 tl4 tp5) (W2 := wD_ d0 s0 z0 b0 q0 t0 dhasSaved dkeptError dmoved ++ wT_ t0 t_characters cC tc3 tl4 tp5 ++ wO_ o0 cJ ov) hP hD [0, 1, 2] [3] [1, 2, 3, 0] rfl rfl (by decide) (by decide) (by decide) hk1 hFc hB ht rfl
        refine vx_catch (name := "java/lang/IllegalArgumentException") hown [] ⟨0, 9, 12, 15⟩ [⟨0, 9, 15, 17⟩] (htab.trans rfl) (fun z hz => nomatch hz) (by decide +kernel) (by decide) (hts _ (List.mem_of_getElem? (i := 1) rfl)) ((hC.1.1 "java/lang/IllegalArgumentException" (by decide +kernel)).use rfl) hce hcv hcl ?_
        refine lv_astore_n (lv' := [(3, .ref q14), (0, .ref d0), (1, .int a2), (2, .ref o0)]) hx hb dL_append_12 rfl hl (by decide) rfl (fun ls hl => ?_)
        refine lv_iconst (v := 1) hx hb dL_append_13 (by decide) ?_
        have hR := Option.some.inj hf
        subst hR
        refine W.widen (k := 1) (n := 6) (Nat.le_of_ble_eq_true rfl) (Nat.le_of_ble_eq_true rfl) ?_
        exact W.iret (v := (1 : Int32)) hx hb hr (fun t ht hW => ⟨⟨(1 : Int32), (), rfl, rfl, by rw [ht]; exact hP, va_K.moved hW.alike hK, hD⟩, hS.F ht⟩) hS.2.2 dL_append_14
      · exact absurd hw (fun h => nomatch h)
    · have hf := ite_F c13 hf
      by_cases c15 : E12 = "java/lang/IllegalStateException"
      · have hf := ite_T c15 hf
        subst c15
        refine vx_calli (vx_runV (As := [.int a2]) (rest := [.int 0, .ref o0]) ⟨hx, hb, hml, hown, hts⟩ (c_X5_append l dC dI cI cZ cC cJ cD hst d0 s0 z0 b0 q0 t0 t_characters s.heap.size dhasSaved dkeptError dmoved tcharacters tlength tplace a2 ((Except.error "java/lang/IllegalStateException"), (tc3, tl4, tp5)) g7) (cwV 1 hts gL_append_X5_append rfl rfl rfl hs_X5_append ⟨Nat.le_of_ble_eq_true rfl, Nat.le_of_ble_eq_true rfl⟩) (preVy_ (ci := 7) (q0 := 0) hPc hK hDc rfl rfl rfl rfl hS hU hN hFc hC.1) rfl rfl hl.1 rfl (lv_room (Nat.le_of_ble_eq_true rfl)) dL_append_4 ⟨Nat.le_of_ble_eq_true rfl, Nat.le_of_ble_eq_true rfl⟩) hS (fun q _ h => hFc q h) hFc (fun q _ h => hFc q h) (fun E ce q16 u t H10 locs ht hvm hp hB hz1 hk1 hS hce hcv hcl => ?_) (fun z11 u t H10 locs ht hvm hw hB hz1 hk1 hS => ?_)
        · obtain ⟨hE, hB⟩ := hB
          cases hE
          obtain ⟨hP, hD⟩ := aft_ (Wr := wO_ o0 cJ ov) (Wc' := wD_ d0 s0 z0 b0 q0 t0 dhasSaved dkeptError dmoved ++ wT_ t0 t_characters cC tc3 tl4 tp5) (W2 := wD_ d0 s0 z0 b0 q0 t0 dhasSaved dkeptError dmoved ++ wT_ t0 t_characters cC tc3 tl4 tp5 ++ wO_ o0 cJ ov) hP hD [0, 1, 2] [3] [1, 2, 3, 0] rfl rfl (by decide) (by decide) (by decide) hk1 hFc hB ht rfl
          refine vx_catch (name := "java/lang/IllegalStateException") hown [⟨0, 9, 12, 15⟩] ⟨0, 9, 15, 17⟩ [] (htab.trans rfl) (fun z hz => by (rcases List.mem_cons.mp hz with rfl | hz; exact Or.inr ⟨by decide, "java/lang/IllegalArgumentException", hts _ (List.mem_of_getElem? (i := 1) rfl), hC.2 "java/lang/IllegalStateException" (by decide +kernel) "java/lang/IllegalArgumentException" (by decide +kernel) (by decide +kernel)⟩; cases hz)) (by decide +kernel) (by decide) (hts _ (List.mem_of_getElem? (i := 2) rfl)) ((hC.1.1 "java/lang/IllegalStateException" (by decide +kernel)).use rfl) hce hcv hcl ?_
          refine lv_astore_n (lv' := [(3, .ref q16), (0, .ref d0), (1, .int a2), (2, .ref o0)]) hx hb dL_append_15 rfl hl (by decide) rfl (fun ls hl => ?_)
          refine lv_iconst (v := 2) hx hb dL_append_16 (by decide) ?_
          have hR := Option.some.inj hf
          subst hR
          refine W.widen (k := 1) (n := 6) (Nat.le_of_ble_eq_true rfl) (Nat.le_of_ble_eq_true rfl) ?_
          exact W.iret (v := (2 : Int32)) hx hb hr (fun t ht hW => ⟨⟨(2 : Int32), (), rfl, rfl, by rw [ht]; exact hP, va_K.moved hW.alike hK, hD⟩, hS.F ht⟩) hS.2.2 dL_append_17
        · exact absurd hw (fun h => nomatch h)
      · have hf := ite_F c15 hf
        exact absurd hf (fun h => nomatch h)
  | ok r2 =>
    refine vx_calli (vx_runV (As := [.int a2]) (rest := [.int 0, .ref o0]) ⟨hx, hb, hml, hown, hts⟩ (c_X5_append l dC dI cI cZ cC cJ cD hst d0 s0 z0 b0 q0 t0 t_characters s.heap.size dhasSaved dkeptError dmoved tcharacters tlength tplace a2 ((Except.ok r2), (tc3, tl4, tp5)) g7) (cwV 1 hts gL_append_X5_append rfl rfl rfl hs_X5_append ⟨Nat.le_of_ble_eq_true rfl, Nat.le_of_ble_eq_true rfl⟩) (preVy_ (ci := 7) (q0 := 0) hPc hK hDc rfl rfl rfl rfl hS hU hN hFc hC.1) rfl rfl hl.1 rfl (lv_room (Nat.le_of_ble_eq_true rfl)) dL_append_4 ⟨Nat.le_of_ble_eq_true rfl, Nat.le_of_ble_eq_true rfl⟩) hS (fun q _ h => hFc q h) hFc (fun q _ h => hFc q h) (fun E ce q9 u t H10 locs ht hvm hp hB hz1 hk1 hS hce hcv hcl => ?_) (fun z11 u t H10 locs ht hvm hw hB hz1 hk1 hS => ?_)
    · exact absurd hB.1 (fun h => nomatch h)
    · have hw : r2 = z11 := Except.ok.inj hw
      subst hw
      obtain ⟨hP, hD⟩ := aft_ (Wr := wO_ o0 cJ ov) (Wc' := wD_ d0 s0 z0 b0 q0 t0 dhasSaved dkeptError dmoved ++ wT_ t0 t_characters cC tc3 tl4 tp5) (W2 := wD_ d0 s0 z0 b0 q0 t0 dhasSaved dkeptError dmoved ++ wT_ t0 t_characters cC tc3 tl4 tp5 ++ wO_ o0 cJ ov) hP hD [0, 1, 2] [3] [1, 2, 3, 0] rfl rfl (by decide) (by decide) (by decide) hk1 hFc hB ht rfl
      refine lv_i2l hx hb dL_append_7 rfl ?_
      obtain ⟨h17, hf⟩ := gd_T hf
      refine va_last hx hb hK hP hD hS 3 3 rfl rfl h17 dL_append_8 (fun H18 locs hP hD hS => ?_)
      have hP : va_P (dC, dI) vwCl (wD_ d0 s0 z0 b0 q0 t0 dhasSaved dkeptError dmoved ++ wT_ t0 t_characters cC tc3 tl4 tp5 ++ wO_ o0 cJ (vp_updL ov ((0 : Int32).toNatClampNeg) r2.toInt64)) H18 := hP
      have hD : va_D A (wD_ d0 s0 z0 b0 q0 t0 dhasSaved dkeptError dmoved ++ wT_ t0 t_characters cC tc3 tl4 tp5 ++ wO_ o0 cJ (vp_updL ov ((0 : Int32).toNatClampNeg) r2.toInt64)) := hD
      obtain ⟨u19, e20, hf⟩ := nm_T hf
      rw [← e20] at hP hD
      refine lv_goto (tgt := 18) hx hb dL_append_9 (by decide) ?_
      refine lv_iconst (v := 0) hx hb dL_append_18 (by decide) ?_
      have hR := Option.some.inj hf
      subst hR
      refine W.widen (k := 1) (n := 6) (Nat.le_of_ble_eq_true rfl) (Nat.le_of_ble_eq_true rfl) ?_
      exact W.iret (v := (0 : Int32)) hx hb hr (fun t ht hW => ⟨⟨(0 : Int32), (), rfl, rfl, by rw [ht]; exact hP, va_K.moved hW.alike hK, hD⟩, hS.F ht⟩) hS.2.2 dL_append_19
theorem hs_L_append : yL_append.cls ≠ "java/lang/invoke/MethodHandle" ∧ yL_append.cls ≠ "java/lang/invoke/VarHandle" ∧ (parseMethodDescriptor yL_append.desc).map (fun d => d.parameters.length) = some 3 := by decide +kernel
def f_L_read  (D_ : tD_) (S_ : tS_) (V_ : tV_) (F_ : tF_) (R_ : tR_) (B_ : tV_) (Q_ : tR_) (T_ : tT_) (ov : tO_) : Option (Int32 × tD_ × tV_ × tF_ × tV_ × tR_ × tT_ × tO_) :=
match D_ with
| (dhasSaved, dkeptError, dmoved) =>
match V_ with
| (vkeys, vfirsts, vends, vvalues, vinferred, vgone, vmade) =>
match F_ with
| (fkeys, fdays, famounts, fversions, fcount) =>
match R_ with
| (rkeys, rdays, rvalues, rcount) =>
match B_ with
| (bkeys, bfirsts, bends, bvalues, binferred, bgone, bmade) =>
match Q_ with
| (qkeys, qdays, qvalues, qcount) =>
match T_ with
| (tcharacters, tlength, tplace) =>
bd_ (f_X5_read (dhasSaved, dkeptError, dmoved) () (vkeys, vfirsts, vends, vvalues, vinferred, vgone, vmade) (fkeys, fdays, famounts, fversions, fcount) (rkeys, rdays, rvalues, rcount) (bkeys, bfirsts, bends, bvalues, binferred, bgone, bmade) (qkeys, qdays, qvalues, qcount) (tcharacters, tlength, tplace)) (fun (x1, (dh3, dk4, dm5), (vk6, vf7, ve8, vv9, vi10, vg11, vm12), (fk13, fd14, fa15, fv16, fc17), (bk18, bf19, be20, bv21, bi22, bg23, bm24), (qk25, qd26, qv27, qc28), (tc29, tl30, tp31)) =>
match x1 with
| Except.error E38 => (if E38 = "java/lang/IllegalArgumentException" then some ((1 : Int32), (dh3, dk4, dm5), (vk6, vf7, ve8, vv9, vi10, vg11, vm12), (fk13, fd14, fa15, fv16, fc17), (bk18, bf19, be20, bv21, bi22, bg23, bm24), (qk25, qd26, qv27, qc28), (tc29, tl30, tp31), ov) else (if E38 = "java/lang/IllegalStateException" then some ((2 : Int32), (dh3, dk4, dm5), (vk6, vf7, ve8, vv9, vi10, vg11, vm12), (fk13, fd14, fa15, fv16, fc17), (bk18, bf19, be20, bv21, bi22, bg23, bm24), (qk25, qd26, qv27, qc28), (tc29, tl30, tp31), ov) else none))
| Except.ok r2 =>
gd_ (0 : Int32) 1 (nm_ (vp_updL ov ((0 : Int32).toNatClampNeg) r2.toInt64) (fun u45 =>
some ((0 : Int32), (dh3, dk4, dm5), (vk6, vf7, ve8, vv9, vi10, vg11, vm12), (fk13, fd14, fa15, fv16, fc17), (bk18, bf19, be20, bv21, bi22, bg23, bm24), (qk25, qd26, qv27, qc28), (tc29, tl30, tp31), u45))))
abbrev rm_L_read : Room := { frames := 7, cells := 1, slots := 6, locals := 159 }
set_option maxHeartbeats 4000000 in
set_option maxRecDepth 100000 in
theorem c_L_read (l : Launch) (dC : Nat → ClassId) (dI : Nat → Nat → Nat) (cI cZ cC cJ cD : ClassId) (hst : l.stackTraces = false) (d0 s0 z0 b0 q0 t0 v0 f0 r0 v_keys v_firsts v_ends v_values v_inferred v_gone f_keys f_days f_amounts f_versions r_keys r_days r_values b_keys b_firsts b_ends b_values b_inferred b_gone q_keys q_days q_values t_characters o0 : Nat) (sz : Nat) (dhasSaved : Int32) (dkeptError : Int32) (dmoved : Int32) (vkeys : Nat → Int32) (vfirsts : Nat → Int32) (vends : Nat → Int32) (vvalues : Nat → Int32) (vinferred : Nat → Int32) (vgone : Nat → Int32) (vmade : Int32) (fkeys : Nat → Int32) (fdays : Nat → Int32) (famounts : Nat → Int32) (fversions : Nat → Int32) (fcount : Int32) (rkeys : Nat → Int32) (rdays : Nat → Int32) (rvalues : Nat → Int32) (rcount : Int32) (bkeys : Nat → Int32) (bfirsts : Nat → Int32) (bends : Nat → Int32) (bvalues : Nat → Int32) (binferred : Nat → Int32) (bgone : Nat → Int32) (bmade : Int32) (qkeys : Nat → Int32) (qdays : Nat → Int32) (qvalues : Nat → Int32) (qcount : Int32) (tcharacters : Nat → Int32) (tlength : Int32) (tplace : Int32) (ov : Nat → Int64)  (R : Int32 × tD_ × tV_ × tF_ × tV_ × tR_ × tT_ × tO_) (hf : f_L_read  (dhasSaved, dkeptError, dmoved) () (vkeys, vfirsts, vends, vvalues, vinferred, vgone, vmade) (fkeys, fdays, famounts, fversions, fcount) (rkeys, rdays, rvalues, rcount) (bkeys, bfirsts, bends, bvalues, binferred, bgone, bmade) (qkeys, qdays, qvalues, qcount) (tcharacters, tlength, tplace) ov = some R) : Met l yL_read wsL_read rm_L_read (PL_ (dC, dI) (ty_ cI cZ cC cJ cD) (wD_ d0 s0 z0 b0 q0 t0 dhasSaved dkeptError dmoved ++ wS_ s0 v0 f0 r0 ++ wV_ v0 v_keys v_firsts v_ends v_values v_inferred v_gone cI cZ vkeys vfirsts vends vvalues vinferred vgone vmade ++ wF_ f0 f_keys f_days f_amounts f_versions cI fkeys fdays famounts fversions fcount ++ wR_ r0 r_keys r_days r_values cI rkeys rdays rvalues rcount ++ wV_ b0 b_keys b_firsts b_ends b_values b_inferred b_gone cI cZ bkeys bfirsts bends bvalues binferred bgone bmade ++ wR_ q0 q_keys q_days q_values cI qkeys qdays qvalues qcount ++ wT_ t0 t_characters cC tcharacters tlength tplace ++ wO_ o0 cJ ov) sz [.ref d0, .ref o0]) (Qi_ (dC, dI) (ty_ cI cZ cC cJ cD) R.1 (wD_ d0 s0 z0 b0 q0 t0 R.2.1.1 R.2.1.2.1 R.2.1.2.2 ++ wS_ s0 v0 f0 r0 ++ wV_ v0 v_keys v_firsts v_ends v_values v_inferred v_gone cI cZ R.2.2.1.1 R.2.2.1.2.1 R.2.2.1.2.2.1 R.2.2.1.2.2.2.1 R.2.2.1.2.2.2.2.1 R.2.2.1.2.2.2.2.2.1 R.2.2.1.2.2.2.2.2.2 ++ wF_ f0 f_keys f_days f_amounts f_versions cI R.2.2.2.1.1 R.2.2.2.1.2.1 R.2.2.2.1.2.2.1 R.2.2.2.1.2.2.2.1 R.2.2.2.1.2.2.2.2 ++ wR_ r0 r_keys r_days r_values cI rkeys rdays rvalues rcount ++ wV_ b0 b_keys b_firsts b_ends b_values b_inferred b_gone cI cZ R.2.2.2.2.1.1 R.2.2.2.2.1.2.1 R.2.2.2.2.1.2.2.1 R.2.2.2.2.1.2.2.2.1 R.2.2.2.2.1.2.2.2.2.1 R.2.2.2.2.1.2.2.2.2.2.1 R.2.2.2.2.1.2.2.2.2.2.2 ++ wR_ q0 q_keys q_days q_values cI R.2.2.2.2.2.1.1 R.2.2.2.2.2.1.2.1 R.2.2.2.2.2.1.2.2.1 R.2.2.2.2.2.1.2.2.2 ++ wT_ t0 t_characters cC R.2.2.2.2.2.2.1.1 R.2.2.2.2.2.2.1.2.1 R.2.2.2.2.2.2.1.2.2 ++ wO_ o0 cJ R.2.2.2.2.2.2.2) (va_A (wD_ d0 s0 z0 b0 q0 t0 dhasSaved dkeptError dmoved ++ wS_ s0 v0 f0 r0 ++ wV_ v0 v_keys v_firsts v_ends v_values v_inferred v_gone cI cZ vkeys vfirsts vends vvalues vinferred vgone vmade ++ wF_ f0 f_keys f_days f_amounts f_versions cI fkeys fdays famounts fversions fcount ++ wR_ r0 r_keys r_days r_values cI rkeys rdays rvalues rcount ++ wV_ b0 b_keys b_firsts b_ends b_values b_inferred b_gone cI cZ bkeys bfirsts bends bvalues binferred bgone bmade ++ wR_ q0 q_keys q_days q_values cI qkeys qdays qvalues qcount ++ wT_ t0 t_characters cC tcharacters tlength tplace ++ wO_ o0 cJ ov) sz)) 1 6 (va_A (wD_ d0 s0 z0 b0 q0 t0 dhasSaved dkeptError dmoved ++ wS_ s0 v0 f0 r0 ++ wV_ v0 v_keys v_firsts v_ends v_values v_inferred v_gone cI cZ vkeys vfirsts vends vvalues vinferred vgone vmade ++ wF_ f0 f_keys f_days f_amounts f_versions cI fkeys fdays famounts fversions fcount ++ wR_ r0 r_keys r_days r_values cI rkeys rdays rvalues rcount ++ wV_ b0 b_keys b_firsts b_ends b_values b_inferred b_gone cI cZ bkeys bfirsts bends bvalues binferred bgone bmade ++ wR_ q0 q_keys q_days q_values cI qkeys qdays qvalues qcount ++ wT_ t0 t_characters cC tcharacters tlength tplace ++ wO_ o0 cJ ov) sz) := by
  refine metw_ (cc := cL_read) (maxL := 3) (ret := (some .int)) (hh := [(0, 8, 11, 15), (0, 8, 14, 17)]) (Qcf := fun A => Qi_ (dC, dI) (ty_ cI cZ cC cJ cD) R.1 (wD_ d0 s0 z0 b0 q0 t0 R.2.1.1 R.2.1.2.1 R.2.1.2.2 ++ wS_ s0 v0 f0 r0 ++ wV_ v0 v_keys v_firsts v_ends v_values v_inferred v_gone cI cZ R.2.2.1.1 R.2.2.1.2.1 R.2.2.1.2.2.1 R.2.2.1.2.2.2.1 R.2.2.1.2.2.2.2.1 R.2.2.1.2.2.2.2.2.1 R.2.2.1.2.2.2.2.2.2 ++ wF_ f0 f_keys f_days f_amounts f_versions cI R.2.2.2.1.1 R.2.2.2.1.2.1 R.2.2.2.1.2.2.1 R.2.2.2.1.2.2.2.1 R.2.2.2.1.2.2.2.2 ++ wR_ r0 r_keys r_days r_values cI rkeys rdays rvalues rcount ++ wV_ b0 b_keys b_firsts b_ends b_values b_inferred b_gone cI cZ R.2.2.2.2.1.1 R.2.2.2.2.1.2.1 R.2.2.2.2.1.2.2.1 R.2.2.2.2.1.2.2.2.1 R.2.2.2.2.1.2.2.2.2.1 R.2.2.2.2.1.2.2.2.2.2.1 R.2.2.2.2.1.2.2.2.2.2.2 ++ wR_ q0 q_keys q_days q_values cI R.2.2.2.2.2.1.1 R.2.2.2.2.2.1.2.1 R.2.2.2.2.2.1.2.2.1 R.2.2.2.2.2.1.2.2.2 ++ wT_ t0 t_characters cC R.2.2.2.2.2.2.1.1 R.2.2.2.2.2.2.1.2.1 R.2.2.2.2.2.2.1.2.2 ++ wO_ o0 cJ R.2.2.2.2.2.2.2) A) (by decide) rfl (Nat.le_of_ble_eq_true rfl) ?_
  intro p e s m args below meth c A ls hx hb hr hts hown hlocks hml htab hA hU hN hC hP hK hD hl
  have hown : s.vm.findClass RL = some m.cls := hown
  have hl : lv_has ls 3 [(0, .ref d0), (1, .ref o0)] := hl
  have hS : va_S A s.heap s.heap [] := va_S.rf
  unfold f_L_read at hf
  dsimp only at hf
  refine lv_aload_n hx hb dL_read_0 rfl (lv_at hl 1 rfl) ?_
  refine lv_iconst (v := 0) hx hb dL_read_1 (by decide) ?_
  refine lv_aload_n hx hb dL_read_2 rfl (lv_at hl 0 rfl) ?_
  obtain ⟨R32, g33, hf⟩ := bd_B hf
  obtain ⟨x1, ⟨dh3, dk4, dm5⟩, ⟨vk6, vf7, ve8, vv9, vi10, vg11, vm12⟩, ⟨fk13, fd14, fa15, fv16, fc17⟩, ⟨bk18, bf19, be20, bv21, bi22, bg23, bm24⟩, ⟨qk25, qd26, qv27, qc28⟩, ⟨tc29, tl30, tp31⟩⟩ := R32
  dsimp only at hf
  have hPc := hP.sub (ws' := wD_ d0 s0 z0 b0 q0 t0 dhasSaved dkeptError dmoved ++ wS_ s0 v0 f0 r0 ++ wV_ v0 v_keys v_firsts v_ends v_values v_inferred v_gone cI cZ vkeys vfirsts vends vvalues vinferred vgone vmade ++ wF_ f0 f_keys f_days f_amounts f_versions cI fkeys fdays famounts fversions fcount ++ wR_ r0 r_keys r_days r_values cI rkeys rdays rvalues rcount ++ wV_ b0 b_keys b_firsts b_ends b_values b_inferred b_gone cI cZ bkeys bfirsts bends bvalues binferred bgone bmade ++ wR_ q0 q_keys q_days q_values cI qkeys qdays qvalues qcount ++ wT_ t0 t_characters cC tcharacters tlength tplace) [0, 1, 2, 3, 4, 5, 6, 7, 8, 9, 10, 11, 12, 13, 14, 15, 16, 17, 18, 19, 20, 21, 22, 23, 24, 25, 26, 27, 28, 29, 30] rfl
  have hDc := hD.sub (ws' := wD_ d0 s0 z0 b0 q0 t0 dhasSaved dkeptError dmoved ++ wS_ s0 v0 f0 r0 ++ wV_ v0 v_keys v_firsts v_ends v_values v_inferred v_gone cI cZ vkeys vfirsts vends vvalues vinferred vgone vmade ++ wF_ f0 f_keys f_days f_amounts f_versions cI fkeys fdays famounts fversions fcount ++ wR_ r0 r_keys r_days r_values cI rkeys rdays rvalues rcount ++ wV_ b0 b_keys b_firsts b_ends b_values b_inferred b_gone cI cZ bkeys bfirsts bends bvalues binferred bgone bmade ++ wR_ q0 q_keys q_days q_values cI qkeys qdays qvalues qcount ++ wT_ t0 t_characters cC tcharacters tlength tplace) [0, 1, 2, 3, 4, 5, 6, 7, 8, 9, 10, 11, 12, 13, 14, 15, 16, 17, 18, 19, 20, 21, 22, 23, 24, 25, 26, 27, 28, 29, 30] (by decide) rfl
  have hFc := va_free (wc := wD_ d0 s0 z0 b0 q0 t0 dhasSaved dkeptError dmoved ++ wS_ s0 v0 f0 r0 ++ wV_ v0 v_keys v_firsts v_ends v_values v_inferred v_gone cI cZ vkeys vfirsts vends vvalues vinferred vgone vmade ++ wF_ f0 f_keys f_days f_amounts f_versions cI fkeys fdays famounts fversions fcount ++ wR_ r0 r_keys r_days r_values cI rkeys rdays rvalues rcount ++ wV_ b0 b_keys b_firsts b_ends b_values b_inferred b_gone cI cZ bkeys bfirsts bends bvalues binferred bgone bmade ++ wR_ q0 q_keys q_days q_values cI qkeys qdays qvalues qcount ++ wT_ t0 t_characters cC tcharacters tlength tplace) hD hS hA [0, 1, 2, 3, 4, 5, 6, 7, 8, 9, 10, 11, 12, 13, 14, 15, 16, 17, 18, 19, 20, 21, 22, 23, 24, 25, 26, 27, 28, 29, 30] rfl
  cases x1 with
  | error E38 =>
    by_cases c39 : E38 = "java/lang/IllegalArgumentException"
    · have hf := ite_T c39 hf
      subst c39
      refine vx_calli (vx_runV (As := []) (rest := [.int 0, .ref o0]) ⟨hx, hb, hml, hown, hts⟩ (c_X5_read l dC dI cI cZ cC cJ cD hst d0 s0 z0 b0 q0 t0 v0 f0 r0 v_keys v_firsts v_ends v_values v_inferred v_gone f_keys f_days f_amounts f_versions r_keys r_days r_values b_keys b_firsts b_ends b_values b_inferred b_gone q_keys q_days q_values t_characters s.heap.size dhasSaved dkeptError dmoved vkeys vfirsts vends vvalues vinferred vgone vmade fkeys fdays famounts fversions fcount rkeys rdays rvalues rcount bkeys bfirsts bends bvalues binferred bgone bmade qkeys qdays qvalues qcount tcharacters tlength tplace ((Except.error "java/lang/IllegalArgumentException"), (dh3, dk4, dm5), (vk6, vf7, ve8, vv9, vi10, vg11, vm12), (fk13, fd14, fa15, fv16, fc17), (bk18, bf19, be20, bv21, bi22, bg23, bm24), (qk25, qd26, qv27, qc28), (tc29, tl30, tp31)) g33) (cwV 0 hts gL_read_X5_read rfl rfl rfl hs_X5_read ⟨Nat.le_of_ble_eq_true rfl, Nat.le_of_ble_eq_true rfl⟩) (preVy_ (ci := 7) (q0 := 0) hPc hK hDc rfl rfl rfl rfl hS hU hN hFc hC.1) rfl rfl hl.1 rfl (lv_room (Nat.le_of_ble_eq_true rfl)) dL_read_3 ⟨Nat.le_of_ble_eq_true rfl, Nat.le_of_ble_eq_true rfl⟩) hS (fun q _ h => hFc q h) hFc (fun q _ h => hFc q h) (fun E ce q40 u t H36 locs ht hvm hp hB hz1 hk1 hS hce hcv hcl => ?_) (fun z37 u t H36 locs ht hvm hw hB hz1 hk1 hS => ?_)
      · obtain ⟨hE, hB⟩ := hB
        cases hE
        obtain ⟨hP, hD⟩ := aft_ (Wr := wO_ o0 cJ ov) (Wc' := wD_ d0 s0 z0 b0 q0 t0 dh3 dk4 dm5 ++ wS_ s0 v0 f0 r0 ++ wV_ v0 v_keys v_firsts v_ends v_values v_inferred v_gone cI cZ vk6 vf7 ve8 vv9 vi10 vg11 vm12 ++ wF_ f0 f_keys f_days f_amounts f_versions cI fk13 fd14 fa15 fv16 fc17 ++ wR_ r0 r_keys r_days r_values cI rkeys rdays rvalues rcount ++ wV_ b0 b_keys b_firsts b_ends b_values b_inferred b_gone cI cZ bk18 bf19 be20 bv21 bi22 bg23 bm24 ++ wR_ q0 q_keys q_days q_values cI qk25 qd26 qv27 qc28 ++ wT_ t0 t_characters cC tc29 tl30 tp31) (W2 := wD_ d0 s0 z0 b0 q0 t0 dh3 dk4 dm5 ++ wS_ s0 v0 f0 r0 ++ wV_ v0 v_keys v_firsts v_ends v_values v_inferred v_gone cI cZ vk6 vf7 ve8 vv9 vi10 vg11 vm12 ++ wF_ f0 f_keys f_days f_amounts f_versions cI fk13 fd14 fa15 fv16 fc17 ++ wR_ r0 r_keys r_days r_values cI rkeys rdays rvalues rcount ++ wV_ b0 b_keys b_firsts b_ends b_values b_inferred b_gone cI cZ bk18 bf19 be20 bv21 bi22 bg23 bm24 ++ wR_ q0 q_keys q_days q_values cI qk25 qd26 qv27 qc28 ++ wT_ t0 t_characters cC tc29 tl30 tp31 ++ wO_ o0 cJ ov) hP hD [0, 1, 2, 3, 4, 5, 6, 7, 8, 9, 10, 11, 12, 13, 14, 15, 16, 17, 18, 19, 20, 21, 22, 23, 24, 25, 26, 27, 28, 29, 30] [31] [1, 2, 3, 4, 5, 6, 7, 8, 9, 10, 11, 12, 13, 14, 15, 16, 17, 18, 19, 20, 21, 22, 23, 24, 25, 26, 27, 28, 29, 30, 31, 0] rfl rfl (by decide) (by decide) (by decide) hk1 hFc hB ht rfl
        refine vx_catch (name := "java/lang/IllegalArgumentException") hown [] ⟨0, 8, 11, 15⟩ [⟨0, 8, 14, 17⟩] (htab.trans rfl) (fun z hz => nomatch hz) (by decide +kernel) (by decide) (hts _ (List.mem_of_getElem? (i := 1) rfl)) ((hC.1.1 "java/lang/IllegalArgumentException" (by decide +kernel)).use rfl) hce hcv hcl ?_
        refine lv_astore_n (lv' := [(2, .ref q40), (0, .ref d0), (1, .ref o0)]) hx hb dL_read_11 rfl hl (by decide) rfl (fun ls hl => ?_)
        refine lv_iconst (v := 1) hx hb dL_read_12 (by decide) ?_
        have hR := Option.some.inj hf
        subst hR
        refine W.widen (k := 1) (n := 6) (Nat.le_of_ble_eq_true rfl) (Nat.le_of_ble_eq_true rfl) ?_
        exact W.iret (v := (1 : Int32)) hx hb hr (fun t ht hW => ⟨⟨(1 : Int32), (), rfl, rfl, by rw [ht]; exact hP, va_K.moved hW.alike hK, hD⟩, hS.F ht⟩) hS.2.2 dL_read_13
      · exact absurd hw (fun h => nomatch h)
    · have hf := ite_F c39 hf
      by_cases c41 : E38 = "java/lang/IllegalStateException"
      · have hf := ite_T c41 hf
        subst c41
        refine vx_calli (vx_runV (As := []) (rest := [.int 0, .ref o0]) ⟨hx, hb, hml, hown, hts⟩ (c_X5_read l dC dI cI cZ cC cJ cD hst d0 s0 z0 b0 q0 t0 v0 f0 r0 v_keys v_firsts v_ends v_values v_inferred v_gone f_keys f_days f_amounts f_versions r_keys r_days r_values b_keys b_firsts b_ends b_values b_inferred b_gone q_keys q_days q_values t_characters s.heap.size dhasSaved dkeptError dmoved vkeys vfirsts vends vvalues vinferred vgone vmade fkeys fdays famounts fversions fcount rkeys rdays rvalues rcount bkeys bfirsts bends bvalues binferred bgone bmade qkeys qdays qvalues qcount tcharacters tlength tplace ((Except.error "java/lang/IllegalStateException"), (dh3, dk4, dm5), (vk6, vf7, ve8, vv9, vi10, vg11, vm12), (fk13, fd14, fa15, fv16, fc17), (bk18, bf19, be20, bv21, bi22, bg23, bm24), (qk25, qd26, qv27, qc28), (tc29, tl30, tp31)) g33) (cwV 0 hts gL_read_X5_read rfl rfl rfl hs_X5_read ⟨Nat.le_of_ble_eq_true rfl, Nat.le_of_ble_eq_true rfl⟩) (preVy_ (ci := 7) (q0 := 0) hPc hK hDc rfl rfl rfl rfl hS hU hN hFc hC.1) rfl rfl hl.1 rfl (lv_room (Nat.le_of_ble_eq_true rfl)) dL_read_3 ⟨Nat.le_of_ble_eq_true rfl, Nat.le_of_ble_eq_true rfl⟩) hS (fun q _ h => hFc q h) hFc (fun q _ h => hFc q h) (fun E ce q42 u t H36 locs ht hvm hp hB hz1 hk1 hS hce hcv hcl => ?_) (fun z37 u t H36 locs ht hvm hw hB hz1 hk1 hS => ?_)
        · obtain ⟨hE, hB⟩ := hB
          cases hE
          obtain ⟨hP, hD⟩ := aft_ (Wr := wO_ o0 cJ ov) (Wc' := wD_ d0 s0 z0 b0 q0 t0 dh3 dk4 dm5 ++ wS_ s0 v0 f0 r0 ++ wV_ v0 v_keys v_firsts v_ends v_values v_inferred v_gone cI cZ vk6 vf7 ve8 vv9 vi10 vg11 vm12 ++ wF_ f0 f_keys f_days f_amounts f_versions cI fk13 fd14 fa15 fv16 fc17 ++ wR_ r0 r_keys r_days r_values cI rkeys rdays rvalues rcount ++ wV_ b0 b_keys b_firsts b_ends b_values b_inferred b_gone cI cZ bk18 bf19 be20 bv21 bi22 bg23 bm24 ++ wR_ q0 q_keys q_days q_values cI qk25 qd26 qv27 qc28 ++ wT_ t0 t_characters cC tc29 tl30 tp31) (W2 := wD_ d0 s0 z0 b0 q0 t0 dh3 dk4 dm5 ++ wS_ s0 v0 f0 r0 ++ wV_ v0 v_keys v_firsts v_ends v_values v_inferred v_gone cI cZ vk6 vf7 ve8 vv9 vi10 vg11 vm12 ++ wF_ f0 f_keys f_days f_amounts f_versions cI fk13 fd14 fa15 fv16 fc17 ++ wR_ r0 r_keys r_days r_values cI rkeys rdays rvalues rcount ++ wV_ b0 b_keys b_firsts b_ends b_values b_inferred b_gone cI cZ bk18 bf19 be20 bv21 bi22 bg23 bm24 ++ wR_ q0 q_keys q_days q_values cI qk25 qd26 qv27 qc28 ++ wT_ t0 t_characters cC tc29 tl30 tp31 ++ wO_ o0 cJ ov) hP hD [0, 1, 2, 3, 4, 5, 6, 7, 8, 9, 10, 11, 12, 13, 14, 15, 16, 17, 18, 19, 20, 21, 22, 23, 24, 25, 26, 27, 28, 29, 30] [31] [1, 2, 3, 4, 5, 6, 7, 8, 9, 10, 11, 12, 13, 14, 15, 16, 17, 18, 19, 20, 21, 22, 23, 24, 25, 26, 27, 28, 29, 30, 31, 0] rfl rfl (by decide) (by decide) (by decide) hk1 hFc hB ht rfl
          refine vx_catch (name := "java/lang/IllegalStateException") hown [⟨0, 8, 11, 15⟩] ⟨0, 8, 14, 17⟩ [] (htab.trans rfl) (fun z hz => by (rcases List.mem_cons.mp hz with rfl | hz; exact Or.inr ⟨by decide, "java/lang/IllegalArgumentException", hts _ (List.mem_of_getElem? (i := 1) rfl), hC.2 "java/lang/IllegalStateException" (by decide +kernel) "java/lang/IllegalArgumentException" (by decide +kernel) (by decide +kernel)⟩; cases hz)) (by decide +kernel) (by decide) (hts _ (List.mem_of_getElem? (i := 2) rfl)) ((hC.1.1 "java/lang/IllegalStateException" (by decide +kernel)).use rfl) hce hcv hcl ?_
          refine lv_astore_n (lv' := [(2, .ref q42), (0, .ref d0), (1, .ref o0)]) hx hb dL_read_14 rfl hl (by decide) rfl (fun ls hl => ?_)
          refine lv_iconst (v := 2) hx hb dL_read_15 (by decide) ?_
          have hR := Option.some.inj hf
          subst hR
          refine W.widen (k := 1) (n := 6) (Nat.le_of_ble_eq_true rfl) (Nat.le_of_ble_eq_true rfl) ?_
          exact W.iret (v := (2 : Int32)) hx hb hr (fun t ht hW => ⟨⟨(2 : Int32), (), rfl, rfl, by rw [ht]; exact hP, va_K.moved hW.alike hK, hD⟩, hS.F ht⟩) hS.2.2 dL_read_16
        · exact absurd hw (fun h => nomatch h)
      · have hf := ite_F c41 hf
        exact absurd hf (fun h => nomatch h)
  | ok r2 =>
    refine vx_calli (vx_runV (As := []) (rest := [.int 0, .ref o0]) ⟨hx, hb, hml, hown, hts⟩ (c_X5_read l dC dI cI cZ cC cJ cD hst d0 s0 z0 b0 q0 t0 v0 f0 r0 v_keys v_firsts v_ends v_values v_inferred v_gone f_keys f_days f_amounts f_versions r_keys r_days r_values b_keys b_firsts b_ends b_values b_inferred b_gone q_keys q_days q_values t_characters s.heap.size dhasSaved dkeptError dmoved vkeys vfirsts vends vvalues vinferred vgone vmade fkeys fdays famounts fversions fcount rkeys rdays rvalues rcount bkeys bfirsts bends bvalues binferred bgone bmade qkeys qdays qvalues qcount tcharacters tlength tplace ((Except.ok r2), (dh3, dk4, dm5), (vk6, vf7, ve8, vv9, vi10, vg11, vm12), (fk13, fd14, fa15, fv16, fc17), (bk18, bf19, be20, bv21, bi22, bg23, bm24), (qk25, qd26, qv27, qc28), (tc29, tl30, tp31)) g33) (cwV 0 hts gL_read_X5_read rfl rfl rfl hs_X5_read ⟨Nat.le_of_ble_eq_true rfl, Nat.le_of_ble_eq_true rfl⟩) (preVy_ (ci := 7) (q0 := 0) hPc hK hDc rfl rfl rfl rfl hS hU hN hFc hC.1) rfl rfl hl.1 rfl (lv_room (Nat.le_of_ble_eq_true rfl)) dL_read_3 ⟨Nat.le_of_ble_eq_true rfl, Nat.le_of_ble_eq_true rfl⟩) hS (fun q _ h => hFc q h) hFc (fun q _ h => hFc q h) (fun E ce q9 u t H36 locs ht hvm hp hB hz1 hk1 hS hce hcv hcl => ?_) (fun z37 u t H36 locs ht hvm hw hB hz1 hk1 hS => ?_)
    · exact absurd hB.1 (fun h => nomatch h)
    · have hw : r2 = z37 := Except.ok.inj hw
      subst hw
      obtain ⟨hP, hD⟩ := aft_ (Wr := wO_ o0 cJ ov) (Wc' := wD_ d0 s0 z0 b0 q0 t0 dh3 dk4 dm5 ++ wS_ s0 v0 f0 r0 ++ wV_ v0 v_keys v_firsts v_ends v_values v_inferred v_gone cI cZ vk6 vf7 ve8 vv9 vi10 vg11 vm12 ++ wF_ f0 f_keys f_days f_amounts f_versions cI fk13 fd14 fa15 fv16 fc17 ++ wR_ r0 r_keys r_days r_values cI rkeys rdays rvalues rcount ++ wV_ b0 b_keys b_firsts b_ends b_values b_inferred b_gone cI cZ bk18 bf19 be20 bv21 bi22 bg23 bm24 ++ wR_ q0 q_keys q_days q_values cI qk25 qd26 qv27 qc28 ++ wT_ t0 t_characters cC tc29 tl30 tp31) (W2 := wD_ d0 s0 z0 b0 q0 t0 dh3 dk4 dm5 ++ wS_ s0 v0 f0 r0 ++ wV_ v0 v_keys v_firsts v_ends v_values v_inferred v_gone cI cZ vk6 vf7 ve8 vv9 vi10 vg11 vm12 ++ wF_ f0 f_keys f_days f_amounts f_versions cI fk13 fd14 fa15 fv16 fc17 ++ wR_ r0 r_keys r_days r_values cI rkeys rdays rvalues rcount ++ wV_ b0 b_keys b_firsts b_ends b_values b_inferred b_gone cI cZ bk18 bf19 be20 bv21 bi22 bg23 bm24 ++ wR_ q0 q_keys q_days q_values cI qk25 qd26 qv27 qc28 ++ wT_ t0 t_characters cC tc29 tl30 tp31 ++ wO_ o0 cJ ov) hP hD [0, 1, 2, 3, 4, 5, 6, 7, 8, 9, 10, 11, 12, 13, 14, 15, 16, 17, 18, 19, 20, 21, 22, 23, 24, 25, 26, 27, 28, 29, 30] [31] [1, 2, 3, 4, 5, 6, 7, 8, 9, 10, 11, 12, 13, 14, 15, 16, 17, 18, 19, 20, 21, 22, 23, 24, 25, 26, 27, 28, 29, 30, 31, 0] rfl rfl (by decide) (by decide) (by decide) hk1 hFc hB ht rfl
      refine lv_i2l hx hb dL_read_6 rfl ?_
      obtain ⟨h43, hf⟩ := gd_T hf
      refine va_last hx hb hK hP hD hS 31 3 rfl rfl h43 dL_read_7 (fun H44 locs hP hD hS => ?_)
      have hP : va_P (dC, dI) vwCl (wD_ d0 s0 z0 b0 q0 t0 dh3 dk4 dm5 ++ wS_ s0 v0 f0 r0 ++ wV_ v0 v_keys v_firsts v_ends v_values v_inferred v_gone cI cZ vk6 vf7 ve8 vv9 vi10 vg11 vm12 ++ wF_ f0 f_keys f_days f_amounts f_versions cI fk13 fd14 fa15 fv16 fc17 ++ wR_ r0 r_keys r_days r_values cI rkeys rdays rvalues rcount ++ wV_ b0 b_keys b_firsts b_ends b_values b_inferred b_gone cI cZ bk18 bf19 be20 bv21 bi22 bg23 bm24 ++ wR_ q0 q_keys q_days q_values cI qk25 qd26 qv27 qc28 ++ wT_ t0 t_characters cC tc29 tl30 tp31 ++ wO_ o0 cJ (vp_updL ov ((0 : Int32).toNatClampNeg) r2.toInt64)) H44 := hP
      have hD : va_D A (wD_ d0 s0 z0 b0 q0 t0 dh3 dk4 dm5 ++ wS_ s0 v0 f0 r0 ++ wV_ v0 v_keys v_firsts v_ends v_values v_inferred v_gone cI cZ vk6 vf7 ve8 vv9 vi10 vg11 vm12 ++ wF_ f0 f_keys f_days f_amounts f_versions cI fk13 fd14 fa15 fv16 fc17 ++ wR_ r0 r_keys r_days r_values cI rkeys rdays rvalues rcount ++ wV_ b0 b_keys b_firsts b_ends b_values b_inferred b_gone cI cZ bk18 bf19 be20 bv21 bi22 bg23 bm24 ++ wR_ q0 q_keys q_days q_values cI qk25 qd26 qv27 qc28 ++ wT_ t0 t_characters cC tc29 tl30 tp31 ++ wO_ o0 cJ (vp_updL ov ((0 : Int32).toNatClampNeg) r2.toInt64)) := hD
      obtain ⟨u45, e46, hf⟩ := nm_T hf
      rw [← e46] at hP hD
      refine lv_goto (tgt := 17) hx hb dL_read_8 (by decide) ?_
      refine lv_iconst (v := 0) hx hb dL_read_17 (by decide) ?_
      have hR := Option.some.inj hf
      subst hR
      refine W.widen (k := 1) (n := 6) (Nat.le_of_ble_eq_true rfl) (Nat.le_of_ble_eq_true rfl) ?_
      exact W.iret (v := (0 : Int32)) hx hb hr (fun t ht hW => ⟨⟨(0 : Int32), (), rfl, rfl, by rw [ht]; exact hP, va_K.moved hW.alike hK, hD⟩, hS.F ht⟩) hS.2.2 dL_read_18
theorem hs_L_read : yL_read.cls ≠ "java/lang/invoke/MethodHandle" ∧ yL_read.cls ≠ "java/lang/invoke/VarHandle" ∧ (parseMethodDescriptor yL_read.desc).map (fun d => d.parameters.length) = some 2 := by decide +kernel
def f_L_errorPosition  (D_ : tD_) (ov : tO_) : Option (Int32 × tO_) :=
match D_ with
| (dhasSaved, dkeptError, dmoved) =>
bd_ (f_X5_errorPosition (dhasSaved, dkeptError, dmoved)) (fun x1 =>
match x1 with
| Except.error E9 => (if E9 = "java/util/NoSuchElementException" then some ((1 : Int32), ov) else none)
| Except.ok r2 =>
gd_ (0 : Int32) 1 (nm_ (vp_updL ov ((0 : Int32).toNatClampNeg) r2.toInt64) (fun u14 =>
some ((0 : Int32), u14))))
abbrev rm_L_errorPosition : Room := { frames := 8, cells := 1, slots := 6, locals := 129 }
set_option maxHeartbeats 4000000 in
set_option maxRecDepth 100000 in
theorem c_L_errorPosition (l : Launch) (dC : Nat → ClassId) (dI : Nat → Nat → Nat) (cI cZ cC cJ cD : ClassId) (hst : l.stackTraces = false) (d0 s0 z0 b0 q0 t0 o0 : Nat) (sz : Nat) (dhasSaved : Int32) (dkeptError : Int32) (dmoved : Int32) (ov : Nat → Int64)  (R : Int32 × tO_) (hf : f_L_errorPosition  (dhasSaved, dkeptError, dmoved) ov = some R) : Met l yL_errorPosition wsL_errorPosition rm_L_errorPosition (PL_ (dC, dI) (ty_ cI cZ cC cJ cD) (wD_ d0 s0 z0 b0 q0 t0 dhasSaved dkeptError dmoved ++ wO_ o0 cJ ov) sz [.ref d0, .ref o0]) (Qi_ (dC, dI) (ty_ cI cZ cC cJ cD) R.1 (wD_ d0 s0 z0 b0 q0 t0 dhasSaved dkeptError dmoved ++ wO_ o0 cJ R.2) (va_A (wD_ d0 s0 z0 b0 q0 t0 dhasSaved dkeptError dmoved ++ wO_ o0 cJ ov) sz)) 1 6 (va_A (wD_ d0 s0 z0 b0 q0 t0 dhasSaved dkeptError dmoved ++ wO_ o0 cJ ov) sz) := by
  refine metw_ (cc := cL_errorPosition) (maxL := 3) (ret := (some .int)) (hh := [(0, 8, 11, 26)]) (Qcf := fun A => Qi_ (dC, dI) (ty_ cI cZ cC cJ cD) R.1 (wD_ d0 s0 z0 b0 q0 t0 dhasSaved dkeptError dmoved ++ wO_ o0 cJ R.2) A) (by decide) rfl (Nat.le_of_ble_eq_true rfl) ?_
  intro p e s m args below meth c A ls hx hb hr hts hown hlocks hml htab hA hU hN hC hP hK hD hl
  have hown : s.vm.findClass RL = some m.cls := hown
  have hl : lv_has ls 3 [(0, .ref d0), (1, .ref o0)] := hl
  have hS : va_S A s.heap s.heap [] := va_S.rf
  unfold f_L_errorPosition at hf
  dsimp only at hf
  refine lv_aload_n hx hb dL_errorPosition_0 rfl (lv_at hl 1 rfl) ?_
  refine lv_iconst (v := 0) hx hb dL_errorPosition_1 (by decide) ?_
  refine lv_aload_n hx hb dL_errorPosition_2 rfl (lv_at hl 0 rfl) ?_
  obtain ⟨R3, g4, hf⟩ := bd_B hf
  obtain ⟨x1, rfl⟩ : ∃ z, z = R3 := ⟨_, rfl⟩
  have hPc := hP.sub (ws' := wD_ d0 s0 z0 b0 q0 t0 dhasSaved dkeptError dmoved) [0] rfl
  have hDc := hD.sub (ws' := wD_ d0 s0 z0 b0 q0 t0 dhasSaved dkeptError dmoved) [0] (by decide) rfl
  have hFc := va_free (wc := wD_ d0 s0 z0 b0 q0 t0 dhasSaved dkeptError dmoved) hD hS hA [0] rfl
  cases x1 with
  | error E9 =>
    by_cases c10 : E9 = "java/util/NoSuchElementException"
    · have hf := ite_T c10 hf
      subst c10
      refine vx_calli (vx_runV (As := []) (rest := [.int 0, .ref o0]) ⟨hx, hb, hml, hown, hts⟩ (c_X5_errorPosition l dC dI cI cZ cC cJ cD hst d0 s0 z0 b0 q0 t0 s.heap.size dhasSaved dkeptError dmoved (Except.error "java/util/NoSuchElementException") g4) (cwV 0 hts gL_errorPosition_X5_errorPosition rfl rfl rfl hs_X5_errorPosition ⟨Nat.le_of_ble_eq_true rfl, Nat.le_of_ble_eq_true rfl⟩) (preVy_ (ci := 7) (q0 := 0) hPc hK hDc rfl rfl rfl rfl hS hU hN hFc hC.1) rfl rfl hl.1 rfl (lv_room (Nat.le_of_ble_eq_true rfl)) dL_errorPosition_3 ⟨Nat.le_of_ble_eq_true rfl, Nat.le_of_ble_eq_true rfl⟩) hS (fun q _ h => hFc q h) hFc (fun q _ h => hFc q h) (fun E ce q11 u t H7 locs ht hvm hp hB hz1 hk1 hS hce hcv hcl => ?_) (fun z8 u t H7 locs ht hvm hw hB hz1 hk1 hS => ?_)
      · obtain ⟨hE, hB⟩ := hB
        cases hE
        obtain ⟨hP, hD⟩ := aft_ (Wr := wO_ o0 cJ ov) (Wc' := wD_ d0 s0 z0 b0 q0 t0 dhasSaved dkeptError dmoved) (W2 := wD_ d0 s0 z0 b0 q0 t0 dhasSaved dkeptError dmoved ++ wO_ o0 cJ ov) hP hD [0] [1] [1, 0] rfl rfl (by decide) (by decide) (by decide) hk1 hFc hB ht rfl
        refine vx_catch (name := "java/util/NoSuchElementException") hown [] ⟨0, 8, 11, 26⟩ [] (htab.trans rfl) (fun z hz => nomatch hz) (by decide +kernel) (by decide) (hts _ (List.mem_of_getElem? (i := 1) rfl)) ((hC.1.1 "java/util/NoSuchElementException" (by decide +kernel)).use rfl) hce hcv hcl ?_
        refine lv_astore_n (lv' := [(2, .ref q11), (0, .ref d0), (1, .ref o0)]) hx hb dL_errorPosition_11 rfl hl (by decide) rfl (fun ls hl => ?_)
        refine lv_iconst (v := 1) hx hb dL_errorPosition_12 (by decide) ?_
        have hR := Option.some.inj hf
        subst hR
        refine W.widen (k := 1) (n := 6) (Nat.le_of_ble_eq_true rfl) (Nat.le_of_ble_eq_true rfl) ?_
        exact W.iret (v := (1 : Int32)) hx hb hr (fun t ht hW => ⟨⟨(1 : Int32), (), rfl, rfl, by rw [ht]; exact hP, va_K.moved hW.alike hK, hD⟩, hS.F ht⟩) hS.2.2 dL_errorPosition_13
      · exact absurd hw (fun h => nomatch h)
    · have hf := ite_F c10 hf
      exact absurd hf (fun h => nomatch h)
  | ok r2 =>
    refine vx_calli (vx_runV (As := []) (rest := [.int 0, .ref o0]) ⟨hx, hb, hml, hown, hts⟩ (c_X5_errorPosition l dC dI cI cZ cC cJ cD hst d0 s0 z0 b0 q0 t0 s.heap.size dhasSaved dkeptError dmoved (Except.ok r2) g4) (cwV 0 hts gL_errorPosition_X5_errorPosition rfl rfl rfl hs_X5_errorPosition ⟨Nat.le_of_ble_eq_true rfl, Nat.le_of_ble_eq_true rfl⟩) (preVy_ (ci := 7) (q0 := 0) hPc hK hDc rfl rfl rfl rfl hS hU hN hFc hC.1) rfl rfl hl.1 rfl (lv_room (Nat.le_of_ble_eq_true rfl)) dL_errorPosition_3 ⟨Nat.le_of_ble_eq_true rfl, Nat.le_of_ble_eq_true rfl⟩) hS (fun q _ h => hFc q h) hFc (fun q _ h => hFc q h) (fun E ce q9 u t H7 locs ht hvm hp hB hz1 hk1 hS hce hcv hcl => ?_) (fun z8 u t H7 locs ht hvm hw hB hz1 hk1 hS => ?_)
    · exact absurd hB.1 (fun h => nomatch h)
    · have hw : r2 = z8 := Except.ok.inj hw
      subst hw
      obtain ⟨hP, hD⟩ := aft_ (Wr := wO_ o0 cJ ov) (Wc' := wD_ d0 s0 z0 b0 q0 t0 dhasSaved dkeptError dmoved) (W2 := wD_ d0 s0 z0 b0 q0 t0 dhasSaved dkeptError dmoved ++ wO_ o0 cJ ov) hP hD [0] [1] [1, 0] rfl rfl (by decide) (by decide) (by decide) hk1 hFc hB ht rfl
      refine lv_i2l hx hb dL_errorPosition_6 rfl ?_
      obtain ⟨h12, hf⟩ := gd_T hf
      refine va_last hx hb hK hP hD hS 1 3 rfl rfl h12 dL_errorPosition_7 (fun H13 locs hP hD hS => ?_)
      have hP : va_P (dC, dI) vwCl (wD_ d0 s0 z0 b0 q0 t0 dhasSaved dkeptError dmoved ++ wO_ o0 cJ (vp_updL ov ((0 : Int32).toNatClampNeg) r2.toInt64)) H13 := hP
      have hD : va_D A (wD_ d0 s0 z0 b0 q0 t0 dhasSaved dkeptError dmoved ++ wO_ o0 cJ (vp_updL ov ((0 : Int32).toNatClampNeg) r2.toInt64)) := hD
      obtain ⟨u14, e15, hf⟩ := nm_T hf
      rw [← e15] at hP hD
      refine lv_goto (tgt := 14) hx hb dL_errorPosition_8 (by decide) ?_
      refine lv_iconst (v := 0) hx hb dL_errorPosition_14 (by decide) ?_
      have hR := Option.some.inj hf
      subst hR
      refine W.widen (k := 1) (n := 6) (Nat.le_of_ble_eq_true rfl) (Nat.le_of_ble_eq_true rfl) ?_
      exact W.iret (v := (0 : Int32)) hx hb hr (fun t ht hW => ⟨⟨(0 : Int32), (), rfl, rfl, by rw [ht]; exact hP, va_K.moved hW.alike hK, hD⟩, hS.F ht⟩) hS.2.2 dL_errorPosition_15
theorem hs_L_errorPosition : yL_errorPosition.cls ≠ "java/lang/invoke/MethodHandle" ∧ yL_errorPosition.cls ≠ "java/lang/invoke/VarHandle" ∧ (parseMethodDescriptor yL_errorPosition.desc).map (fun d => d.parameters.length) = some 2 := by decide +kernel
def f_L_restore  (D_ : tD_) (S_ : tS_) (V_ : tV_) (F_ : tF_) (R_ : tR_) (Z_ : tS_) (W_ : tV_) (G_ : tF_) (H_ : tR_) (ov : tO_) : Option (Int32 × tD_ × tV_ × tF_ × tR_ × tO_) :=
match D_ with
| (dhasSaved, dkeptError, dmoved) =>
match V_ with
| (vkeys, vfirsts, vends, vvalues, vinferred, vgone, vmade) =>
match F_ with
| (fkeys, fdays, famounts, fversions, fcount) =>
match R_ with
| (rkeys, rdays, rvalues, rcount) =>
match W_ with
| (wkeys, wfirsts, wends, wvalues, winferred, wgone, wmade) =>
match G_ with
| (gkeys, gdays, gamounts, gversions, gcount) =>
match H_ with
| (hkeys, hdays, hvalues, hcount) =>
bd_ (f_X5_restore (dhasSaved, dkeptError, dmoved) () (vkeys, vfirsts, vends, vvalues, vinferred, vgone, vmade) (fkeys, fdays, famounts, fversions, fcount) (rkeys, rdays, rvalues, rcount) () (wkeys, wfirsts, wends, wvalues, winferred, wgone, wmade) (gkeys, gdays, gamounts, gversions, gcount) (hkeys, hdays, hvalues, hcount)) (fun (x1, (dh3, dk4, dm5), (vk6, vf7, ve8, vv9, vi10, vg11, vm12), (fk13, fd14, fa15, fv16, fc17), (rk18, rd19, rv20, rc21)) =>
match x1 with
| Except.error E28 => (if E28 = "java/lang/IllegalStateException" then some ((1 : Int32), (dh3, dk4, dm5), (vk6, vf7, ve8, vv9, vi10, vg11, vm12), (fk13, fd14, fa15, fv16, fc17), (rk18, rd19, rv20, rc21), ov) else none)
| Except.ok r2 =>
gd_ (0 : Int32) 1 (nm_ (vp_updL ov ((0 : Int32).toNatClampNeg) r2.toInt64) (fun u33 =>
some ((0 : Int32), (dh3, dk4, dm5), (vk6, vf7, ve8, vv9, vi10, vg11, vm12), (fk13, fd14, fa15, fv16, fc17), (rk18, rd19, rv20, rc21), u33))))
abbrev rm_L_restore : Room := { frames := 7, cells := 1, slots := 6, locals := 109 }
set_option maxHeartbeats 4000000 in
set_option maxRecDepth 100000 in
theorem c_L_restore (l : Launch) (dC : Nat → ClassId) (dI : Nat → Nat → Nat) (cI cZ cC cJ cD : ClassId) (hst : l.stackTraces = false) (d0 s0 z0 b0 q0 t0 v0 f0 r0 v_keys v_firsts v_ends v_values v_inferred v_gone f_keys f_days f_amounts f_versions r_keys r_days r_values w0 g0 h0 w_keys w_firsts w_ends w_values w_inferred w_gone g_keys g_days g_amounts g_versions h_keys h_days h_values o0 : Nat) (sz : Nat) (dhasSaved : Int32) (dkeptError : Int32) (dmoved : Int32) (vkeys : Nat → Int32) (vfirsts : Nat → Int32) (vends : Nat → Int32) (vvalues : Nat → Int32) (vinferred : Nat → Int32) (vgone : Nat → Int32) (vmade : Int32) (fkeys : Nat → Int32) (fdays : Nat → Int32) (famounts : Nat → Int32) (fversions : Nat → Int32) (fcount : Int32) (rkeys : Nat → Int32) (rdays : Nat → Int32) (rvalues : Nat → Int32) (rcount : Int32) (wkeys : Nat → Int32) (wfirsts : Nat → Int32) (wends : Nat → Int32) (wvalues : Nat → Int32) (winferred : Nat → Int32) (wgone : Nat → Int32) (wmade : Int32) (gkeys : Nat → Int32) (gdays : Nat → Int32) (gamounts : Nat → Int32) (gversions : Nat → Int32) (gcount : Int32) (hkeys : Nat → Int32) (hdays : Nat → Int32) (hvalues : Nat → Int32) (hcount : Int32) (ov : Nat → Int64)  (R : Int32 × tD_ × tV_ × tF_ × tR_ × tO_) (hf : f_L_restore  (dhasSaved, dkeptError, dmoved) () (vkeys, vfirsts, vends, vvalues, vinferred, vgone, vmade) (fkeys, fdays, famounts, fversions, fcount) (rkeys, rdays, rvalues, rcount) () (wkeys, wfirsts, wends, wvalues, winferred, wgone, wmade) (gkeys, gdays, gamounts, gversions, gcount) (hkeys, hdays, hvalues, hcount) ov = some R) : Met l yL_restore wsL_restore rm_L_restore (PL_ (dC, dI) (ty_ cI cZ cC cJ cD) (wD_ d0 s0 z0 b0 q0 t0 dhasSaved dkeptError dmoved ++ wS_ s0 v0 f0 r0 ++ wV_ v0 v_keys v_firsts v_ends v_values v_inferred v_gone cI cZ vkeys vfirsts vends vvalues vinferred vgone vmade ++ wF_ f0 f_keys f_days f_amounts f_versions cI fkeys fdays famounts fversions fcount ++ wR_ r0 r_keys r_days r_values cI rkeys rdays rvalues rcount ++ wS_ z0 w0 g0 h0 ++ wV_ w0 w_keys w_firsts w_ends w_values w_inferred w_gone cI cZ wkeys wfirsts wends wvalues winferred wgone wmade ++ wF_ g0 g_keys g_days g_amounts g_versions cI gkeys gdays gamounts gversions gcount ++ wR_ h0 h_keys h_days h_values cI hkeys hdays hvalues hcount ++ wO_ o0 cJ ov) sz [.ref d0, .ref o0]) (Qi_ (dC, dI) (ty_ cI cZ cC cJ cD) R.1 (wD_ d0 s0 z0 b0 q0 t0 R.2.1.1 R.2.1.2.1 R.2.1.2.2 ++ wS_ s0 v0 f0 r0 ++ wV_ v0 v_keys v_firsts v_ends v_values v_inferred v_gone cI cZ R.2.2.1.1 R.2.2.1.2.1 R.2.2.1.2.2.1 R.2.2.1.2.2.2.1 R.2.2.1.2.2.2.2.1 R.2.2.1.2.2.2.2.2.1 R.2.2.1.2.2.2.2.2.2 ++ wF_ f0 f_keys f_days f_amounts f_versions cI R.2.2.2.1.1 R.2.2.2.1.2.1 R.2.2.2.1.2.2.1 R.2.2.2.1.2.2.2.1 R.2.2.2.1.2.2.2.2 ++ wR_ r0 r_keys r_days r_values cI R.2.2.2.2.1.1 R.2.2.2.2.1.2.1 R.2.2.2.2.1.2.2.1 R.2.2.2.2.1.2.2.2 ++ wS_ z0 w0 g0 h0 ++ wV_ w0 w_keys w_firsts w_ends w_values w_inferred w_gone cI cZ wkeys wfirsts wends wvalues winferred wgone wmade ++ wF_ g0 g_keys g_days g_amounts g_versions cI gkeys gdays gamounts gversions gcount ++ wR_ h0 h_keys h_days h_values cI hkeys hdays hvalues hcount ++ wO_ o0 cJ R.2.2.2.2.2) (va_A (wD_ d0 s0 z0 b0 q0 t0 dhasSaved dkeptError dmoved ++ wS_ s0 v0 f0 r0 ++ wV_ v0 v_keys v_firsts v_ends v_values v_inferred v_gone cI cZ vkeys vfirsts vends vvalues vinferred vgone vmade ++ wF_ f0 f_keys f_days f_amounts f_versions cI fkeys fdays famounts fversions fcount ++ wR_ r0 r_keys r_days r_values cI rkeys rdays rvalues rcount ++ wS_ z0 w0 g0 h0 ++ wV_ w0 w_keys w_firsts w_ends w_values w_inferred w_gone cI cZ wkeys wfirsts wends wvalues winferred wgone wmade ++ wF_ g0 g_keys g_days g_amounts g_versions cI gkeys gdays gamounts gversions gcount ++ wR_ h0 h_keys h_days h_values cI hkeys hdays hvalues hcount ++ wO_ o0 cJ ov) sz)) 1 6 (va_A (wD_ d0 s0 z0 b0 q0 t0 dhasSaved dkeptError dmoved ++ wS_ s0 v0 f0 r0 ++ wV_ v0 v_keys v_firsts v_ends v_values v_inferred v_gone cI cZ vkeys vfirsts vends vvalues vinferred vgone vmade ++ wF_ f0 f_keys f_days f_amounts f_versions cI fkeys fdays famounts fversions fcount ++ wR_ r0 r_keys r_days r_values cI rkeys rdays rvalues rcount ++ wS_ z0 w0 g0 h0 ++ wV_ w0 w_keys w_firsts w_ends w_values w_inferred w_gone cI cZ wkeys wfirsts wends wvalues winferred wgone wmade ++ wF_ g0 g_keys g_days g_amounts g_versions cI gkeys gdays gamounts gversions gcount ++ wR_ h0 h_keys h_days h_values cI hkeys hdays hvalues hcount ++ wO_ o0 cJ ov) sz) := by
  refine metw_ (cc := cL_restore) (maxL := 3) (ret := (some .int)) (hh := [(0, 8, 11, 17)]) (Qcf := fun A => Qi_ (dC, dI) (ty_ cI cZ cC cJ cD) R.1 (wD_ d0 s0 z0 b0 q0 t0 R.2.1.1 R.2.1.2.1 R.2.1.2.2 ++ wS_ s0 v0 f0 r0 ++ wV_ v0 v_keys v_firsts v_ends v_values v_inferred v_gone cI cZ R.2.2.1.1 R.2.2.1.2.1 R.2.2.1.2.2.1 R.2.2.1.2.2.2.1 R.2.2.1.2.2.2.2.1 R.2.2.1.2.2.2.2.2.1 R.2.2.1.2.2.2.2.2.2 ++ wF_ f0 f_keys f_days f_amounts f_versions cI R.2.2.2.1.1 R.2.2.2.1.2.1 R.2.2.2.1.2.2.1 R.2.2.2.1.2.2.2.1 R.2.2.2.1.2.2.2.2 ++ wR_ r0 r_keys r_days r_values cI R.2.2.2.2.1.1 R.2.2.2.2.1.2.1 R.2.2.2.2.1.2.2.1 R.2.2.2.2.1.2.2.2 ++ wS_ z0 w0 g0 h0 ++ wV_ w0 w_keys w_firsts w_ends w_values w_inferred w_gone cI cZ wkeys wfirsts wends wvalues winferred wgone wmade ++ wF_ g0 g_keys g_days g_amounts g_versions cI gkeys gdays gamounts gversions gcount ++ wR_ h0 h_keys h_days h_values cI hkeys hdays hvalues hcount ++ wO_ o0 cJ R.2.2.2.2.2) A) (by decide) rfl (Nat.le_of_ble_eq_true rfl) ?_
  intro p e s m args below meth c A ls hx hb hr hts hown hlocks hml htab hA hU hN hC hP hK hD hl
  have hown : s.vm.findClass RL = some m.cls := hown
  have hl : lv_has ls 3 [(0, .ref d0), (1, .ref o0)] := hl
  have hS : va_S A s.heap s.heap [] := va_S.rf
  unfold f_L_restore at hf
  dsimp only at hf
  refine lv_aload_n hx hb dL_restore_0 rfl (lv_at hl 1 rfl) ?_
  refine lv_iconst (v := 0) hx hb dL_restore_1 (by decide) ?_
  refine lv_aload_n hx hb dL_restore_2 rfl (lv_at hl 0 rfl) ?_
  obtain ⟨R22, g23, hf⟩ := bd_B hf
  obtain ⟨x1, ⟨dh3, dk4, dm5⟩, ⟨vk6, vf7, ve8, vv9, vi10, vg11, vm12⟩, ⟨fk13, fd14, fa15, fv16, fc17⟩, ⟨rk18, rd19, rv20, rc21⟩⟩ := R22
  dsimp only at hf
  have hPc := hP.sub (ws' := wD_ d0 s0 z0 b0 q0 t0 dhasSaved dkeptError dmoved ++ wS_ s0 v0 f0 r0 ++ wV_ v0 v_keys v_firsts v_ends v_values v_inferred v_gone cI cZ vkeys vfirsts vends vvalues vinferred vgone vmade ++ wF_ f0 f_keys f_days f_amounts f_versions cI fkeys fdays famounts fversions fcount ++ wR_ r0 r_keys r_days r_values cI rkeys rdays rvalues rcount ++ wS_ z0 w0 g0 h0 ++ wV_ w0 w_keys w_firsts w_ends w_values w_inferred w_gone cI cZ wkeys wfirsts wends wvalues winferred wgone wmade ++ wF_ g0 g_keys g_days g_amounts g_versions cI gkeys gdays gamounts gversions gcount ++ wR_ h0 h_keys h_days h_values cI hkeys hdays hvalues hcount) [0, 1, 2, 3, 4, 5, 6, 7, 8, 9, 10, 11, 12, 13, 14, 15, 16, 17, 18, 19, 20, 21, 22, 23, 24, 25, 26, 27, 28, 29, 30, 31, 32, 33, 34] rfl
  have hDc := hD.sub (ws' := wD_ d0 s0 z0 b0 q0 t0 dhasSaved dkeptError dmoved ++ wS_ s0 v0 f0 r0 ++ wV_ v0 v_keys v_firsts v_ends v_values v_inferred v_gone cI cZ vkeys vfirsts vends vvalues vinferred vgone vmade ++ wF_ f0 f_keys f_days f_amounts f_versions cI fkeys fdays famounts fversions fcount ++ wR_ r0 r_keys r_days r_values cI rkeys rdays rvalues rcount ++ wS_ z0 w0 g0 h0 ++ wV_ w0 w_keys w_firsts w_ends w_values w_inferred w_gone cI cZ wkeys wfirsts wends wvalues winferred wgone wmade ++ wF_ g0 g_keys g_days g_amounts g_versions cI gkeys gdays gamounts gversions gcount ++ wR_ h0 h_keys h_days h_values cI hkeys hdays hvalues hcount) [0, 1, 2, 3, 4, 5, 6, 7, 8, 9, 10, 11, 12, 13, 14, 15, 16, 17, 18, 19, 20, 21, 22, 23, 24, 25, 26, 27, 28, 29, 30, 31, 32, 33, 34] (by decide) rfl
  have hFc := va_free (wc := wD_ d0 s0 z0 b0 q0 t0 dhasSaved dkeptError dmoved ++ wS_ s0 v0 f0 r0 ++ wV_ v0 v_keys v_firsts v_ends v_values v_inferred v_gone cI cZ vkeys vfirsts vends vvalues vinferred vgone vmade ++ wF_ f0 f_keys f_days f_amounts f_versions cI fkeys fdays famounts fversions fcount ++ wR_ r0 r_keys r_days r_values cI rkeys rdays rvalues rcount ++ wS_ z0 w0 g0 h0 ++ wV_ w0 w_keys w_firsts w_ends w_values w_inferred w_gone cI cZ wkeys wfirsts wends wvalues winferred wgone wmade ++ wF_ g0 g_keys g_days g_amounts g_versions cI gkeys gdays gamounts gversions gcount ++ wR_ h0 h_keys h_days h_values cI hkeys hdays hvalues hcount) hD hS hA [0, 1, 2, 3, 4, 5, 6, 7, 8, 9, 10, 11, 12, 13, 14, 15, 16, 17, 18, 19, 20, 21, 22, 23, 24, 25, 26, 27, 28, 29, 30, 31, 32, 33, 34] rfl
  cases x1 with
  | error E28 =>
    by_cases c29 : E28 = "java/lang/IllegalStateException"
    · have hf := ite_T c29 hf
      subst c29
      refine vx_calli (vx_runV (As := []) (rest := [.int 0, .ref o0]) ⟨hx, hb, hml, hown, hts⟩ (c_X5_restore l dC dI cI cZ cC cJ cD hst d0 s0 z0 b0 q0 t0 v0 f0 r0 v_keys v_firsts v_ends v_values v_inferred v_gone f_keys f_days f_amounts f_versions r_keys r_days r_values w0 g0 h0 w_keys w_firsts w_ends w_values w_inferred w_gone g_keys g_days g_amounts g_versions h_keys h_days h_values s.heap.size dhasSaved dkeptError dmoved vkeys vfirsts vends vvalues vinferred vgone vmade fkeys fdays famounts fversions fcount rkeys rdays rvalues rcount wkeys wfirsts wends wvalues winferred wgone wmade gkeys gdays gamounts gversions gcount hkeys hdays hvalues hcount ((Except.error "java/lang/IllegalStateException"), (dh3, dk4, dm5), (vk6, vf7, ve8, vv9, vi10, vg11, vm12), (fk13, fd14, fa15, fv16, fc17), (rk18, rd19, rv20, rc21)) g23) (cwV 0 hts gL_restore_X5_restore rfl rfl rfl hs_X5_restore ⟨Nat.le_of_ble_eq_true rfl, Nat.le_of_ble_eq_true rfl⟩) (preVy_ (ci := 7) (q0 := 0) hPc hK hDc rfl rfl rfl rfl hS hU hN hFc hC.1) rfl rfl hl.1 rfl (lv_room (Nat.le_of_ble_eq_true rfl)) dL_restore_3 ⟨Nat.le_of_ble_eq_true rfl, Nat.le_of_ble_eq_true rfl⟩) hS (fun q _ h => hFc q h) hFc (fun q _ h => hFc q h) (fun E ce q30 u t H26 locs ht hvm hp hB hz1 hk1 hS hce hcv hcl => ?_) (fun z27 u t H26 locs ht hvm hw hB hz1 hk1 hS => ?_)
      · obtain ⟨hE, hB⟩ := hB
        cases hE
        obtain ⟨hP, hD⟩ := aft_ (Wr := wO_ o0 cJ ov) (Wc' := wD_ d0 s0 z0 b0 q0 t0 dh3 dk4 dm5 ++ wS_ s0 v0 f0 r0 ++ wV_ v0 v_keys v_firsts v_ends v_values v_inferred v_gone cI cZ vk6 vf7 ve8 vv9 vi10 vg11 vm12 ++ wF_ f0 f_keys f_days f_amounts f_versions cI fk13 fd14 fa15 fv16 fc17 ++ wR_ r0 r_keys r_days r_values cI rk18 rd19 rv20 rc21 ++ wS_ z0 w0 g0 h0 ++ wV_ w0 w_keys w_firsts w_ends w_values w_inferred w_gone cI cZ wkeys wfirsts wends wvalues winferred wgone wmade ++ wF_ g0 g_keys g_days g_amounts g_versions cI gkeys gdays gamounts gversions gcount ++ wR_ h0 h_keys h_days h_values cI hkeys hdays hvalues hcount) (W2 := wD_ d0 s0 z0 b0 q0 t0 dh3 dk4 dm5 ++ wS_ s0 v0 f0 r0 ++ wV_ v0 v_keys v_firsts v_ends v_values v_inferred v_gone cI cZ vk6 vf7 ve8 vv9 vi10 vg11 vm12 ++ wF_ f0 f_keys f_days f_amounts f_versions cI fk13 fd14 fa15 fv16 fc17 ++ wR_ r0 r_keys r_days r_values cI rk18 rd19 rv20 rc21 ++ wS_ z0 w0 g0 h0 ++ wV_ w0 w_keys w_firsts w_ends w_values w_inferred w_gone cI cZ wkeys wfirsts wends wvalues winferred wgone wmade ++ wF_ g0 g_keys g_days g_amounts g_versions cI gkeys gdays gamounts gversions gcount ++ wR_ h0 h_keys h_days h_values cI hkeys hdays hvalues hcount ++ wO_ o0 cJ ov) hP hD [0, 1, 2, 3, 4, 5, 6, 7, 8, 9, 10, 11, 12, 13, 14, 15, 16, 17, 18, 19, 20, 21, 22, 23, 24, 25, 26, 27, 28, 29, 30, 31, 32, 33, 34] [35] [1, 2, 3, 4, 5, 6, 7, 8, 9, 10, 11, 12, 13, 14, 15, 16, 17, 18, 19, 20, 21, 22, 23, 24, 25, 26, 27, 28, 29, 30, 31, 32, 33, 34, 35, 0] rfl rfl (by decide) (by decide) (by decide) hk1 hFc hB ht rfl
        refine vx_catch (name := "java/lang/IllegalStateException") hown [] ⟨0, 8, 11, 17⟩ [] (htab.trans rfl) (fun z hz => nomatch hz) (by decide +kernel) (by decide) (hts _ (List.mem_of_getElem? (i := 1) rfl)) ((hC.1.1 "java/lang/IllegalStateException" (by decide +kernel)).use rfl) hce hcv hcl ?_
        refine lv_astore_n (lv' := [(2, .ref q30), (0, .ref d0), (1, .ref o0)]) hx hb dL_restore_11 rfl hl (by decide) rfl (fun ls hl => ?_)
        refine lv_iconst (v := 1) hx hb dL_restore_12 (by decide) ?_
        have hR := Option.some.inj hf
        subst hR
        refine W.widen (k := 1) (n := 6) (Nat.le_of_ble_eq_true rfl) (Nat.le_of_ble_eq_true rfl) ?_
        exact W.iret (v := (1 : Int32)) hx hb hr (fun t ht hW => ⟨⟨(1 : Int32), (), rfl, rfl, by rw [ht]; exact hP, va_K.moved hW.alike hK, hD⟩, hS.F ht⟩) hS.2.2 dL_restore_13
      · exact absurd hw (fun h => nomatch h)
    · have hf := ite_F c29 hf
      exact absurd hf (fun h => nomatch h)
  | ok r2 =>
    refine vx_calli (vx_runV (As := []) (rest := [.int 0, .ref o0]) ⟨hx, hb, hml, hown, hts⟩ (c_X5_restore l dC dI cI cZ cC cJ cD hst d0 s0 z0 b0 q0 t0 v0 f0 r0 v_keys v_firsts v_ends v_values v_inferred v_gone f_keys f_days f_amounts f_versions r_keys r_days r_values w0 g0 h0 w_keys w_firsts w_ends w_values w_inferred w_gone g_keys g_days g_amounts g_versions h_keys h_days h_values s.heap.size dhasSaved dkeptError dmoved vkeys vfirsts vends vvalues vinferred vgone vmade fkeys fdays famounts fversions fcount rkeys rdays rvalues rcount wkeys wfirsts wends wvalues winferred wgone wmade gkeys gdays gamounts gversions gcount hkeys hdays hvalues hcount ((Except.ok r2), (dh3, dk4, dm5), (vk6, vf7, ve8, vv9, vi10, vg11, vm12), (fk13, fd14, fa15, fv16, fc17), (rk18, rd19, rv20, rc21)) g23) (cwV 0 hts gL_restore_X5_restore rfl rfl rfl hs_X5_restore ⟨Nat.le_of_ble_eq_true rfl, Nat.le_of_ble_eq_true rfl⟩) (preVy_ (ci := 7) (q0 := 0) hPc hK hDc rfl rfl rfl rfl hS hU hN hFc hC.1) rfl rfl hl.1 rfl (lv_room (Nat.le_of_ble_eq_true rfl)) dL_restore_3 ⟨Nat.le_of_ble_eq_true rfl, Nat.le_of_ble_eq_true rfl⟩) hS (fun q _ h => hFc q h) hFc (fun q _ h => hFc q h) (fun E ce q9 u t H26 locs ht hvm hp hB hz1 hk1 hS hce hcv hcl => ?_) (fun z27 u t H26 locs ht hvm hw hB hz1 hk1 hS => ?_)
    · exact absurd hB.1 (fun h => nomatch h)
    · have hw : r2 = z27 := Except.ok.inj hw
      subst hw
      obtain ⟨hP, hD⟩ := aft_ (Wr := wO_ o0 cJ ov) (Wc' := wD_ d0 s0 z0 b0 q0 t0 dh3 dk4 dm5 ++ wS_ s0 v0 f0 r0 ++ wV_ v0 v_keys v_firsts v_ends v_values v_inferred v_gone cI cZ vk6 vf7 ve8 vv9 vi10 vg11 vm12 ++ wF_ f0 f_keys f_days f_amounts f_versions cI fk13 fd14 fa15 fv16 fc17 ++ wR_ r0 r_keys r_days r_values cI rk18 rd19 rv20 rc21 ++ wS_ z0 w0 g0 h0 ++ wV_ w0 w_keys w_firsts w_ends w_values w_inferred w_gone cI cZ wkeys wfirsts wends wvalues winferred wgone wmade ++ wF_ g0 g_keys g_days g_amounts g_versions cI gkeys gdays gamounts gversions gcount ++ wR_ h0 h_keys h_days h_values cI hkeys hdays hvalues hcount) (W2 := wD_ d0 s0 z0 b0 q0 t0 dh3 dk4 dm5 ++ wS_ s0 v0 f0 r0 ++ wV_ v0 v_keys v_firsts v_ends v_values v_inferred v_gone cI cZ vk6 vf7 ve8 vv9 vi10 vg11 vm12 ++ wF_ f0 f_keys f_days f_amounts f_versions cI fk13 fd14 fa15 fv16 fc17 ++ wR_ r0 r_keys r_days r_values cI rk18 rd19 rv20 rc21 ++ wS_ z0 w0 g0 h0 ++ wV_ w0 w_keys w_firsts w_ends w_values w_inferred w_gone cI cZ wkeys wfirsts wends wvalues winferred wgone wmade ++ wF_ g0 g_keys g_days g_amounts g_versions cI gkeys gdays gamounts gversions gcount ++ wR_ h0 h_keys h_days h_values cI hkeys hdays hvalues hcount ++ wO_ o0 cJ ov) hP hD [0, 1, 2, 3, 4, 5, 6, 7, 8, 9, 10, 11, 12, 13, 14, 15, 16, 17, 18, 19, 20, 21, 22, 23, 24, 25, 26, 27, 28, 29, 30, 31, 32, 33, 34] [35] [1, 2, 3, 4, 5, 6, 7, 8, 9, 10, 11, 12, 13, 14, 15, 16, 17, 18, 19, 20, 21, 22, 23, 24, 25, 26, 27, 28, 29, 30, 31, 32, 33, 34, 35, 0] rfl rfl (by decide) (by decide) (by decide) hk1 hFc hB ht rfl
      refine lv_i2l hx hb dL_restore_6 rfl ?_
      obtain ⟨h31, hf⟩ := gd_T hf
      refine va_last hx hb hK hP hD hS 35 3 rfl rfl h31 dL_restore_7 (fun H32 locs hP hD hS => ?_)
      have hP : va_P (dC, dI) vwCl (wD_ d0 s0 z0 b0 q0 t0 dh3 dk4 dm5 ++ wS_ s0 v0 f0 r0 ++ wV_ v0 v_keys v_firsts v_ends v_values v_inferred v_gone cI cZ vk6 vf7 ve8 vv9 vi10 vg11 vm12 ++ wF_ f0 f_keys f_days f_amounts f_versions cI fk13 fd14 fa15 fv16 fc17 ++ wR_ r0 r_keys r_days r_values cI rk18 rd19 rv20 rc21 ++ wS_ z0 w0 g0 h0 ++ wV_ w0 w_keys w_firsts w_ends w_values w_inferred w_gone cI cZ wkeys wfirsts wends wvalues winferred wgone wmade ++ wF_ g0 g_keys g_days g_amounts g_versions cI gkeys gdays gamounts gversions gcount ++ wR_ h0 h_keys h_days h_values cI hkeys hdays hvalues hcount ++ wO_ o0 cJ (vp_updL ov ((0 : Int32).toNatClampNeg) r2.toInt64)) H32 := hP
      have hD : va_D A (wD_ d0 s0 z0 b0 q0 t0 dh3 dk4 dm5 ++ wS_ s0 v0 f0 r0 ++ wV_ v0 v_keys v_firsts v_ends v_values v_inferred v_gone cI cZ vk6 vf7 ve8 vv9 vi10 vg11 vm12 ++ wF_ f0 f_keys f_days f_amounts f_versions cI fk13 fd14 fa15 fv16 fc17 ++ wR_ r0 r_keys r_days r_values cI rk18 rd19 rv20 rc21 ++ wS_ z0 w0 g0 h0 ++ wV_ w0 w_keys w_firsts w_ends w_values w_inferred w_gone cI cZ wkeys wfirsts wends wvalues winferred wgone wmade ++ wF_ g0 g_keys g_days g_amounts g_versions cI gkeys gdays gamounts gversions gcount ++ wR_ h0 h_keys h_days h_values cI hkeys hdays hvalues hcount ++ wO_ o0 cJ (vp_updL ov ((0 : Int32).toNatClampNeg) r2.toInt64)) := hD
      obtain ⟨u33, e34, hf⟩ := nm_T hf
      rw [← e34] at hP hD
      refine lv_goto (tgt := 14) hx hb dL_restore_8 (by decide) ?_
      refine lv_iconst (v := 0) hx hb dL_restore_14 (by decide) ?_
      have hR := Option.some.inj hf
      subst hR
      refine W.widen (k := 1) (n := 6) (Nat.le_of_ble_eq_true rfl) (Nat.le_of_ble_eq_true rfl) ?_
      exact W.iret (v := (0 : Int32)) hx hb hr (fun t ht hW => ⟨⟨(0 : Int32), (), rfl, rfl, by rw [ht]; exact hP, va_K.moved hW.alike hK, hD⟩, hS.F ht⟩) hS.2.2 dL_restore_15
theorem hs_L_restore : yL_restore.cls ≠ "java/lang/invoke/MethodHandle" ∧ yL_restore.cls ≠ "java/lang/invoke/VarHandle" ∧ (parseMethodDescriptor yL_restore.desc).map (fun d => d.parameters.length) = some 2 := by decide +kernel
