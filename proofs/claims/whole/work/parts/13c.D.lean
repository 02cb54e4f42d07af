set_option maxRecDepth 20000 in
theorem in_X5_amountOf_X2 : ∀ w ∈ wsX20, w ∈ wsX5_amountOf := by decide +kernel
set_option maxRecDepth 20000 in
theorem in_X5_amountOf_X5 : ∀ w ∈ wsX50, w ∈ wsX5_amountOf := by decide +kernel
def f_X5_amountOf (a1 : Int32) (D_ : tD_) (S_ : tS_) (V_ : tV_) (F_ : tF_) (R_ : tR_) : Option (Except String Int64) :=
match D_ with
| (dhasSaved, dkeptError, dmoved) =>
match V_ with
| (vkeys, vfirsts, vends, vvalues, vinferred, vgone, vmade) =>
match F_ with
| (fkeys, fdays, famounts, fversions, fcount) =>
match R_ with
| (rkeys, rdays, rvalues, rcount) =>
bd_ (f_X5_checkVersion a1 (dhasSaved, dkeptError, dmoved) () (vkeys, vfirsts, vends, vvalues, vinferred, vgone, vmade) (fkeys, fdays, famounts, fversions, fcount) (rkeys, rdays, rvalues, rcount)) (fun x1 =>
match x1 with
| Except.error E9 => some (Except.error E9)
| Except.ok v2 =>
bd_ (f_X0_sumOf a1 (fkeys, fdays, famounts, fversions, fcount)) (fun r10 =>
some (Except.ok r10)))
abbrev rm_X5_amountOf : Room := { frames := 7, cells := 1, slots := 6, locals := 110 }
set_option maxHeartbeats 4000000 in
set_option maxRecDepth 100000 in
theorem c_X5_amountOf (l : Launch) (dC : Nat → ClassId) (dI : Nat → Nat → Nat) (cI cZ cC cJ cD : ClassId) (hst : l.stackTraces = false) (d0 s0 z0 b0 q0 t0 v0 f0 r0 v_keys v_firsts v_ends v_values v_inferred v_gone f_keys f_days f_amounts f_versions r_keys r_days r_values : Nat) (sz : Nat) (dhasSaved : Int32) (dkeptError : Int32) (dmoved : Int32) (vkeys : Nat → Int32) (vfirsts : Nat → Int32) (vends : Nat → Int32) (vvalues : Nat → Int32) (vinferred : Nat → Int32) (vgone : Nat → Int32) (vmade : Int32) (fkeys : Nat → Int32) (fdays : Nat → Int32) (famounts : Nat → Int32) (fversions : Nat → Int32) (fcount : Int32) (rkeys : Nat → Int32) (rdays : Nat → Int32) (rvalues : Nat → Int32) (rcount : Int32) (a1 : Int32) (R : Except String Int64) (hf : f_X5_amountOf a1 (dhasSaved, dkeptError, dmoved) () (vkeys, vfirsts, vends, vvalues, vinferred, vgone, vmade) (fkeys, fdays, famounts, fversions, fcount) (rkeys, rdays, rvalues, rcount) = some R) : vx_Met l yX5_amountOf wsX5_amountOf rm_X5_amountOf (Py_ (dC, dI) (ty_ cI cZ cC cJ cD) (wD_ d0 s0 z0 b0 q0 t0 dhasSaved dkeptError dmoved ++ wS_ s0 v0 f0 r0 ++ wV_ v0 v_keys v_firsts v_ends v_values v_inferred v_gone cI cZ vkeys vfirsts vends vvalues vinferred vgone vmade ++ wF_ f0 f_keys f_days f_amounts f_versions cI fkeys fdays famounts fversions fcount ++ wR_ r0 r_keys r_days r_values cI rkeys rdays rvalues rcount) sz [.ref d0, .int a1]) (Xl_ (dC, dI) (ty_ cI cZ cC cJ cD) R (wD_ d0 s0 z0 b0 q0 t0 dhasSaved dkeptError dmoved ++ wS_ s0 v0 f0 r0 ++ wV_ v0 v_keys v_firsts v_ends v_values v_inferred v_gone cI cZ vkeys vfirsts vends vvalues vinferred vgone vmade ++ wF_ f0 f_keys f_days f_amounts f_versions cI fkeys fdays famounts fversions fcount ++ wR_ r0 r_keys r_days r_values cI rkeys rdays rvalues rcount) (va_A (wD_ d0 s0 z0 b0 q0 t0 dhasSaved dkeptError dmoved ++ wS_ s0 v0 f0 r0 ++ wV_ v0 v_keys v_firsts v_ends v_values v_inferred v_gone cI cZ vkeys vfirsts vends vvalues vinferred vgone vmade ++ wF_ f0 f_keys f_days f_amounts f_versions cI fkeys fdays famounts fversions fcount ++ wR_ r0 r_keys r_days r_values cI rkeys rdays rvalues rcount) sz)) (XX_ (dC, dI) (ty_ cI cZ cC cJ cD) R (wD_ d0 s0 z0 b0 q0 t0 dhasSaved dkeptError dmoved ++ wS_ s0 v0 f0 r0 ++ wV_ v0 v_keys v_firsts v_ends v_values v_inferred v_gone cI cZ vkeys vfirsts vends vvalues vinferred vgone vmade ++ wF_ f0 f_keys f_days f_amounts f_versions cI fkeys fdays famounts fversions fcount ++ wR_ r0 r_keys r_days r_values cI rkeys rdays rvalues rcount) (va_A (wD_ d0 s0 z0 b0 q0 t0 dhasSaved dkeptError dmoved ++ wS_ s0 v0 f0 r0 ++ wV_ v0 v_keys v_firsts v_ends v_values v_inferred v_gone cI cZ vkeys vfirsts vends vvalues vinferred vgone vmade ++ wF_ f0 f_keys f_days f_amounts f_versions cI fkeys fdays famounts fversions fcount ++ wR_ r0 r_keys r_days r_values cI rkeys rdays rvalues rcount) sz)) 1 6 (va_A (wD_ d0 s0 z0 b0 q0 t0 dhasSaved dkeptError dmoved ++ wS_ s0 v0 f0 r0 ++ wV_ v0 v_keys v_firsts v_ends v_values v_inferred v_gone cI cZ vkeys vfirsts vends vvalues vinferred vgone vmade ++ wF_ f0 f_keys f_days f_amounts f_versions cI fkeys fdays famounts fversions fcount ++ wR_ r0 r_keys r_days r_values cI rkeys rdays rvalues rcount) sz) := by
  refine mety_ (cc := cX5_amountOf) (maxL := 2) (ret := (some .long)) (Qcf := fun A => Xl_ (dC, dI) (ty_ cI cZ cC cJ cD) R (wD_ d0 s0 z0 b0 q0 t0 dhasSaved dkeptError dmoved ++ wS_ s0 v0 f0 r0 ++ wV_ v0 v_keys v_firsts v_ends v_values v_inferred v_gone cI cZ vkeys vfirsts vends vvalues vinferred vgone vmade ++ wF_ f0 f_keys f_days f_amounts f_versions cI fkeys fdays famounts fversions fcount ++ wR_ r0 r_keys r_days r_values cI rkeys rdays rvalues rcount) A) (XCf := fun A => XX_ (dC, dI) (ty_ cI cZ cC cJ cD) R (wD_ d0 s0 z0 b0 q0 t0 dhasSaved dkeptError dmoved ++ wS_ s0 v0 f0 r0 ++ wV_ v0 v_keys v_firsts v_ends v_values v_inferred v_gone cI cZ vkeys vfirsts vends vvalues vinferred vgone vmade ++ wF_ f0 f_keys f_days f_amounts f_versions cI fkeys fdays famounts fversions fcount ++ wR_ r0 r_keys r_days r_values cI rkeys rdays rvalues rcount) A) (by decide) rfl (Nat.le_of_ble_eq_true rfl) ?_
  intro p e s m args below meth c A ls hx hb hr hts hown hlocks hml htab hA hU hN hC hP hK hD hl
  have hown : s.vm.findClass RX5 = some m.cls := hown
  have hl : lv_has ls 2 [(0, .ref d0), (1, .int a1)] := hl
  have hS : va_S A s.heap s.heap [] := va_S.rf
  have fl10_ : (Cond.fieldLink RX5 10 "DimensionLoader" "live" "LDimensionLoader$Store;").before args s = true := hts _ (List.mem_of_getElem? (i := 1) rfl)
  have fl64_ : (Cond.fieldLink RX5 64 "DimensionLoader$Store" "facts" "LDimensionLoader$Facts;").before args s = true := hts _ (List.mem_of_getElem? (i := 2) rfl)
  have inX2_ : ∀ w ∈ wsX20, w ∈ wsX5_amountOf := in_X5_amountOf_X2
  have inX5_ : ∀ w ∈ wsX50, w ∈ wsX5_amountOf := in_X5_amountOf_X5
  unfold f_X5_amountOf at hf
  dsimp only at hf
  refine lv_aload_n hx hb dX5_amountOf_0 rfl (lv_at hl 0 rfl) ?_
  refine lv_iload_n hx hb dX5_amountOf_1 rfl (lv_at hl 1 rfl) ?_
  obtain ⟨R3, g4, hf⟩ := bd_B hf
  obtain ⟨x1, rfl⟩ : ∃ z, z = R3 := ⟨_, rfl⟩
  have hPc := hP
  have hDc := hD
  have hFc := va_free (wc := wD_ d0 s0 z0 b0 q0 t0 dhasSaved dkeptError dmoved ++ wS_ s0 v0 f0 r0 ++ wV_ v0 v_keys v_firsts v_ends v_values v_inferred v_gone cI cZ vkeys vfirsts vends vvalues vinferred vgone vmade ++ wF_ f0 f_keys f_days f_amounts f_versions cI fkeys fdays famounts fversions fcount ++ wR_ r0 r_keys r_days r_values cI rkeys rdays rvalues rcount) hD hS hA [0, 1, 2, 3, 4, 5, 6, 7, 8, 9, 10, 11, 12, 13, 14, 15, 16, 17] rfl
  cases x1 with
  | error E9 =>
    have hR := Option.some.inj hf
    subst hR
    refine vx_callv (vx_runV (As := [.int a1]) (rest := []) ⟨hx, hb, hml, hown, hts⟩ (c_X5_checkVersion l dC dI cI cZ cC cJ cD hst d0 s0 z0 b0 q0 t0 v0 f0 r0 v_keys v_firsts v_ends v_values v_inferred v_gone f_keys f_days f_amounts f_versions r_keys r_days r_values s.heap.size dhasSaved dkeptError dmoved vkeys vfirsts vends vvalues vinferred vgone vmade fkeys fdays famounts fversions fcount rkeys rdays rvalues rcount a1 (Except.error E9) g4) (cwV 1 hts gX5_amountOf_X5_checkVersion rfl rfl rfl hs_X5_checkVersion ⟨Nat.le_of_ble_eq_true rfl, Nat.le_of_ble_eq_true rfl⟩) (preVy_ (ci := 7) (q0 := 0) hPc hK hDc rfl rfl rfl rfl hS hU hN hFc hC) rfl rfl hl.1 rfl (lv_room (Nat.le_of_ble_eq_true rfl)) dX5_amountOf_2 ⟨Nat.le_of_ble_eq_true rfl, Nat.le_of_ble_eq_true rfl⟩) hS (fun q _ h => hFc q h) hFc (fun q _ h => hFc q h) (fun E ce q9 u t H7 locs ht hvm hp hB hz1 hk1 hS hce hcv hcl => ?_) (fun u t H7 locs ht hvm hw hB hz1 hk1 hS => ?_)
    · obtain ⟨hE, hB⟩ := hB
      cases hE
      obtain ⟨hP, hD⟩ := aft_ (Wr := []) (Wc' := wD_ d0 s0 z0 b0 q0 t0 dhasSaved dkeptError dmoved ++ wS_ s0 v0 f0 r0 ++ wV_ v0 v_keys v_firsts v_ends v_values v_inferred v_gone cI cZ vkeys vfirsts vends vvalues vinferred vgone vmade ++ wF_ f0 f_keys f_days f_amounts f_versions cI fkeys fdays famounts fversions fcount ++ wR_ r0 r_keys r_days r_values cI rkeys rdays rvalues rcount) (W2 := wD_ d0 s0 z0 b0 q0 t0 dhasSaved dkeptError dmoved ++ wS_ s0 v0 f0 r0 ++ wV_ v0 v_keys v_firsts v_ends v_values v_inferred v_gone cI cZ vkeys vfirsts vends vvalues vinferred vgone vmade ++ wF_ f0 f_keys f_days f_amounts f_versions cI fkeys fdays famounts fversions fcount ++ wR_ r0 r_keys r_days r_values cI rkeys rdays rvalues rcount) hP hD [0, 1, 2, 3, 4, 5, 6, 7, 8, 9, 10, 11, 12, 13, 14, 15, 16, 17] [] [0, 1, 2, 3, 4, 5, 6, 7, 8, 9, 10, 11, 12, 13, 14, 15, 16, 17] rfl rfl (by decide) (by decide) (by decide) hk1 hFc hB ht rfl
      exact vx_out (fun x h => (htab x h).elim) hlocks hce hcv hcl (thr2_ hS hP hK hD rfl) hS.2.2 (Nat.le_of_ble_eq_true rfl) (Nat.le_of_ble_eq_true rfl)
    · exact absurd hw (fun h => nomatch h)
  | ok v2 =>
    refine vx_callv (vx_runV (As := [.int a1]) (rest := []) ⟨hx, hb, hml, hown, hts⟩ (c_X5_checkVersion l dC dI cI cZ cC cJ cD hst d0 s0 z0 b0 q0 t0 v0 f0 r0 v_keys v_firsts v_ends v_values v_inferred v_gone f_keys f_days f_amounts f_versions r_keys r_days r_values s.heap.size dhasSaved dkeptError dmoved vkeys vfirsts vends vvalues vinferred vgone vmade fkeys fdays famounts fversions fcount rkeys rdays rvalues rcount a1 (Except.ok ()) g4) (cwV 1 hts gX5_amountOf_X5_checkVersion rfl rfl rfl hs_X5_checkVersion ⟨Nat.le_of_ble_eq_true rfl, Nat.le_of_ble_eq_true rfl⟩) (preVy_ (ci := 7) (q0 := 0) hPc hK hDc rfl rfl rfl rfl hS hU hN hFc hC) rfl rfl hl.1 rfl (lv_room (Nat.le_of_ble_eq_true rfl)) dX5_amountOf_2 ⟨Nat.le_of_ble_eq_true rfl, Nat.le_of_ble_eq_true rfl⟩) hS (fun q _ h => hFc q h) hFc (fun q _ h => hFc q h) (fun E ce q9 u t H7 locs ht hvm hp hB hz1 hk1 hS hce hcv hcl => ?_) (fun u t H7 locs ht hvm hw hB hz1 hk1 hS => ?_)
    · exact absurd hB.1 (fun h => nomatch h)
    · obtain ⟨hP, hD⟩ := aft_ (Wr := []) (Wc' := wD_ d0 s0 z0 b0 q0 t0 dhasSaved dkeptError dmoved ++ wS_ s0 v0 f0 r0 ++ wV_ v0 v_keys v_firsts v_ends v_values v_inferred v_gone cI cZ vkeys vfirsts vends vvalues vinferred vgone vmade ++ wF_ f0 f_keys f_days f_amounts f_versions cI fkeys fdays famounts fversions fcount ++ wR_ r0 r_keys r_days r_values cI rkeys rdays rvalues rcount) (W2 := wD_ d0 s0 z0 b0 q0 t0 dhasSaved dkeptError dmoved ++ wS_ s0 v0 f0 r0 ++ wV_ v0 v_keys v_firsts v_ends v_values v_inferred v_gone cI cZ vkeys vfirsts vends vvalues vinferred vgone vmade ++ wF_ f0 f_keys f_days f_amounts f_versions cI fkeys fdays famounts fversions fcount ++ wR_ r0 r_keys r_days r_values cI rkeys rdays rvalues rcount) hP hD [0, 1, 2, 3, 4, 5, 6, 7, 8, 9, 10, 11, 12, 13, 14, 15, 16, 17] [] [0, 1, 2, 3, 4, 5, 6, 7, 8, 9, 10, 11, 12, 13, 14, 15, 16, 17] rfl rfl (by decide) (by decide) (by decide) hk1 hFc hB ht rfl
      refine lv_aload_n hx hb dX5_amountOf_5 rfl (lv_at hl 0 rfl) ?_
      refine va_get (D := (dC, dI)) (ci := 7) (v := .ref s0) (C := RX5) (T := TX5) (N := 8) hx hb hts inX5_ hown hK hP 0 rfl rfl 0 (by decide) fl10_ (fun _ h9 => h9) rfl dX5_amountOf_6 ?_
      refine va_get (D := (dC, dI)) (ci := 4) (v := .ref f0) (C := RX2) (T := TX2) (N := 3) hx hb hts inX2_ hown hK hP 1 rfl rfl 1 (by decide) fl64_ (fun _ h9 => h9) rfl dX5_amountOf_9 ?_
      refine lv_iload_n hx hb dX5_amountOf_12 rfl (lv_at hl 1 rfl) ?_
      obtain ⟨R11, g12, hf⟩ := bd_B hf
      obtain ⟨r10, rfl⟩ : ∃ z, z = R11 := ⟨_, rfl⟩
      have hPc := hP.sub (ws' := wF_ f0 f_keys f_days f_amounts f_versions cI fkeys fdays famounts fversions fcount) [9, 10, 11, 12, 13] rfl
      have hDc := hD.sub (ws' := wF_ f0 f_keys f_days f_amounts f_versions cI fkeys fdays famounts fversions fcount) [9, 10, 11, 12, 13] (by decide) rfl
      have hFc := va_free (wc := wF_ f0 f_keys f_days f_amounts f_versions cI fkeys fdays famounts fversions fcount) hD hS hA [9, 10, 11, 12, 13] rfl
      refine va_calll (va_runV (As := [.int a1]) (rest := []) ⟨hx, hb, hml, hown, hts⟩ (c_X0_sumOf l dC dI cI cZ cC cJ cD f0 f_keys f_days f_amounts f_versions H7.size fkeys fdays famounts fversions fcount a1 r10 g12) (cwV 1 hts gX5_amountOf_X0_sumOf rfl rfl rfl hs_X0_sumOf ⟨Nat.le_of_ble_eq_true rfl, Nat.le_of_ble_eq_true rfl⟩) (preV_ (ci := 2) (q0 := 0) hPc hK hDc rfl rfl rfl rfl) rfl rfl hl.1 rfl (lv_room (Nat.le_of_ble_eq_true rfl)) dX5_amountOf_13 ⟨Nat.le_of_ble_eq_true rfl, Nat.le_of_ble_eq_true rfl⟩) hS (fun q _ h => hFc q h) hFc (fun z14 u t H13 locs ht hvm hw hB hz1 hk1 hS => ?_)
      have hw : r10 = z14 := hw.symm
      subst hw
      obtain ⟨hP, hD⟩ := aft_ (Wr := wD_ d0 s0 z0 b0 q0 t0 dhasSaved dkeptError dmoved ++ wS_ s0 v0 f0 r0 ++ wV_ v0 v_keys v_firsts v_ends v_values v_inferred v_gone cI cZ vkeys vfirsts vends vvalues vinferred vgone vmade ++ wR_ r0 r_keys r_days r_values cI rkeys rdays rvalues rcount) (Wc' := wF_ f0 f_keys f_days f_amounts f_versions cI fkeys fdays famounts fversions fcount) (W2 := wD_ d0 s0 z0 b0 q0 t0 dhasSaved dkeptError dmoved ++ wS_ s0 v0 f0 r0 ++ wV_ v0 v_keys v_firsts v_ends v_values v_inferred v_gone cI cZ vkeys vfirsts vends vvalues vinferred vgone vmade ++ wF_ f0 f_keys f_days f_amounts f_versions cI fkeys fdays famounts fversions fcount ++ wR_ r0 r_keys r_days r_values cI rkeys rdays rvalues rcount) hP hD [9, 10, 11, 12, 13] [0, 1, 2, 3, 4, 5, 6, 7, 8, 14, 15, 16, 17] [0, 1, 2, 3, 4, 5, 6, 7, 8, 13, 14, 15, 16, 17, 9, 10, 11, 12] rfl rfl (by decide) (by decide) (by decide) hk1 hFc hB ht rfl
      have hR := Option.some.inj hf
      subst hR
      refine vx_ret (W.widen (k := 1) (n := 6) (Nat.le_of_ble_eq_true rfl) (Nat.le_of_ble_eq_true rfl) ?_)
      exact W.lret (v := r10) hx hb hr (fun t ht hW => ⟨⟨r10, (), rfl, rfl, by rw [ht]; exact hP, va_K.moved hW.alike hK, hD⟩, hS.F ht⟩) hS.2.2 dX5_amountOf_16
theorem hs_X5_amountOf : yX5_amountOf.cls = RX5 ∧ yX5_amountOf.cls ≠ "java/lang/invoke/MethodHandle" ∧ yX5_amountOf.cls ≠ "java/lang/invoke/VarHandle" ∧ (parseMethodDescriptor yX5_amountOf.desc).map (fun d => d.parameters.length) = some 1 := by decide +kernel
set_option maxRecDepth 20000 in
theorem in_X5_amountFor_X2 : ∀ w ∈ wsX20, w ∈ wsX5_amountFor := by decide +kernel
set_option maxRecDepth 20000 in
theorem in_X5_amountFor_X4 : ∀ w ∈ wsX40, w ∈ wsX5_amountFor := by decide +kernel
set_option maxRecDepth 20000 in
theorem in_X5_amountFor_X5 : ∀ w ∈ wsX50, w ∈ wsX5_amountFor := by decide +kernel
def f_X5_amountFor_S18 (k_ : Int32 → Int64 → Int32 → Int32 → tD_ → tS_ → tV_ → tF_ → tR_ → Option (Except String Int64)) (l6 : Int32) (l4 : Int64) (l1 : Int32) (l2 : Int32) (D_ : tD_) (S_ : tS_) (V_ : tV_) (F_ : tF_) (R_ : tR_) : Option (Except String Int64) :=
match D_ with
| (dhasSaved, dkeptError, dmoved) =>
match V_ with
| (vkeys, vfirsts, vends, vvalues, vinferred, vgone, vmade) =>
match F_ with
| (fkeys, fdays, famounts, fversions, fcount) =>
match R_ with
| (rkeys, rdays, rvalues, rcount) =>
if vmade ≤ l6 then
some (Except.ok l4)
else
bd_ (f_X4_isOf l6 l1 (vkeys, vfirsts, vends, vvalues, vinferred, vgone, vmade)) (fun r12 =>
if r12 = 0 then
k_ (l6 + 1) l4 l1 l2 (dhasSaved, dkeptError, dmoved) () (vkeys, vfirsts, vends, vvalues, vinferred, vgone, vmade) (fkeys, fdays, famounts, fversions, fcount) (rkeys, rdays, rvalues, rcount)
else
gd_ l6 60 (
if (vvalues l6.toNatClampNeg) = l2 then
bd_ (f_X0_sumOf l6 (fkeys, fdays, famounts, fversions, fcount)) (fun r20 =>
k_ (l6 + 1) (l4 + r20) l1 l2 (dhasSaved, dkeptError, dmoved) () (vkeys, vfirsts, vends, vvalues, vinferred, vgone, vmade) (fkeys, fdays, famounts, fversions, fcount) (rkeys, rdays, rvalues, rcount))
else
k_ (l6 + 1) l4 l1 l2 (dhasSaved, dkeptError, dmoved) () (vkeys, vfirsts, vends, vvalues, vinferred, vgone, vmade) (fkeys, fdays, famounts, fversions, fcount) (rkeys, rdays, rvalues, rcount)))
def f_X5_amountFor_L18 : Nat → Int32 → Int64 → Int32 → Int32 → tD_ → tS_ → tV_ → tF_ → tR_ → Option (Except String Int64)
  | 0 => fun _ _ _ _ _ _ _ _ _ => none
  | n + 1 => fun l6 l4 l1 l2 D_ S_ V_ F_ R_ => f_X5_amountFor_S18 (f_X5_amountFor_L18 n) l6 l4 l1 l2 D_ S_ V_ F_ R_
def f_X5_amountFor (a1 : Int32) (a2 : Int32) (D_ : tD_) (S_ : tS_) (V_ : tV_) (F_ : tF_) (R_ : tR_) : Option (Except String Int64) :=
match D_ with
| (dhasSaved, dkeptError, dmoved) =>
match V_ with
| (vkeys, vfirsts, vends, vvalues, vinferred, vgone, vmade) =>
match F_ with
| (fkeys, fdays, famounts, fversions, fcount) =>
match R_ with
| (rkeys, rdays, rvalues, rcount) =>
bd_ (f_X5_checkKey a1) (fun x1 =>
match x1 with
| Except.error E9 => some (Except.error E9)
| Except.ok v2 =>
f_X5_amountFor_L18 fu_ (0 : Int32) (0 : Int64) a1 a2 (dhasSaved, dkeptError, dmoved) () (vkeys, vfirsts, vends, vvalues, vinferred, vgone, vmade) (fkeys, fdays, famounts, fversions, fcount) (rkeys, rdays, rvalues, rcount))
abbrev rm_X5_amountFor : Room := { frames := 7, cells := 1, slots := 6, locals := 109 }
set_option maxHeartbeats 4000000 in
set_option maxRecDepth 100000 in
theorem c_X5_amountFor (l : Launch) (dC : Nat → ClassId) (dI : Nat → Nat → Nat) (cI cZ cC cJ cD : ClassId) (hst : l.stackTraces = false) (d0 s0 z0 b0 q0 t0 v0 f0 r0 v_keys v_firsts v_ends v_values v_inferred v_gone f_keys f_days f_amounts f_versions r_keys r_days r_values : Nat) (sz : Nat) (dhasSaved : Int32) (dkeptError : Int32) (dmoved : Int32) (vkeys : Nat → Int32) (vfirsts : Nat → Int32) (vends : Nat → Int32) (vvalues : Nat → Int32) (vinferred : Nat → Int32) (vgone : Nat → Int32) (vmade : Int32) (fkeys : Nat → Int32) (fdays : Nat → Int32) (famounts : Nat → Int32) (fversions : Nat → Int32) (fcount : Int32) (rkeys : Nat → Int32) (rdays : Nat → Int32) (rvalues : Nat → Int32) (rcount : Int32) (a1 : Int32) (a2 : Int32) (R : Except String Int64) (hf : f_X5_amountFor a1 a2 (dhasSaved, dkeptError, dmoved) () (vkeys, vfirsts, vends, vvalues, vinferred, vgone, vmade) (fkeys, fdays, famounts, fversions, fcount) (rkeys, rdays, rvalues, rcount) = some R) : vx_Met l yX5_amountFor wsX5_amountFor rm_X5_amountFor (Py_ (dC, dI) (ty_ cI cZ cC cJ cD) (wD_ d0 s0 z0 b0 q0 t0 dhasSaved dkeptError dmoved ++ wS_ s0 v0 f0 r0 ++ wV_ v0 v_keys v_firsts v_ends v_values v_inferred v_gone cI cZ vkeys vfirsts vends vvalues vinferred vgone vmade ++ wF_ f0 f_keys f_days f_amounts f_versions cI fkeys fdays famounts fversions fcount ++ wR_ r0 r_keys r_days r_values cI rkeys rdays rvalues rcount) sz [.ref d0, .int a1, .int a2]) (Xl_ (dC, dI) (ty_ cI cZ cC cJ cD) R (wD_ d0 s0 z0 b0 q0 t0 dhasSaved dkeptError dmoved ++ wS_ s0 v0 f0 r0 ++ wV_ v0 v_keys v_firsts v_ends v_values v_inferred v_gone cI cZ vkeys vfirsts vends vvalues vinferred vgone vmade ++ wF_ f0 f_keys f_days f_amounts f_versions cI fkeys fdays famounts fversions fcount ++ wR_ r0 r_keys r_days r_values cI rkeys rdays rvalues rcount) (va_A (wD_ d0 s0 z0 b0 q0 t0 dhasSaved dkeptError dmoved ++ wS_ s0 v0 f0 r0 ++ wV_ v0 v_keys v_firsts v_ends v_values v_inferred v_gone cI cZ vkeys vfirsts vends vvalues vinferred vgone vmade ++ wF_ f0 f_keys f_days f_amounts f_versions cI fkeys fdays famounts fversions fcount ++ wR_ r0 r_keys r_days r_values cI rkeys rdays rvalues rcount) sz)) (XX_ (dC, dI) (ty_ cI cZ cC cJ cD) R (wD_ d0 s0 z0 b0 q0 t0 dhasSaved dkeptError dmoved ++ wS_ s0 v0 f0 r0 ++ wV_ v0 v_keys v_firsts v_ends v_values v_inferred v_gone cI cZ vkeys vfirsts vends vvalues vinferred vgone vmade ++ wF_ f0 f_keys f_days f_amounts f_versions cI fkeys fdays famounts fversions fcount ++ wR_ r0 r_keys r_days r_values cI rkeys rdays rvalues rcount) (va_A (wD_ d0 s0 z0 b0 q0 t0 dhasSaved dkeptError dmoved ++ wS_ s0 v0 f0 r0 ++ wV_ v0 v_keys v_firsts v_ends v_values v_inferred v_gone cI cZ vkeys vfirsts vends vvalues vinferred vgone vmade ++ wF_ f0 f_keys f_days f_amounts f_versions cI fkeys fdays famounts fversions fcount ++ wR_ r0 r_keys r_days r_values cI rkeys rdays rvalues rcount) sz)) 1 6 (va_A (wD_ d0 s0 z0 b0 q0 t0 dhasSaved dkeptError dmoved ++ wS_ s0 v0 f0 r0 ++ wV_ v0 v_keys v_firsts v_ends v_values v_inferred v_gone cI cZ vkeys vfirsts vends vvalues vinferred vgone vmade ++ wF_ f0 f_keys f_days f_amounts f_versions cI fkeys fdays famounts fversions fcount ++ wR_ r0 r_keys r_days r_values cI rkeys rdays rvalues rcount) sz) := by
  refine mety_ (cc := cX5_amountFor) (maxL := 7) (ret := (some .long)) (Qcf := fun A => Xl_ (dC, dI) (ty_ cI cZ cC cJ cD) R (wD_ d0 s0 z0 b0 q0 t0 dhasSaved dkeptError dmoved ++ wS_ s0 v0 f0 r0 ++ wV_ v0 v_keys v_firsts v_ends v_values v_inferred v_gone cI cZ vkeys vfirsts vends vvalues vinferred vgone vmade ++ wF_ f0 f_keys f_days f_amounts f_versions cI fkeys fdays famounts fversions fcount ++ wR_ r0 r_keys r_days r_values cI rkeys rdays rvalues rcount) A) (XCf := fun A => XX_ (dC, dI) (ty_ cI cZ cC cJ cD) R (wD_ d0 s0 z0 b0 q0 t0 dhasSaved dkeptError dmoved ++ wS_ s0 v0 f0 r0 ++ wV_ v0 v_keys v_firsts v_ends v_values v_inferred v_gone cI cZ vkeys vfirsts vends vvalues vinferred vgone vmade ++ wF_ f0 f_keys f_days f_amounts f_versions cI fkeys fdays famounts fversions fcount ++ wR_ r0 r_keys r_days r_values cI rkeys rdays rvalues rcount) A) (by decide) rfl (Nat.le_of_ble_eq_true rfl) ?_
  intro p e s m args below meth c A ls hx hb hr hts hown hlocks hml htab hA hU hN hC hP hK hD hl
  have hown : s.vm.findClass RX5 = some m.cls := hown
  have hl : lv_has ls 7 [(0, .ref d0), (1, .int a1), (2, .int a2)] := hl
  have hS : va_S A s.heap s.heap [] := va_S.rf
  have fl10_ : (Cond.fieldLink RX5 10 "DimensionLoader" "live" "LDimensionLoader$Store;").before args s = true := hts _ (List.mem_of_getElem? (i := 1) rfl)
  have fl51_ : (Cond.fieldLink RX5 51 "DimensionLoader$Store" "versions" "LDimensionLoader$Versions;").before args s = true := hts _ (List.mem_of_getElem? (i := 2) rfl)
  have fl64_ : (Cond.fieldLink RX5 64 "DimensionLoader$Store" "facts" "LDimensionLoader$Facts;").before args s = true := hts _ (List.mem_of_getElem? (i := 5) rfl)
  have fl102_ : (Cond.fieldLink RX5 102 "DimensionLoader$Versions" "values" "[I").before args s = true := hts _ (List.mem_of_getElem? (i := 4) rfl)
  have fl164_ : (Cond.fieldLink RX5 164 "DimensionLoader$Versions" "made" "I").before args s = true := hts _ (List.mem_of_getElem? (i := 3) rfl)
  have inX2_ : ∀ w ∈ wsX20, w ∈ wsX5_amountFor := in_X5_amountFor_X2
  have inX4_ : ∀ w ∈ wsX40, w ∈ wsX5_amountFor := in_X5_amountFor_X4
  have inX5_ : ∀ w ∈ wsX50, w ∈ wsX5_amountFor := in_X5_amountFor_X5
  unfold f_X5_amountFor at hf
  dsimp only at hf
  refine lv_iload_n hx hb dX5_amountFor_0 rfl (lv_at hl 1 rfl) ?_
  obtain ⟨R3, g4, hf⟩ := bd_B hf
  obtain ⟨x1, rfl⟩ : ∃ z, z = R3 := ⟨_, rfl⟩
  have hPc := hP.sub (ws' := []) [] rfl
  have hDc := hD.sub (ws' := []) [] (by decide) rfl
  have hFc := va_free (wc := []) hD hS hA [] rfl
  cases x1 with
  | error E9 =>
    have hR := Option.some.inj hf
    subst hR
    refine vx_callv (vx_runS (As := [.int a1]) (rest := []) ⟨hx, hb, hml, hown, hts⟩ (c_X5_checkKey l dC dI cI cZ cC cJ cD hst s.heap.size a1 (Except.error E9) g4) (cwS 1 hts gX5_amountFor_X5_checkKey rfl rfl rfl hs_X5_checkKey ⟨Nat.le_of_ble_eq_true rfl, Nat.le_of_ble_eq_true rfl⟩) (preSy_ hPc hK hDc rfl hS hU hN hFc hC) rfl rfl hl.1 rfl (lv_room (Nat.le_of_ble_eq_true rfl)) dX5_amountFor_1 ⟨Nat.le_of_ble_eq_true rfl, Nat.le_of_ble_eq_true rfl⟩) hS (fun q _ h => hFc q h) hFc (fun q _ h => hFc q h) (fun E ce q9 u t H7 locs ht hvm hp hB hz1 hk1 hS hce hcv hcl => ?_) (fun u t H7 locs ht hvm hw hB hz1 hk1 hS => ?_)
    · obtain ⟨hE, hB⟩ := hB
      cases hE
      obtain ⟨hP, hD⟩ := aft_ (Wr := wD_ d0 s0 z0 b0 q0 t0 dhasSaved dkeptError dmoved ++ wS_ s0 v0 f0 r0 ++ wV_ v0 v_keys v_firsts v_ends v_values v_inferred v_gone cI cZ vkeys vfirsts vends vvalues vinferred vgone vmade ++ wF_ f0 f_keys f_days f_amounts f_versions cI fkeys fdays famounts fversions fcount ++ wR_ r0 r_keys r_days r_values cI rkeys rdays rvalues rcount) (Wc' := []) (W2 := wD_ d0 s0 z0 b0 q0 t0 dhasSaved dkeptError dmoved ++ wS_ s0 v0 f0 r0 ++ wV_ v0 v_keys v_firsts v_ends v_values v_inferred v_gone cI cZ vkeys vfirsts vends vvalues vinferred vgone vmade ++ wF_ f0 f_keys f_days f_amounts f_versions cI fkeys fdays famounts fversions fcount ++ wR_ r0 r_keys r_days r_values cI rkeys rdays rvalues rcount) hP hD [] [0, 1, 2, 3, 4, 5, 6, 7, 8, 9, 10, 11, 12, 13, 14, 15, 16, 17] [0, 1, 2, 3, 4, 5, 6, 7, 8, 9, 10, 11, 12, 13, 14, 15, 16, 17] rfl rfl (by decide) (by decide) (by decide) hk1 hFc hB ht rfl
      exact vx_out (fun x h => (htab x h).elim) hlocks hce hcv hcl (thr2_ hS hP hK hD rfl) hS.2.2 (Nat.le_of_ble_eq_true rfl) (Nat.le_of_ble_eq_true rfl)
    · exact absurd hw (fun h => nomatch h)
  | ok v2 =>
    refine vx_callv (vx_runS (As := [.int a1]) (rest := []) ⟨hx, hb, hml, hown, hts⟩ (c_X5_checkKey l dC dI cI cZ cC cJ cD hst s.heap.size a1 (Except.ok ()) g4) (cwS 1 hts gX5_amountFor_X5_checkKey rfl rfl rfl hs_X5_checkKey ⟨Nat.le_of_ble_eq_true rfl, Nat.le_of_ble_eq_true rfl⟩) (preSy_ hPc hK hDc rfl hS hU hN hFc hC) rfl rfl hl.1 rfl (lv_room (Nat.le_of_ble_eq_true rfl)) dX5_amountFor_1 ⟨Nat.le_of_ble_eq_true rfl, Nat.le_of_ble_eq_true rfl⟩) hS (fun q _ h => hFc q h) hFc (fun q _ h => hFc q h) (fun E ce q9 u t H7 locs ht hvm hp hB hz1 hk1 hS hce hcv hcl => ?_) (fun u t H7 locs ht hvm hw hB hz1 hk1 hS => ?_)
    · exact absurd hB.1 (fun h => nomatch h)
    · obtain ⟨hP, hD⟩ := aft_ (Wr := wD_ d0 s0 z0 b0 q0 t0 dhasSaved dkeptError dmoved ++ wS_ s0 v0 f0 r0 ++ wV_ v0 v_keys v_firsts v_ends v_values v_inferred v_gone cI cZ vkeys vfirsts vends vvalues vinferred vgone vmade ++ wF_ f0 f_keys f_days f_amounts f_versions cI fkeys fdays famounts fversions fcount ++ wR_ r0 r_keys r_days r_values cI rkeys rdays rvalues rcount) (Wc' := []) (W2 := wD_ d0 s0 z0 b0 q0 t0 dhasSaved dkeptError dmoved ++ wS_ s0 v0 f0 r0 ++ wV_ v0 v_keys v_firsts v_ends v_values v_inferred v_gone cI cZ vkeys vfirsts vends vvalues vinferred vgone vmade ++ wF_ f0 f_keys f_days f_amounts f_versions cI fkeys fdays famounts fversions fcount ++ wR_ r0 r_keys r_days r_values cI rkeys rdays rvalues rcount) hP hD [] [0, 1, 2, 3, 4, 5, 6, 7, 8, 9, 10, 11, 12, 13, 14, 15, 16, 17] [0, 1, 2, 3, 4, 5, 6, 7, 8, 9, 10, 11, 12, 13, 14, 15, 16, 17] rfl rfl (by decide) (by decide) (by decide) hk1 hFc hB ht rfl
      refine lv_aload_n hx hb dX5_amountFor_4 rfl (lv_at hl 0 rfl) ?_
      refine va_get (D := (dC, dI)) (ci := 7) (v := .ref s0) (C := RX5) (T := TX5) (N := 8) hx hb hts inX5_ hown hK hP 0 rfl rfl 0 (by decide) fl10_ (fun _ h9 => h9) rfl dX5_amountFor_5 ?_
      refine va_get (D := (dC, dI)) (ci := 4) (v := .ref v0) (C := RX2) (T := TX2) (N := 3) hx hb hts inX2_ hown hK hP 1 rfl rfl 0 (by decide) fl51_ (fun _ h9 => h9) rfl dX5_amountFor_8 ?_
      refine lv_astore_n (lv' := [(3, .ref v0), (0, .ref d0), (1, .int a1), (2, .int a2)]) hx hb dX5_amountFor_11 rfl hl (by decide) rfl (fun ls hl => ?_)
      refine lv_lconst (v := 0) hx hb dX5_amountFor_12 (by decide) ?_
      refine lv_lstore (lv' := [(4, .long 0), (3, .ref v0), (0, .ref d0), (1, .int a1), (2, .int a2)]) hx hb dX5_amountFor_13 hl (by decide) rfl (fun ls hl => ?_)
      refine lv_iconst (v := 0) hx hb dX5_amountFor_15 (by decide) ?_
      refine lv_istore (lv' := [(6, .int 0), (4, .long 0), (3, .ref v0), (0, .ref d0), (1, .int a1), (2, .int a2)]) hx hb dX5_amountFor_16 hl (by decide) rfl (fun ls hl => ?_)
      have lp18 : ∀ (n : Nat) (l6 : Int32) (l4 : Int64) (l1 : Int32) (l2 : Int32) (dhasSaved : Int32) (dkeptError : Int32) (dmoved : Int32) (vkeys : Nat → Int32) (vfirsts : Nat → Int32) (vends : Nat → Int32) (vvalues : Nat → Int32) (vinferred : Nat → Int32) (vgone : Nat → Int32) (vmade : Int32) (fkeys : Nat → Int32) (fdays : Nat → Int32) (famounts : Nat → Int32) (fversions : Nat → Int32) (fcount : Int32) (rkeys : Nat → Int32) (rdays : Nat → Int32) (rvalues : Nat → Int32) (rcount : Int32) (H10 : Heap) (locs : List Loc) (ls : Array Slot), f_X5_amountFor_L18 n l6 l4 l1 l2 (dhasSaved, dkeptError, dmoved) () (vkeys, vfirsts, vends, vvalues, vinferred, vgone, vmade) (fkeys, fdays, famounts, fversions, fcount) (rkeys, rdays, rvalues, rcount) = some R → va_P (dC, dI) vwCl (wD_ d0 s0 z0 b0 q0 t0 dhasSaved dkeptError dmoved ++ wS_ s0 v0 f0 r0 ++ wV_ v0 v_keys v_firsts v_ends v_values v_inferred v_gone cI cZ vkeys vfirsts vends vvalues vinferred vgone vmade ++ wF_ f0 f_keys f_days f_amounts f_versions cI fkeys fdays famounts fversions fcount ++ wR_ r0 r_keys r_days r_values cI rkeys rdays rvalues rcount) H10 → va_D A (wD_ d0 s0 z0 b0 q0 t0 dhasSaved dkeptError dmoved ++ wS_ s0 v0 f0 r0 ++ wV_ v0 v_keys v_firsts v_ends v_values v_inferred v_gone cI cZ vkeys vfirsts vends vvalues vinferred vgone vmade ++ wF_ f0 f_keys f_days f_amounts f_versions cI fkeys fdays famounts fversions fcount ++ wR_ r0 r_keys r_days r_values cI rkeys rdays rvalues rcount) → va_S A s.heap H10 locs → lv_has ls 7 [(6, .int l6), (4, .long l4), (3, .ref v0), (0, .ref d0), (1, .int l1), (2, .int l2)] → W p l e (headSpec wsX5_amountFor rm_X5_amountFor).room s m args below meth c H10 locs 1 6 (vx_MQ below (Xl_ (dC, dI) (ty_ cI cZ cC cJ cD) R (wD_ d0 s0 z0 b0 q0 t0 dhasSaved dkeptError dmoved ++ wS_ s0 v0 f0 r0 ++ wV_ v0 v_keys v_firsts v_ends v_values v_inferred v_gone cI cZ vkeys vfirsts vends vvalues vinferred vgone vmade ++ wF_ f0 f_keys f_days f_amounts f_versions cI fkeys fdays famounts fversions fcount ++ wR_ r0 r_keys r_days r_values cI rkeys rdays rvalues rcount) A) (XX_ (dC, dI) (ty_ cI cZ cC cJ cD) R (wD_ d0 s0 z0 b0 q0 t0 dhasSaved dkeptError dmoved ++ wS_ s0 v0 f0 r0 ++ wV_ v0 v_keys v_firsts v_ends v_values v_inferred v_gone cI cZ vkeys vfirsts vends vvalues vinferred vgone vmade ++ wF_ f0 f_keys f_days f_amounts f_versions cI fkeys fdays famounts fversions fcount ++ wR_ r0 r_keys r_days r_values cI rkeys rdays rvalues rcount) A) args s 1 6 A) (F0 m 18 ls []) := by
        intro n
        induction n with
        | zero => intro l6 l4 l1 l2 dhasSaved dkeptError dmoved vkeys vfirsts vends vvalues vinferred vgone vmade fkeys fdays famounts fversions fcount rkeys rdays rvalues rcount H10 locs ls hf hP hD hS hl; exact absurd hf (by simp [f_X5_amountFor_L18])
        | succ n ih =>
          intro l6 l4 l1 l2 dhasSaved dkeptError dmoved vkeys vfirsts vends vvalues vinferred vgone vmade fkeys fdays famounts fversions fcount rkeys rdays rvalues rcount H10 locs ls hf hP hD hS hl
          have hf : f_X5_amountFor_S18 (f_X5_amountFor_L18 n) l6 l4 l1 l2 (dhasSaved, dkeptError, dmoved) () (vkeys, vfirsts, vends, vvalues, vinferred, vgone, vmade) (fkeys, fdays, famounts, fversions, fcount) (rkeys, rdays, rvalues, rcount) = some R := hf
          unfold f_X5_amountFor_S18 at hf
          dsimp only at hf
          refine lv_iload hx hb dX5_amountFor_18 (lv_at hl 0 rfl) ?_
          refine lv_aload_n hx hb dX5_amountFor_20 rfl (lv_at hl 2 rfl) ?_
          refine va_get (D := (dC, dI)) (ci := 6) (v := .int vmade) (C := RX4) (T := TX4) (N := 7) hx hb hts inX4_ hown hK hP 2 rfl rfl 6 (by decide) fl164_ (fun _ h9 => h9) rfl dX5_amountFor_21 ?_
          refine lv_icmp_ge (tgt := 71) hx hb dX5_amountFor_24 (by decide) (fun c11 => ?_) (fun c11 => ?_)
          · have hf := ite_T c11 hf
            refine lv_lload hx hb dX5_amountFor_71 (lv_at hl 1 rfl) ?_
            have hR := Option.some.inj hf
            subst hR
            refine vx_ret (W.widen (k := 1) (n := 6) (Nat.le_of_ble_eq_true rfl) (Nat.le_of_ble_eq_true rfl) ?_)
            exact W.lret (v := l4) hx hb hr (fun t ht hW => ⟨⟨l4, (), rfl, rfl, by rw [ht]; exact hP, va_K.moved hW.alike hK, hD⟩, hS.F ht⟩) hS.2.2 dX5_amountFor_73
          · have hf := ite_F c11 hf
            refine lv_aload_n hx hb dX5_amountFor_27 rfl (lv_at hl 2 rfl) ?_
            refine lv_iload hx hb dX5_amountFor_28 (lv_at hl 0 rfl) ?_
            refine lv_iload_n hx hb dX5_amountFor_30 rfl (lv_at hl 4 rfl) ?_
            obtain ⟨R13, g14, hf⟩ := bd_B hf
            obtain ⟨r12, rfl⟩ : ∃ z, z = R13 := ⟨_, rfl⟩
            have hPc := hP.sub (ws' := wV_ v0 v_keys v_firsts v_ends v_values v_inferred v_gone cI cZ vkeys vfirsts vends vvalues vinferred vgone vmade) [2, 3, 4, 5, 6, 7, 8] rfl
            have hDc := hD.sub (ws' := wV_ v0 v_keys v_firsts v_ends v_values v_inferred v_gone cI cZ vkeys vfirsts vends vvalues vinferred vgone vmade) [2, 3, 4, 5, 6, 7, 8] (by decide) rfl
            have hFc := va_free (wc := wV_ v0 v_keys v_firsts v_ends v_values v_inferred v_gone cI cZ vkeys vfirsts vends vvalues vinferred vgone vmade) hD hS hA [2, 3, 4, 5, 6, 7, 8] rfl
            refine va_calli (va_runV (As := [.int l6, .int l1]) (rest := []) ⟨hx, hb, hml, hown, hts⟩ (c_X4_isOf l dC dI cI cZ cC cJ cD v0 v_keys v_firsts v_ends v_values v_inferred v_gone H10.size vkeys vfirsts vends vvalues vinferred vgone vmade l6 l1 r12 g14) (cwV 2 hts gX5_amountFor_X4_isOf rfl rfl rfl hs_X4_isOf ⟨Nat.le_of_ble_eq_true rfl, Nat.le_of_ble_eq_true rfl⟩) (preV_ (ci := 6) (q0 := 0) hPc hK hDc rfl rfl rfl rfl) rfl rfl hl.1 rfl (lv_room (Nat.le_of_ble_eq_true rfl)) dX5_amountFor_31 ⟨Nat.le_of_ble_eq_true rfl, Nat.le_of_ble_eq_true rfl⟩) hS (fun q _ h => hFc q h) hFc (fun z16 u t H15 locs ht hvm hw hB hz1 hk1 hS => ?_)
            have hw : r12 = z16 := hw.symm
            subst hw
            obtain ⟨hP, hD⟩ := aft_ (Wr := wD_ d0 s0 z0 b0 q0 t0 dhasSaved dkeptError dmoved ++ wS_ s0 v0 f0 r0 ++ wF_ f0 f_keys f_days f_amounts f_versions cI fkeys fdays famounts fversions fcount ++ wR_ r0 r_keys r_days r_values cI rkeys rdays rvalues rcount) (Wc' := wV_ v0 v_keys v_firsts v_ends v_values v_inferred v_gone cI cZ vkeys vfirsts vends vvalues vinferred vgone vmade) (W2 := wD_ d0 s0 z0 b0 q0 t0 dhasSaved dkeptError dmoved ++ wS_ s0 v0 f0 r0 ++ wV_ v0 v_keys v_firsts v_ends v_values v_inferred v_gone cI cZ vkeys vfirsts vends vvalues vinferred vgone vmade ++ wF_ f0 f_keys f_days f_amounts f_versions cI fkeys fdays famounts fversions fcount ++ wR_ r0 r_keys r_days r_values cI rkeys rdays rvalues rcount) hP hD [2, 3, 4, 5, 6, 7, 8] [0, 1, 9, 10, 11, 12, 13, 14, 15, 16, 17] [0, 1, 11, 12, 13, 14, 15, 16, 17, 2, 3, 4, 5, 6, 7, 8, 9, 10] rfl rfl (by decide) (by decide) (by decide) hk1 hFc hB ht rfl
            refine lv_if_eq (tgt := 65) hx hb dX5_amountFor_34 (by decide) (fun c17 => ?_) (fun c17 => ?_)
            · have hf := ite_T c17 hf
              refine lv_iinc (v := l6 + 1) (lv' := [(6, .int (l6 + 1)), (4, .long l4), (3, .ref v0), (0, .ref d0), (1, .int l1), (2, .int l2)]) hx hb dX5_amountFor_65 hl (k := 0) rfl (by first | rfl | decide) (by decide) rfl (fun ls hl => ?_)
              refine lv_goto (tgt := 18) hx hb dX5_amountFor_68 (by decide) ?_
              exact ih (l6 + 1) l4 l1 l2 dhasSaved dkeptError dmoved vkeys vfirsts vends vvalues vinferred vgone vmade fkeys fdays famounts fversions fcount rkeys rdays rvalues rcount _ _ _ hf hP hD hS (lv_sub hl [0, 1, 2, 3, 4, 5] rfl)
            · have hf := ite_F c17 hf
              refine lv_aload_n hx hb dX5_amountFor_37 rfl (lv_at hl 2 rfl) ?_
              refine va_get (D := (dC, dI)) (ci := 6) (v := .ref v_values) (C := RX4) (T := TX4) (N := 7) hx hb hts inX4_ hown hK hP 2 rfl rfl 3 (by decide) fl102_ (fun _ h9 => h9) rfl dX5_amountFor_38 ?_
              refine lv_iload hx hb dX5_amountFor_41 (lv_at hl 0 rfl) ?_
              obtain ⟨h18, hf⟩ := gd_T hf
              refine va_iald hx hb hK hP 6 0 rfl rfl h18 dX5_amountFor_43 ?_
              refine lv_iload_n hx hb dX5_amountFor_44 rfl (lv_at hl 5 rfl) ?_
              refine lv_icmp_ne (tgt := 65) hx hb dX5_amountFor_45 (by decide) (fun c19 => ?_) (fun c19 => ?_)
              · have hf := ite_F c19 hf
                refine lv_iinc (v := l6 + 1) (lv' := [(6, .int (l6 + 1)), (4, .long l4), (3, .ref v0), (0, .ref d0), (1, .int l1), (2, .int l2)]) hx hb dX5_amountFor_65 hl (k := 0) rfl (by first | rfl | decide) (by decide) rfl (fun ls hl => ?_)
                refine lv_goto (tgt := 18) hx hb dX5_amountFor_68 (by decide) ?_
                exact ih (l6 + 1) l4 l1 l2 dhasSaved dkeptError dmoved vkeys vfirsts vends vvalues vinferred vgone vmade fkeys fdays famounts fversions fcount rkeys rdays rvalues rcount _ _ _ hf hP hD hS (lv_sub hl [0, 1, 2, 3, 4, 5] rfl)
              · have hf := ite_T c19 hf
                refine lv_lload hx hb dX5_amountFor_48 (lv_at hl 1 rfl) ?_
                refine lv_aload_n hx hb dX5_amountFor_50 rfl (lv_at hl 3 rfl) ?_
                refine va_get (D := (dC, dI)) (ci := 7) (v := .ref s0) (C := RX5) (T := TX5) (N := 8) hx hb hts inX5_ hown hK hP 0 rfl rfl 0 (by decide) fl10_ (fun _ h9 => h9) rfl dX5_amountFor_51 ?_
                refine va_get (D := (dC, dI)) (ci := 4) (v := .ref f0) (C := RX2) (T := TX2) (N := 3) hx hb hts inX2_ hown hK hP 1 rfl rfl 1 (by decide) fl64_ (fun _ h9 => h9) rfl dX5_amountFor_54 ?_
                refine lv_iload hx hb dX5_amountFor_57 (lv_at hl 0 rfl) ?_
                obtain ⟨R21, g22, hf⟩ := bd_B hf
                obtain ⟨r20, rfl⟩ : ∃ z, z = R21 := ⟨_, rfl⟩
                have hPc := hP.sub (ws' := wF_ f0 f_keys f_days f_amounts f_versions cI fkeys fdays famounts fversions fcount) [9, 10, 11, 12, 13] rfl
                have hDc := hD.sub (ws' := wF_ f0 f_keys f_days f_amounts f_versions cI fkeys fdays famounts fversions fcount) [9, 10, 11, 12, 13] (by decide) rfl
                have hFc := va_free (wc := wF_ f0 f_keys f_days f_amounts f_versions cI fkeys fdays famounts fversions fcount) hD hS hA [9, 10, 11, 12, 13] rfl
                refine va_calll (va_runV (As := [.int l6]) (rest := [.long l4]) ⟨hx, hb, hml, hown, hts⟩ (c_X0_sumOf l dC dI cI cZ cC cJ cD f0 f_keys f_days f_amounts f_versions H15.size fkeys fdays famounts fversions fcount l6 r20 g22) (cwV 1 hts gX5_amountFor_X0_sumOf rfl rfl rfl hs_X0_sumOf ⟨Nat.le_of_ble_eq_true rfl, Nat.le_of_ble_eq_true rfl⟩) (preV_ (ci := 2) (q0 := 0) hPc hK hDc rfl rfl rfl rfl) rfl rfl hl.1 rfl (lv_room (Nat.le_of_ble_eq_true rfl)) dX5_amountFor_59 ⟨Nat.le_of_ble_eq_true rfl, Nat.le_of_ble_eq_true rfl⟩) hS (fun q _ h => hFc q h) hFc (fun z24 u t H23 locs ht hvm hw hB hz1 hk1 hS => ?_)
                have hw : r20 = z24 := hw.symm
                subst hw
                obtain ⟨hP, hD⟩ := aft_ (Wr := wD_ d0 s0 z0 b0 q0 t0 dhasSaved dkeptError dmoved ++ wS_ s0 v0 f0 r0 ++ wV_ v0 v_keys v_firsts v_ends v_values v_inferred v_gone cI cZ vkeys vfirsts vends vvalues vinferred vgone vmade ++ wR_ r0 r_keys r_days r_values cI rkeys rdays rvalues rcount) (Wc' := wF_ f0 f_keys f_days f_amounts f_versions cI fkeys fdays famounts fversions fcount) (W2 := wD_ d0 s0 z0 b0 q0 t0 dhasSaved dkeptError dmoved ++ wS_ s0 v0 f0 r0 ++ wV_ v0 v_keys v_firsts v_ends v_values v_inferred v_gone cI cZ vkeys vfirsts vends vvalues vinferred vgone vmade ++ wF_ f0 f_keys f_days f_amounts f_versions cI fkeys fdays famounts fversions fcount ++ wR_ r0 r_keys r_days r_values cI rkeys rdays rvalues rcount) hP hD [9, 10, 11, 12, 13] [0, 1, 2, 3, 4, 5, 6, 7, 8, 14, 15, 16, 17] [0, 1, 2, 3, 4, 5, 6, 7, 8, 13, 14, 15, 16, 17, 9, 10, 11, 12] rfl rfl (by decide) (by decide) (by decide) hk1 hFc hB ht rfl
                refine lv_ladd hx hb dX5_amountFor_62 ?_
                refine lv_lstore (lv' := [(4, .long (l4 + r20)), (6, .int l6), (3, .ref v0), (0, .ref d0), (1, .int l1), (2, .int l2)]) hx hb dX5_amountFor_63 hl (by decide) rfl (fun ls hl => ?_)
                refine lv_iinc (v := l6 + 1) (lv' := [(6, .int (l6 + 1)), (4, .long (l4 + r20)), (3, .ref v0), (0, .ref d0), (1, .int l1), (2, .int l2)]) hx hb dX5_amountFor_65 hl (k := 1) rfl (by first | rfl | decide) (by decide) rfl (fun ls hl => ?_)
                refine lv_goto (tgt := 18) hx hb dX5_amountFor_68 (by decide) ?_
                exact ih (l6 + 1) (l4 + r20) l1 l2 dhasSaved dkeptError dmoved vkeys vfirsts vends vvalues vinferred vgone vmade fkeys fdays famounts fversions fcount rkeys rdays rvalues rcount _ _ _ hf hP hD hS (lv_sub hl [0, 1, 2, 3, 4, 5] rfl)
      exact lp18 fu_ (0 : Int32) (0 : Int64) a1 a2 dhasSaved dkeptError dmoved vkeys vfirsts vends vvalues vinferred vgone vmade fkeys fdays famounts fversions fcount rkeys rdays rvalues rcount _ _ _ hf hP hD hS hl
theorem hs_X5_amountFor : yX5_amountFor.cls = RX5 ∧ yX5_amountFor.cls ≠ "java/lang/invoke/MethodHandle" ∧ yX5_amountFor.cls ≠ "java/lang/invoke/VarHandle" ∧ (parseMethodDescriptor yX5_amountFor.desc).map (fun d => d.parameters.length) = some 2 := by decide +kernel
set_option maxRecDepth 20000 in
theorem in_X5_pointedAnew_X5 : ∀ w ∈ wsX50, w ∈ wsX5_pointedAnew := by decide +kernel
def f_X5_pointedAnew  (D_ : tD_) : Option (Int32) :=
match D_ with
| (dhasSaved, dkeptError, dmoved) =>
some dmoved
abbrev rm_X5_pointedAnew : Room := { frames := 0, cells := 0, slots := 0, locals := 0 }
set_option maxHeartbeats 4000000 in
set_option maxRecDepth 100000 in
theorem c_X5_pointedAnew (l : Launch) (dC : Nat → ClassId) (dI : Nat → Nat → Nat) (cI cZ cC cJ cD : ClassId) (d0 s0 z0 b0 q0 t0 : Nat) (sz : Nat) (dhasSaved : Int32) (dkeptError : Int32) (dmoved : Int32)  (R : Int32) (hf : f_X5_pointedAnew  (dhasSaved, dkeptError, dmoved) = some R) : Met l yX5_pointedAnew wsX5_pointedAnew rm_X5_pointedAnew (Pc_ (dC, dI) (ty_ cI cZ cC cJ cD) (wD_ d0 s0 z0 b0 q0 t0 dhasSaved dkeptError dmoved) sz [.ref d0]) (Qi_ (dC, dI) (ty_ cI cZ cC cJ cD) R (wD_ d0 s0 z0 b0 q0 t0 dhasSaved dkeptError dmoved) (va_A (wD_ d0 s0 z0 b0 q0 t0 dhasSaved dkeptError dmoved) sz)) 0 0 (va_A (wD_ d0 s0 z0 b0 q0 t0 dhasSaved dkeptError dmoved) sz) := by
  refine met_ (cc := cX5_pointedAnew) (maxL := 1) (ret := (some .int)) (Qcf := fun A => Qi_ (dC, dI) (ty_ cI cZ cC cJ cD) R (wD_ d0 s0 z0 b0 q0 t0 dhasSaved dkeptError dmoved) A) (by decide) rfl (Nat.le_of_ble_eq_true rfl) ?_
  intro p e s m args below meth c A ls hx hb hr hts hown hlocks hml hA hP hK hD hl
  have hown : s.vm.findClass RX5 = some m.cls := hown
  have hl : lv_has ls 1 [(0, .ref d0)] := hl
  have hS : va_S A s.heap s.heap [] := va_S.rf
  have fl132_ : (Cond.fieldLink RX5 132 "DimensionLoader" "moved" "I").before args s = true := hts _ (List.mem_of_getElem? (i := 1) rfl)
  have inX5_ : ∀ w ∈ wsX50, w ∈ wsX5_pointedAnew := in_X5_pointedAnew_X5
  unfold f_X5_pointedAnew at hf
  dsimp only at hf
  refine lv_aload_n hx hb dX5_pointedAnew_0 rfl (lv_at hl 0 rfl) ?_
  refine va_get (D := (dC, dI)) (ci := 7) (v := .int dmoved) (C := RX5) (T := TX5) (N := 8) hx hb hts inX5_ hown hK hP 0 rfl rfl 7 (by decide) fl132_ (fun _ h9 => h9) rfl dX5_pointedAnew_1 ?_
  have hR := Option.some.inj hf
  subst hR
  exact W.iret (v := dmoved) hx hb hr (fun t ht hW => ⟨⟨dmoved, (), rfl, rfl, by rw [ht]; exact hP, va_K.moved hW.alike hK, hD⟩, hS.F ht⟩) hS.2.2 dX5_pointedAnew_4
theorem hs_X5_pointedAnew : yX5_pointedAnew.cls = RX5 ∧ yX5_pointedAnew.cls ≠ "java/lang/invoke/MethodHandle" ∧ yX5_pointedAnew.cls ≠ "java/lang/invoke/VarHandle" ∧ (parseMethodDescriptor yX5_pointedAnew.desc).map (fun d => d.parameters.length) = some 0 := by decide +kernel
set_option maxRecDepth 20000 in
theorem in_X5_gaps_X2 : ∀ w ∈ wsX20, w ∈ wsX5_gaps := by decide +kernel
set_option maxRecDepth 20000 in
theorem in_X5_gaps_X5 : ∀ w ∈ wsX50, w ∈ wsX5_gaps := by decide +kernel
def f_X5_gaps (a1 : Int32) (D_ : tD_) (S_ : tS_) (V_ : tV_) (F_ : tF_) (R_ : tR_) : Option (Except String Int32) :=
match D_ with
| (dhasSaved, dkeptError, dmoved) =>
match V_ with
| (vkeys, vfirsts, vends, vvalues, vinferred, vgone, vmade) =>
match F_ with
| (fkeys, fdays, famounts, fversions, fcount) =>
match R_ with
| (rkeys, rdays, rvalues, rcount) =>
bd_ (f_X5_checkKey a1) (fun x1 =>
match x1 with
| Except.error E9 => some (Except.error E9)
| Except.ok v2 =>
bd_ (f_X4_countGaps a1 (vkeys, vfirsts, vends, vvalues, vinferred, vgone, vmade)) (fun r10 =>
some (Except.ok r10)))
abbrev rm_X5_gaps : Room := { frames := 7, cells := 1, slots := 6, locals := 134 }
set_option maxHeartbeats 4000000 in
set_option maxRecDepth 100000 in
theorem c_X5_gaps (l : Launch) (dC : Nat → ClassId) (dI : Nat → Nat → Nat) (cI cZ cC cJ cD : ClassId) (hst : l.stackTraces = false) (d0 s0 z0 b0 q0 t0 v0 f0 r0 v_keys v_firsts v_ends v_values v_inferred v_gone f_keys f_days f_amounts f_versions r_keys r_days r_values : Nat) (sz : Nat) (dhasSaved : Int32) (dkeptError : Int32) (dmoved : Int32) (vkeys : Nat → Int32) (vfirsts : Nat → Int32) (vends : Nat → Int32) (vvalues : Nat → Int32) (vinferred : Nat → Int32) (vgone : Nat → Int32) (vmade : Int32) (fkeys : Nat → Int32) (fdays : Nat → Int32) (famounts : Nat → Int32) (fversions : Nat → Int32) (fcount : Int32) (rkeys : Nat → Int32) (rdays : Nat → Int32) (rvalues : Nat → Int32) (rcount : Int32) (a1 : Int32) (R : Except String Int32) (hf : f_X5_gaps a1 (dhasSaved, dkeptError, dmoved) () (vkeys, vfirsts, vends, vvalues, vinferred, vgone, vmade) (fkeys, fdays, famounts, fversions, fcount) (rkeys, rdays, rvalues, rcount) = some R) : vx_Met l yX5_gaps wsX5_gaps rm_X5_gaps (Py_ (dC, dI) (ty_ cI cZ cC cJ cD) (wD_ d0 s0 z0 b0 q0 t0 dhasSaved dkeptError dmoved ++ wS_ s0 v0 f0 r0 ++ wV_ v0 v_keys v_firsts v_ends v_values v_inferred v_gone cI cZ vkeys vfirsts vends vvalues vinferred vgone vmade ++ wF_ f0 f_keys f_days f_amounts f_versions cI fkeys fdays famounts fversions fcount ++ wR_ r0 r_keys r_days r_values cI rkeys rdays rvalues rcount) sz [.ref d0, .int a1]) (Xi_ (dC, dI) (ty_ cI cZ cC cJ cD) R (wD_ d0 s0 z0 b0 q0 t0 dhasSaved dkeptError dmoved ++ wS_ s0 v0 f0 r0 ++ wV_ v0 v_keys v_firsts v_ends v_values v_inferred v_gone cI cZ vkeys vfirsts vends vvalues vinferred vgone vmade ++ wF_ f0 f_keys f_days f_amounts f_versions cI fkeys fdays famounts fversions fcount ++ wR_ r0 r_keys r_days r_values cI rkeys rdays rvalues rcount) (va_A (wD_ d0 s0 z0 b0 q0 t0 dhasSaved dkeptError dmoved ++ wS_ s0 v0 f0 r0 ++ wV_ v0 v_keys v_firsts v_ends v_values v_inferred v_gone cI cZ vkeys vfirsts vends vvalues vinferred vgone vmade ++ wF_ f0 f_keys f_days f_amounts f_versions cI fkeys fdays famounts fversions fcount ++ wR_ r0 r_keys r_days r_values cI rkeys rdays rvalues rcount) sz)) (XX_ (dC, dI) (ty_ cI cZ cC cJ cD) R (wD_ d0 s0 z0 b0 q0 t0 dhasSaved dkeptError dmoved ++ wS_ s0 v0 f0 r0 ++ wV_ v0 v_keys v_firsts v_ends v_values v_inferred v_gone cI cZ vkeys vfirsts vends vvalues vinferred vgone vmade ++ wF_ f0 f_keys f_days f_amounts f_versions cI fkeys fdays famounts fversions fcount ++ wR_ r0 r_keys r_days r_values cI rkeys rdays rvalues rcount) (va_A (wD_ d0 s0 z0 b0 q0 t0 dhasSaved dkeptError dmoved ++ wS_ s0 v0 f0 r0 ++ wV_ v0 v_keys v_firsts v_ends v_values v_inferred v_gone cI cZ vkeys vfirsts vends vvalues vinferred vgone vmade ++ wF_ f0 f_keys f_days f_amounts f_versions cI fkeys fdays famounts fversions fcount ++ wR_ r0 r_keys r_days r_values cI rkeys rdays rvalues rcount) sz)) 1 6 (va_A (wD_ d0 s0 z0 b0 q0 t0 dhasSaved dkeptError dmoved ++ wS_ s0 v0 f0 r0 ++ wV_ v0 v_keys v_firsts v_ends v_values v_inferred v_gone cI cZ vkeys vfirsts vends vvalues vinferred vgone vmade ++ wF_ f0 f_keys f_days f_amounts f_versions cI fkeys fdays famounts fversions fcount ++ wR_ r0 r_keys r_days r_values cI rkeys rdays rvalues rcount) sz) := by
  refine mety_ (cc := cX5_gaps) (maxL := 2) (ret := (some .int)) (Qcf := fun A => Xi_ (dC, dI) (ty_ cI cZ cC cJ cD) R (wD_ d0 s0 z0 b0 q0 t0 dhasSaved dkeptError dmoved ++ wS_ s0 v0 f0 r0 ++ wV_ v0 v_keys v_firsts v_ends v_values v_inferred v_gone cI cZ vkeys vfirsts vends vvalues vinferred vgone vmade ++ wF_ f0 f_keys f_days f_amounts f_versions cI fkeys fdays famounts fversions fcount ++ wR_ r0 r_keys r_days r_values cI rkeys rdays rvalues rcount) A) (XCf := fun A => XX_ (dC, dI) (ty_ cI cZ cC cJ cD) R (wD_ d0 s0 z0 b0 q0 t0 dhasSaved dkeptError dmoved ++ wS_ s0 v0 f0 r0 ++ wV_ v0 v_keys v_firsts v_ends v_values v_inferred v_gone cI cZ vkeys vfirsts vends vvalues vinferred vgone vmade ++ wF_ f0 f_keys f_days f_amounts f_versions cI fkeys fdays famounts fversions fcount ++ wR_ r0 r_keys r_days r_values cI rkeys rdays rvalues rcount) A) (by decide) rfl (Nat.le_of_ble_eq_true rfl) ?_
  intro p e s m args below meth c A ls hx hb hr hts hown hlocks hml htab hA hU hN hC hP hK hD hl
  have hown : s.vm.findClass RX5 = some m.cls := hown
  have hl : lv_has ls 2 [(0, .ref d0), (1, .int a1)] := hl
  have hS : va_S A s.heap s.heap [] := va_S.rf
  have fl10_ : (Cond.fieldLink RX5 10 "DimensionLoader" "live" "LDimensionLoader$Store;").before args s = true := hts _ (List.mem_of_getElem? (i := 1) rfl)
  have fl51_ : (Cond.fieldLink RX5 51 "DimensionLoader$Store" "versions" "LDimensionLoader$Versions;").before args s = true := hts _ (List.mem_of_getElem? (i := 2) rfl)
  have inX2_ : ∀ w ∈ wsX20, w ∈ wsX5_gaps := in_X5_gaps_X2
  have inX5_ : ∀ w ∈ wsX50, w ∈ wsX5_gaps := in_X5_gaps_X5
  unfold f_X5_gaps at hf
  dsimp only at hf
  refine lv_iload_n hx hb dX5_gaps_0 rfl (lv_at hl 1 rfl) ?_
  obtain ⟨R3, g4, hf⟩ := bd_B hf
  obtain ⟨x1, rfl⟩ : ∃ z, z = R3 := ⟨_, rfl⟩
  have hPc := hP.sub (ws' := []) [] rfl
  have hDc := hD.sub (ws' := []) [] (by decide) rfl
  have hFc := va_free (wc := []) hD hS hA [] rfl
  cases x1 with
  | error E9 =>
    have hR := Option.some.inj hf
    subst hR
    refine vx_callv (vx_runS (As := [.int a1]) (rest := []) ⟨hx, hb, hml, hown, hts⟩ (c_X5_checkKey l dC dI cI cZ cC cJ cD hst s.heap.size a1 (Except.error E9) g4) (cwS 1 hts gX5_gaps_X5_checkKey rfl rfl rfl hs_X5_checkKey ⟨Nat.le_of_ble_eq_true rfl, Nat.le_of_ble_eq_true rfl⟩) (preSy_ hPc hK hDc rfl hS hU hN hFc hC) rfl rfl hl.1 rfl (lv_room (Nat.le_of_ble_eq_true rfl)) dX5_gaps_1 ⟨Nat.le_of_ble_eq_true rfl, Nat.le_of_ble_eq_true rfl⟩) hS (fun q _ h => hFc q h) hFc (fun q _ h => hFc q h) (fun E ce q9 u t H7 locs ht hvm hp hB hz1 hk1 hS hce hcv hcl => ?_) (fun u t H7 locs ht hvm hw hB hz1 hk1 hS => ?_)
    · obtain ⟨hE, hB⟩ := hB
      cases hE
      obtain ⟨hP, hD⟩ := aft_ (Wr := wD_ d0 s0 z0 b0 q0 t0 dhasSaved dkeptError dmoved ++ wS_ s0 v0 f0 r0 ++ wV_ v0 v_keys v_firsts v_ends v_values v_inferred v_gone cI cZ vkeys vfirsts vends vvalues vinferred vgone vmade ++ wF_ f0 f_keys f_days f_amounts f_versions cI fkeys fdays famounts fversions fcount ++ wR_ r0 r_keys r_days r_values cI rkeys rdays rvalues rcount) (Wc' := []) (W2 := wD_ d0 s0 z0 b0 q0 t0 dhasSaved dkeptError dmoved ++ wS_ s0 v0 f0 r0 ++ wV_ v0 v_keys v_firsts v_ends v_values v_inferred v_gone cI cZ vkeys vfirsts vends vvalues vinferred vgone vmade ++ wF_ f0 f_keys f_days f_amounts f_versions cI fkeys fdays famounts fversions fcount ++ wR_ r0 r_keys r_days r_values cI rkeys rdays rvalues rcount) hP hD [] [0, 1, 2, 3, 4, 5, 6, 7, 8, 9, 10, 11, 12, 13, 14, 15, 16, 17] [0, 1, 2, 3, 4, 5, 6, 7, 8, 9, 10, 11, 12, 13, 14, 15, 16, 17] rfl rfl (by decide) (by decide) (by decide) hk1 hFc hB ht rfl
      exact vx_out (fun x h => (htab x h).elim) hlocks hce hcv hcl (thr2_ hS hP hK hD rfl) hS.2.2 (Nat.le_of_ble_eq_true rfl) (Nat.le_of_ble_eq_true rfl)
    · exact absurd hw (fun h => nomatch h)
  | ok v2 =>
    refine vx_callv (vx_runS (As := [.int a1]) (rest := []) ⟨hx, hb, hml, hown, hts⟩ (c_X5_checkKey l dC dI cI cZ cC cJ cD hst s.heap.size a1 (Except.ok ()) g4) (cwS 1 hts gX5_gaps_X5_checkKey rfl rfl rfl hs_X5_checkKey ⟨Nat.le_of_ble_eq_true rfl, Nat.le_of_ble_eq_true rfl⟩) (preSy_ hPc hK hDc rfl hS hU hN hFc hC) rfl rfl hl.1 rfl (lv_room (Nat.le_of_ble_eq_true rfl)) dX5_gaps_1 ⟨Nat.le_of_ble_eq_true rfl, Nat.le_of_ble_eq_true rfl⟩) hS (fun q _ h => hFc q h) hFc (fun q _ h => hFc q h) (fun E ce q9 u t H7 locs ht hvm hp hB hz1 hk1 hS hce hcv hcl => ?_) (fun u t H7 locs ht hvm hw hB hz1 hk1 hS => ?_)
    · exact absurd hB.1 (fun h => nomatch h)
    · obtain ⟨hP, hD⟩ := aft_ (Wr := wD_ d0 s0 z0 b0 q0 t0 dhasSaved dkeptError dmoved ++ wS_ s0 v0 f0 r0 ++ wV_ v0 v_keys v_firsts v_ends v_values v_inferred v_gone cI cZ vkeys vfirsts vends vvalues vinferred vgone vmade ++ wF_ f0 f_keys f_days f_amounts f_versions cI fkeys fdays famounts fversions fcount ++ wR_ r0 r_keys r_days r_values cI rkeys rdays rvalues rcount) (Wc' := []) (W2 := wD_ d0 s0 z0 b0 q0 t0 dhasSaved dkeptError dmoved ++ wS_ s0 v0 f0 r0 ++ wV_ v0 v_keys v_firsts v_ends v_values v_inferred v_gone cI cZ vkeys vfirsts vends vvalues vinferred vgone vmade ++ wF_ f0 f_keys f_days f_amounts f_versions cI fkeys fdays famounts fversions fcount ++ wR_ r0 r_keys r_days r_values cI rkeys rdays rvalues rcount) hP hD [] [0, 1, 2, 3, 4, 5, 6, 7, 8, 9, 10, 11, 12, 13, 14, 15, 16, 17] [0, 1, 2, 3, 4, 5, 6, 7, 8, 9, 10, 11, 12, 13, 14, 15, 16, 17] rfl rfl (by decide) (by decide) (by decide) hk1 hFc hB ht rfl
      refine lv_aload_n hx hb dX5_gaps_4 rfl (lv_at hl 0 rfl) ?_
      refine va_get (D := (dC, dI)) (ci := 7) (v := .ref s0) (C := RX5) (T := TX5) (N := 8) hx hb hts inX5_ hown hK hP 0 rfl rfl 0 (by decide) fl10_ (fun _ h9 => h9) rfl dX5_gaps_5 ?_
      refine va_get (D := (dC, dI)) (ci := 4) (v := .ref v0) (C := RX2) (T := TX2) (N := 3) hx hb hts inX2_ hown hK hP 1 rfl rfl 0 (by decide) fl51_ (fun _ h9 => h9) rfl dX5_gaps_8 ?_
      refine lv_iload_n hx hb dX5_gaps_11 rfl (lv_at hl 1 rfl) ?_
      obtain ⟨R11, g12, hf⟩ := bd_B hf
      obtain ⟨r10, rfl⟩ : ∃ z, z = R11 := ⟨_, rfl⟩
      have hPc := hP.sub (ws' := wV_ v0 v_keys v_firsts v_ends v_values v_inferred v_gone cI cZ vkeys vfirsts vends vvalues vinferred vgone vmade) [2, 3, 4, 5, 6, 7, 8] rfl
      have hDc := hD.sub (ws' := wV_ v0 v_keys v_firsts v_ends v_values v_inferred v_gone cI cZ vkeys vfirsts vends vvalues vinferred vgone vmade) [2, 3, 4, 5, 6, 7, 8] (by decide) rfl
      have hFc := va_free (wc := wV_ v0 v_keys v_firsts v_ends v_values v_inferred v_gone cI cZ vkeys vfirsts vends vvalues vinferred vgone vmade) hD hS hA [2, 3, 4, 5, 6, 7, 8] rfl
      refine va_calli (va_runV (As := [.int a1]) (rest := []) ⟨hx, hb, hml, hown, hts⟩ (c_X4_countGaps l dC dI cI cZ cC cJ cD v0 v_keys v_firsts v_ends v_values v_inferred v_gone H7.size vkeys vfirsts vends vvalues vinferred vgone vmade a1 r10 g12) (cwV 1 hts gX5_gaps_X4_countGaps rfl rfl rfl hs_X4_countGaps ⟨Nat.le_of_ble_eq_true rfl, Nat.le_of_ble_eq_true rfl⟩) (preV_ (ci := 6) (q0 := 0) hPc hK hDc rfl rfl rfl rfl) rfl rfl hl.1 rfl (lv_room (Nat.le_of_ble_eq_true rfl)) dX5_gaps_12 ⟨Nat.le_of_ble_eq_true rfl, Nat.le_of_ble_eq_true rfl⟩) hS (fun q _ h => hFc q h) hFc (fun z14 u t H13 locs ht hvm hw hB hz1 hk1 hS => ?_)
      have hw : r10 = z14 := hw.symm
      subst hw
      obtain ⟨hP, hD⟩ := aft_ (Wr := wD_ d0 s0 z0 b0 q0 t0 dhasSaved dkeptError dmoved ++ wS_ s0 v0 f0 r0 ++ wF_ f0 f_keys f_days f_amounts f_versions cI fkeys fdays famounts fversions fcount ++ wR_ r0 r_keys r_days r_values cI rkeys rdays rvalues rcount) (Wc' := wV_ v0 v_keys v_firsts v_ends v_values v_inferred v_gone cI cZ vkeys vfirsts vends vvalues vinferred vgone vmade) (W2 := wD_ d0 s0 z0 b0 q0 t0 dhasSaved dkeptError dmoved ++ wS_ s0 v0 f0 r0 ++ wV_ v0 v_keys v_firsts v_ends v_values v_inferred v_gone cI cZ vkeys vfirsts vends vvalues vinferred vgone vmade ++ wF_ f0 f_keys f_days f_amounts f_versions cI fkeys fdays famounts fversions fcount ++ wR_ r0 r_keys r_days r_values cI rkeys rdays rvalues rcount) hP hD [2, 3, 4, 5, 6, 7, 8] [0, 1, 9, 10, 11, 12, 13, 14, 15, 16, 17] [0, 1, 11, 12, 13, 14, 15, 16, 17, 2, 3, 4, 5, 6, 7, 8, 9, 10] rfl rfl (by decide) (by decide) (by decide) hk1 hFc hB ht rfl
      have hR := Option.some.inj hf
      subst hR
      refine vx_ret (W.widen (k := 1) (n := 6) (Nat.le_of_ble_eq_true rfl) (Nat.le_of_ble_eq_true rfl) ?_)
      exact W.iret (v := r10) hx hb hr (fun t ht hW => ⟨⟨r10, (), rfl, rfl, by rw [ht]; exact hP, va_K.moved hW.alike hK, hD⟩, hS.F ht⟩) hS.2.2 dX5_gaps_15
theorem hs_X5_gaps : yX5_gaps.cls = RX5 ∧ yX5_gaps.cls ≠ "java/lang/invoke/MethodHandle" ∧ yX5_gaps.cls ≠ "java/lang/invoke/VarHandle" ∧ (parseMethodDescriptor yX5_gaps.desc).map (fun d => d.parameters.length) = some 1 := by decide +kernel
set_option maxRecDepth 20000 in
theorem in_X5_gapDay_X2 : ∀ w ∈ wsX20, w ∈ wsX5_gapDay := by decide +kernel
set_option maxRecDepth 20000 in
theorem in_X5_gapDay_X4 : ∀ w ∈ wsX40, w ∈ wsX5_gapDay := by decide +kernel
set_option maxRecDepth 20000 in
theorem in_X5_gapDay_X5 : ∀ w ∈ wsX50, w ∈ wsX5_gapDay := by decide +kernel
def f_X5_gapDay (a1 : Int32) (a2 : Int32) (a3 : Int32) (D_ : tD_) (S_ : tS_) (V_ : tV_) (F_ : tF_) (R_ : tR_) : Option (Except String Int32) :=
match D_ with
| (dhasSaved, dkeptError, dmoved) =>
match V_ with
| (vkeys, vfirsts, vends, vvalues, vinferred, vgone, vmade) =>
match F_ with
| (fkeys, fdays, famounts, fversions, fcount) =>
match R_ with
| (rkeys, rdays, rvalues, rcount) =>
bd_ (f_X5_checkKey a1) (fun x1 =>
match x1 with
| Except.error E9 => some (Except.error E9)
| Except.ok v2 =>
bd_ (f_X4_aheadOfGap a1 a2 (vkeys, vfirsts, vends, vvalues, vinferred, vgone, vmade)) (fun r10 =>
bd_ (f_X5_found r10) (fun x15 =>
match x15 with
| Except.error E23 => some (Except.error E23)
| Except.ok r16 =>
if a3 = 0 then
gd_ r16 60 (
some (Except.ok (vends r16.toNatClampNeg)))
else
gd_ r16 60 (
bd_ (f_X4_nextFirst a1 (vfirsts r16.toNatClampNeg) (vkeys, vfirsts, vends, vvalues, vinferred, vgone, vmade)) (fun r27 =>
some (Except.ok (r27 - 1)))))))
abbrev rm_X5_gapDay : Room := { frames := 7, cells := 2, slots := 12, locals := 136 }
set_option maxHeartbeats 4000000 in
set_option maxRecDepth 100000 in
theorem c_X5_gapDay (l : Launch) (dC : Nat → ClassId) (dI : Nat → Nat → Nat) (cI cZ cC cJ cD : ClassId) (hst : l.stackTraces = false) (d0 s0 z0 b0 q0 t0 v0 f0 r0 v_keys v_firsts v_ends v_values v_inferred v_gone f_keys f_days f_amounts f_versions r_keys r_days r_values : Nat) (sz : Nat) (dhasSaved : Int32) (dkeptError : Int32) (dmoved : Int32) (vkeys : Nat → Int32) (vfirsts : Nat → Int32) (vends : Nat → Int32) (vvalues : Nat → Int32) (vinferred : Nat → Int32) (vgone : Nat → Int32) (vmade : Int32) (fkeys : Nat → Int32) (fdays : Nat → Int32) (famounts : Nat → Int32) (fversions : Nat → Int32) (fcount : Int32) (rkeys : Nat → Int32) (rdays : Nat → Int32) (rvalues : Nat → Int32) (rcount : Int32) (a1 : Int32) (a2 : Int32) (a3 : Int32) (R : Except String Int32) (hf : f_X5_gapDay a1 a2 a3 (dhasSaved, dkeptError, dmoved) () (vkeys, vfirsts, vends, vvalues, vinferred, vgone, vmade) (fkeys, fdays, famounts, fversions, fcount) (rkeys, rdays, rvalues, rcount) = some R) : vx_Met l yX5_gapDay wsX5_gapDay rm_X5_gapDay (Py_ (dC, dI) (ty_ cI cZ cC cJ cD) (wD_ d0 s0 z0 b0 q0 t0 dhasSaved dkeptError dmoved ++ wS_ s0 v0 f0 r0 ++ wV_ v0 v_keys v_firsts v_ends v_values v_inferred v_gone cI cZ vkeys vfirsts vends vvalues vinferred vgone vmade ++ wF_ f0 f_keys f_days f_amounts f_versions cI fkeys fdays famounts fversions fcount ++ wR_ r0 r_keys r_days r_values cI rkeys rdays rvalues rcount) sz [.ref d0, .int a1, .int a2, .int a3]) (Xi_ (dC, dI) (ty_ cI cZ cC cJ cD) R (wD_ d0 s0 z0 b0 q0 t0 dhasSaved dkeptError dmoved ++ wS_ s0 v0 f0 r0 ++ wV_ v0 v_keys v_firsts v_ends v_values v_inferred v_gone cI cZ vkeys vfirsts vends vvalues vinferred vgone vmade ++ wF_ f0 f_keys f_days f_amounts f_versions cI fkeys fdays famounts fversions fcount ++ wR_ r0 r_keys r_days r_values cI rkeys rdays rvalues rcount) (va_A (wD_ d0 s0 z0 b0 q0 t0 dhasSaved dkeptError dmoved ++ wS_ s0 v0 f0 r0 ++ wV_ v0 v_keys v_firsts v_ends v_values v_inferred v_gone cI cZ vkeys vfirsts vends vvalues vinferred vgone vmade ++ wF_ f0 f_keys f_days f_amounts f_versions cI fkeys fdays famounts fversions fcount ++ wR_ r0 r_keys r_days r_values cI rkeys rdays rvalues rcount) sz)) (XX_ (dC, dI) (ty_ cI cZ cC cJ cD) R (wD_ d0 s0 z0 b0 q0 t0 dhasSaved dkeptError dmoved ++ wS_ s0 v0 f0 r0 ++ wV_ v0 v_keys v_firsts v_ends v_values v_inferred v_gone cI cZ vkeys vfirsts vends vvalues vinferred vgone vmade ++ wF_ f0 f_keys f_days f_amounts f_versions cI fkeys fdays famounts fversions fcount ++ wR_ r0 r_keys r_days r_values cI rkeys rdays rvalues rcount) (va_A (wD_ d0 s0 z0 b0 q0 t0 dhasSaved dkeptError dmoved ++ wS_ s0 v0 f0 r0 ++ wV_ v0 v_keys v_firsts v_ends v_values v_inferred v_gone cI cZ vkeys vfirsts vends vvalues vinferred vgone vmade ++ wF_ f0 f_keys f_days f_amounts f_versions cI fkeys fdays famounts fversions fcount ++ wR_ r0 r_keys r_days r_values cI rkeys rdays rvalues rcount) sz)) 2 12 (va_A (wD_ d0 s0 z0 b0 q0 t0 dhasSaved dkeptError dmoved ++ wS_ s0 v0 f0 r0 ++ wV_ v0 v_keys v_firsts v_ends v_values v_inferred v_gone cI cZ vkeys vfirsts vends vvalues vinferred vgone vmade ++ wF_ f0 f_keys f_days f_amounts f_versions cI fkeys fdays famounts fversions fcount ++ wR_ r0 r_keys r_days r_values cI rkeys rdays rvalues rcount) sz) := by
  refine mety_ (cc := cX5_gapDay) (maxL := 6) (ret := (some .int)) (Qcf := fun A => Xi_ (dC, dI) (ty_ cI cZ cC cJ cD) R (wD_ d0 s0 z0 b0 q0 t0 dhasSaved dkeptError dmoved ++ wS_ s0 v0 f0 r0 ++ wV_ v0 v_keys v_firsts v_ends v_values v_inferred v_gone cI cZ vkeys vfirsts vends vvalues vinferred vgone vmade ++ wF_ f0 f_keys f_days f_amounts f_versions cI fkeys fdays famounts fversions fcount ++ wR_ r0 r_keys r_days r_values cI rkeys rdays rvalues rcount) A) (XCf := fun A => XX_ (dC, dI) (ty_ cI cZ cC cJ cD) R (wD_ d0 s0 z0 b0 q0 t0 dhasSaved dkeptError dmoved ++ wS_ s0 v0 f0 r0 ++ wV_ v0 v_keys v_firsts v_ends v_values v_inferred v_gone cI cZ vkeys vfirsts vends vvalues vinferred vgone vmade ++ wF_ f0 f_keys f_days f_amounts f_versions cI fkeys fdays famounts fversions fcount ++ wR_ r0 r_keys r_days r_values cI rkeys rdays rvalues rcount) A) (by decide) rfl (Nat.le_of_ble_eq_true rfl) ?_
  intro p e s m args below meth c A ls hx hb hr hts hown hlocks hml htab hA hU hN hC hP hK hD hl
  have hown : s.vm.findClass RX5 = some m.cls := hown
  have hl : lv_has ls 6 [(0, .ref d0), (1, .int a1), (2, .int a2), (3, .int a3)] := hl
  have hS : va_S A s.heap s.heap [] := va_S.rf
  have fl10_ : (Cond.fieldLink RX5 10 "DimensionLoader" "live" "LDimensionLoader$Store;").before args s = true := hts _ (List.mem_of_getElem? (i := 1) rfl)
  have fl51_ : (Cond.fieldLink RX5 51 "DimensionLoader$Store" "versions" "LDimensionLoader$Versions;").before args s = true := hts _ (List.mem_of_getElem? (i := 2) rfl)
  have fl88_ : (Cond.fieldLink RX5 88 "DimensionLoader$Versions" "firsts" "[I").before args s = true := hts _ (List.mem_of_getElem? (i := 3) rfl)
  have fl96_ : (Cond.fieldLink RX5 96 "DimensionLoader$Versions" "ends" "[I").before args s = true := hts _ (List.mem_of_getElem? (i := 4) rfl)
  have inX2_ : ∀ w ∈ wsX20, w ∈ wsX5_gapDay := in_X5_gapDay_X2
  have inX4_ : ∀ w ∈ wsX40, w ∈ wsX5_gapDay := in_X5_gapDay_X4
  have inX5_ : ∀ w ∈ wsX50, w ∈ wsX5_gapDay := in_X5_gapDay_X5
  unfold f_X5_gapDay at hf
  dsimp only at hf
  refine lv_iload_n hx hb dX5_gapDay_0 rfl (lv_at hl 1 rfl) ?_
  obtain ⟨R3, g4, hf⟩ := bd_B hf
  obtain ⟨x1, rfl⟩ : ∃ z, z = R3 := ⟨_, rfl⟩
  have hPc := hP.sub (ws' := []) [] rfl
  have hDc := hD.sub (ws' := []) [] (by decide) rfl
  have hFc := va_free (wc := []) hD hS hA [] rfl
  cases x1 with
  | error E9 =>
    have hR := Option.some.inj hf
    subst hR
    refine vx_callv (vx_runS (As := [.int a1]) (rest := []) ⟨hx, hb, hml, hown, hts⟩ (c_X5_checkKey l dC dI cI cZ cC cJ cD hst s.heap.size a1 (Except.error E9) g4) (cwS 1 hts gX5_gapDay_X5_checkKey rfl rfl rfl hs_X5_checkKey ⟨Nat.le_of_ble_eq_true rfl, Nat.le_of_ble_eq_true rfl⟩) (preSy_ hPc hK hDc rfl hS hU hN hFc hC) rfl rfl hl.1 rfl (lv_room (Nat.le_of_ble_eq_true rfl)) dX5_gapDay_1 ⟨Nat.le_of_ble_eq_true rfl, Nat.le_of_ble_eq_true rfl⟩) hS (fun q _ h => hFc q h) hFc (fun q _ h => hFc q h) (fun E ce q9 u t H7 locs ht hvm hp hB hz1 hk1 hS hce hcv hcl => ?_) (fun u t H7 locs ht hvm hw hB hz1 hk1 hS => ?_)
    · obtain ⟨hE, hB⟩ := hB
      cases hE
      obtain ⟨hP, hD⟩ := aft_ (Wr := wD_ d0 s0 z0 b0 q0 t0 dhasSaved dkeptError dmoved ++ wS_ s0 v0 f0 r0 ++ wV_ v0 v_keys v_firsts v_ends v_values v_inferred v_gone cI cZ vkeys vfirsts vends vvalues vinferred vgone vmade ++ wF_ f0 f_keys f_days f_amounts f_versions cI fkeys fdays famounts fversions fcount ++ wR_ r0 r_keys r_days r_values cI rkeys rdays rvalues rcount) (Wc' := []) (W2 := wD_ d0 s0 z0 b0 q0 t0 dhasSaved dkeptError dmoved ++ wS_ s0 v0 f0 r0 ++ wV_ v0 v_keys v_firsts v_ends v_values v_inferred v_gone cI cZ vkeys vfirsts vends vvalues vinferred vgone vmade ++ wF_ f0 f_keys f_days f_amounts f_versions cI fkeys fdays famounts fversions fcount ++ wR_ r0 r_keys r_days r_values cI rkeys rdays rvalues rcount) hP hD [] [0, 1, 2, 3, 4, 5, 6, 7, 8, 9, 10, 11, 12, 13, 14, 15, 16, 17] [0, 1, 2, 3, 4, 5, 6, 7, 8, 9, 10, 11, 12, 13, 14, 15, 16, 17] rfl rfl (by decide) (by decide) (by decide) hk1 hFc hB ht rfl
      exact vx_out (fun x h => (htab x h).elim) hlocks hce hcv hcl (thr2_ hS hP hK hD rfl) hS.2.2 (Nat.le_of_ble_eq_true rfl) (Nat.le_of_ble_eq_true rfl)
    · exact absurd hw (fun h => nomatch h)
  | ok v2 =>
    refine vx_callv (vx_runS (As := [.int a1]) (rest := []) ⟨hx, hb, hml, hown, hts⟩ (c_X5_checkKey l dC dI cI cZ cC cJ cD hst s.heap.size a1 (Except.ok ()) g4) (cwS 1 hts gX5_gapDay_X5_checkKey rfl rfl rfl hs_X5_checkKey ⟨Nat.le_of_ble_eq_true rfl, Nat.le_of_ble_eq_true rfl⟩) (preSy_ hPc hK hDc rfl hS hU hN hFc hC) rfl rfl hl.1 rfl (lv_room (Nat.le_of_ble_eq_true rfl)) dX5_gapDay_1 ⟨Nat.le_of_ble_eq_true rfl, Nat.le_of_ble_eq_true rfl⟩) hS (fun q _ h => hFc q h) hFc (fun q _ h => hFc q h) (fun E ce q9 u t H7 locs ht hvm hp hB hz1 hk1 hS hce hcv hcl => ?_) (fun u t H7 locs ht hvm hw hB hz1 hk1 hS => ?_)
    · exact absurd hB.1 (fun h => nomatch h)
    · obtain ⟨hP, hD⟩ := aft_ (Wr := wD_ d0 s0 z0 b0 q0 t0 dhasSaved dkeptError dmoved ++ wS_ s0 v0 f0 r0 ++ wV_ v0 v_keys v_firsts v_ends v_values v_inferred v_gone cI cZ vkeys vfirsts vends vvalues vinferred vgone vmade ++ wF_ f0 f_keys f_days f_amounts f_versions cI fkeys fdays famounts fversions fcount ++ wR_ r0 r_keys r_days r_values cI rkeys rdays rvalues rcount) (Wc' := []) (W2 := wD_ d0 s0 z0 b0 q0 t0 dhasSaved dkeptError dmoved ++ wS_ s0 v0 f0 r0 ++ wV_ v0 v_keys v_firsts v_ends v_values v_inferred v_gone cI cZ vkeys vfirsts vends vvalues vinferred vgone vmade ++ wF_ f0 f_keys f_days f_amounts f_versions cI fkeys fdays famounts fversions fcount ++ wR_ r0 r_keys r_days r_values cI rkeys rdays rvalues rcount) hP hD [] [0, 1, 2, 3, 4, 5, 6, 7, 8, 9, 10, 11, 12, 13, 14, 15, 16, 17] [0, 1, 2, 3, 4, 5, 6, 7, 8, 9, 10, 11, 12, 13, 14, 15, 16, 17] rfl rfl (by decide) (by decide) (by decide) hk1 hFc hB ht rfl
      refine lv_aload_n hx hb dX5_gapDay_4 rfl (lv_at hl 0 rfl) ?_
      refine va_get (D := (dC, dI)) (ci := 7) (v := .ref s0) (C := RX5) (T := TX5) (N := 8) hx hb hts inX5_ hown hK hP 0 rfl rfl 0 (by decide) fl10_ (fun _ h9 => h9) rfl dX5_gapDay_5 ?_
      refine va_get (D := (dC, dI)) (ci := 4) (v := .ref v0) (C := RX2) (T := TX2) (N := 3) hx hb hts inX2_ hown hK hP 1 rfl rfl 0 (by decide) fl51_ (fun _ h9 => h9) rfl dX5_gapDay_8 ?_
      refine lv_astore (lv' := [(4, .ref v0), (0, .ref d0), (1, .int a1), (2, .int a2), (3, .int a3)]) hx hb dX5_gapDay_11 hl (by decide) rfl (fun ls hl => ?_)
      refine lv_aload hx hb dX5_gapDay_13 (lv_at hl 0 rfl) ?_
      refine lv_iload_n hx hb dX5_gapDay_15 rfl (lv_at hl 2 rfl) ?_
      refine lv_iload_n hx hb dX5_gapDay_16 rfl (lv_at hl 3 rfl) ?_
      obtain ⟨R11, g12, hf⟩ := bd_B hf
      obtain ⟨r10, rfl⟩ : ∃ z, z = R11 := ⟨_, rfl⟩
      have hPc := hP.sub (ws' := wV_ v0 v_keys v_firsts v_ends v_values v_inferred v_gone cI cZ vkeys vfirsts vends vvalues vinferred vgone vmade) [2, 3, 4, 5, 6, 7, 8] rfl
      have hDc := hD.sub (ws' := wV_ v0 v_keys v_firsts v_ends v_values v_inferred v_gone cI cZ vkeys vfirsts vends vvalues vinferred vgone vmade) [2, 3, 4, 5, 6, 7, 8] (by decide) rfl
      have hFc := va_free (wc := wV_ v0 v_keys v_firsts v_ends v_values v_inferred v_gone cI cZ vkeys vfirsts vends vvalues vinferred vgone vmade) hD hS hA [2, 3, 4, 5, 6, 7, 8] rfl
      refine va_calli (va_runV (As := [.int a1, .int a2]) (rest := []) ⟨hx, hb, hml, hown, hts⟩ (c_X4_aheadOfGap l dC dI cI cZ cC cJ cD v0 v_keys v_firsts v_ends v_values v_inferred v_gone H7.size vkeys vfirsts vends vvalues vinferred vgone vmade a1 a2 r10 g12) (cwV 2 hts gX5_gapDay_X4_aheadOfGap rfl rfl rfl hs_X4_aheadOfGap ⟨Nat.le_of_ble_eq_true rfl, Nat.le_of_ble_eq_true rfl⟩) (preV_ (ci := 6) (q0 := 0) hPc hK hDc rfl rfl rfl rfl) rfl rfl hl.1 rfl (lv_room (Nat.le_of_ble_eq_true rfl)) dX5_gapDay_17 ⟨Nat.le_of_ble_eq_true rfl, Nat.le_of_ble_eq_true rfl⟩) hS (fun q _ h => hFc q h) hFc (fun z14 u t H13 locs ht hvm hw hB hz1 hk1 hS => ?_)
      have hw : r10 = z14 := hw.symm
      subst hw
      obtain ⟨hP, hD⟩ := aft_ (Wr := wD_ d0 s0 z0 b0 q0 t0 dhasSaved dkeptError dmoved ++ wS_ s0 v0 f0 r0 ++ wF_ f0 f_keys f_days f_amounts f_versions cI fkeys fdays famounts fversions fcount ++ wR_ r0 r_keys r_days r_values cI rkeys rdays rvalues rcount) (Wc' := wV_ v0 v_keys v_firsts v_ends v_values v_inferred v_gone cI cZ vkeys vfirsts vends vvalues vinferred vgone vmade) (W2 := wD_ d0 s0 z0 b0 q0 t0 dhasSaved dkeptError dmoved ++ wS_ s0 v0 f0 r0 ++ wV_ v0 v_keys v_firsts v_ends v_values v_inferred v_gone cI cZ vkeys vfirsts vends vvalues vinferred vgone vmade ++ wF_ f0 f_keys f_days f_amounts f_versions cI fkeys fdays famounts fversions fcount ++ wR_ r0 r_keys r_days r_values cI rkeys rdays rvalues rcount) hP hD [2, 3, 4, 5, 6, 7, 8] [0, 1, 9, 10, 11, 12, 13, 14, 15, 16, 17] [0, 1, 11, 12, 13, 14, 15, 16, 17, 2, 3, 4, 5, 6, 7, 8, 9, 10] rfl rfl (by decide) (by decide) (by decide) hk1 hFc hB ht rfl
      obtain ⟨R17, g18, hf⟩ := bd_B hf
      obtain ⟨x15, rfl⟩ : ∃ z, z = R17 := ⟨_, rfl⟩
      have hPc := hP.sub (ws' := []) [] rfl
      have hDc := hD.sub (ws' := []) [] (by decide) rfl
      have hFc := va_free (wc := []) hD hS hA [] rfl
      cases x15 with
      | error E23 =>
        have hR := Option.some.inj hf
        subst hR
        refine vx_calli (vx_runS (As := [.int r10]) (rest := []) ⟨hx, hb, hml, hown, hts⟩ (c_X5_found l dC dI cI cZ cC cJ cD hst H13.size r10 (Except.error E23) g18) (cwS 1 hts gX5_gapDay_X5_found rfl rfl rfl hs_X5_found ⟨Nat.le_of_ble_eq_true rfl, Nat.le_of_ble_eq_true rfl⟩) (preSy_ hPc hK hDc rfl hS hU hN hFc hC) rfl rfl hl.1 rfl (lv_room (Nat.le_of_ble_eq_true rfl)) dX5_gapDay_20 ⟨Nat.le_of_ble_eq_true rfl, Nat.le_of_ble_eq_true rfl⟩) hS (fun q _ h => hFc q h) hFc (fun q _ h => hFc q h) (fun E ce q9 u t H21 locs ht hvm hp hB hz1 hk1 hS hce hcv hcl => ?_) (fun z22 u t H21 locs ht hvm hw hB hz1 hk1 hS => ?_)
        · obtain ⟨hE, hB⟩ := hB
          cases hE
          obtain ⟨hP, hD⟩ := aft_ (Wr := wD_ d0 s0 z0 b0 q0 t0 dhasSaved dkeptError dmoved ++ wS_ s0 v0 f0 r0 ++ wV_ v0 v_keys v_firsts v_ends v_values v_inferred v_gone cI cZ vkeys vfirsts vends vvalues vinferred vgone vmade ++ wF_ f0 f_keys f_days f_amounts f_versions cI fkeys fdays famounts fversions fcount ++ wR_ r0 r_keys r_days r_values cI rkeys rdays rvalues rcount) (Wc' := []) (W2 := wD_ d0 s0 z0 b0 q0 t0 dhasSaved dkeptError dmoved ++ wS_ s0 v0 f0 r0 ++ wV_ v0 v_keys v_firsts v_ends v_values v_inferred v_gone cI cZ vkeys vfirsts vends vvalues vinferred vgone vmade ++ wF_ f0 f_keys f_days f_amounts f_versions cI fkeys fdays famounts fversions fcount ++ wR_ r0 r_keys r_days r_values cI rkeys rdays rvalues rcount) hP hD [] [0, 1, 2, 3, 4, 5, 6, 7, 8, 9, 10, 11, 12, 13, 14, 15, 16, 17] [0, 1, 2, 3, 4, 5, 6, 7, 8, 9, 10, 11, 12, 13, 14, 15, 16, 17] rfl rfl (by decide) (by decide) (by decide) hk1 hFc hB ht rfl
          exact vx_out (fun x h => (htab x h).elim) hlocks hce hcv hcl (thr2_ hS hP hK hD rfl) hS.2.2 (Nat.le_of_ble_eq_true rfl) (Nat.le_of_ble_eq_true rfl)
        · exact absurd hw (fun h => nomatch h)
      | ok r16 =>
        refine vx_calli (vx_runS (As := [.int r10]) (rest := []) ⟨hx, hb, hml, hown, hts⟩ (c_X5_found l dC dI cI cZ cC cJ cD hst H13.size r10 (Except.ok r16) g18) (cwS 1 hts gX5_gapDay_X5_found rfl rfl rfl hs_X5_found ⟨Nat.le_of_ble_eq_true rfl, Nat.le_of_ble_eq_true rfl⟩) (preSy_ hPc hK hDc rfl hS hU hN hFc hC) rfl rfl hl.1 rfl (lv_room (Nat.le_of_ble_eq_true rfl)) dX5_gapDay_20 ⟨Nat.le_of_ble_eq_true rfl, Nat.le_of_ble_eq_true rfl⟩) hS (fun q _ h => hFc q h) hFc (fun q _ h => hFc q h) (fun E ce q9 u t H21 locs ht hvm hp hB hz1 hk1 hS hce hcv hcl => ?_) (fun z22 u t H21 locs ht hvm hw hB hz1 hk1 hS => ?_)
        · exact absurd hB.1 (fun h => nomatch h)
        · have hw : r16 = z22 := Except.ok.inj hw
          subst hw
          obtain ⟨hP, hD⟩ := aft_ (Wr := wD_ d0 s0 z0 b0 q0 t0 dhasSaved dkeptError dmoved ++ wS_ s0 v0 f0 r0 ++ wV_ v0 v_keys v_firsts v_ends v_values v_inferred v_gone cI cZ vkeys vfirsts vends vvalues vinferred vgone vmade ++ wF_ f0 f_keys f_days f_amounts f_versions cI fkeys fdays famounts fversions fcount ++ wR_ r0 r_keys r_days r_values cI rkeys rdays rvalues rcount) (Wc' := []) (W2 := wD_ d0 s0 z0 b0 q0 t0 dhasSaved dkeptError dmoved ++ wS_ s0 v0 f0 r0 ++ wV_ v0 v_keys v_firsts v_ends v_values v_inferred v_gone cI cZ vkeys vfirsts vends vvalues vinferred vgone vmade ++ wF_ f0 f_keys f_days f_amounts f_versions cI fkeys fdays famounts fversions fcount ++ wR_ r0 r_keys r_days r_values cI rkeys rdays rvalues rcount) hP hD [] [0, 1, 2, 3, 4, 5, 6, 7, 8, 9, 10, 11, 12, 13, 14, 15, 16, 17] [0, 1, 2, 3, 4, 5, 6, 7, 8, 9, 10, 11, 12, 13, 14, 15, 16, 17] rfl rfl (by decide) (by decide) (by decide) hk1 hFc hB ht rfl
          refine lv_istore (lv' := [(5, .int r16), (4, .ref v0), (0, .ref d0), (1, .int a1), (2, .int a2), (3, .int a3)]) hx hb dX5_gapDay_23 hl (by decide) rfl (fun ls hl => ?_)
          refine lv_iload_n hx hb dX5_gapDay_25 rfl (lv_at hl 5 rfl) ?_
          refine lv_if_eq (tgt := 48) hx hb dX5_gapDay_26 (by decide) (fun c24 => ?_) (fun c24 => ?_)
          · have hf := ite_T c24 hf
            refine lv_aload hx hb dX5_gapDay_48 (lv_at hl 1 rfl) ?_
            refine va_get (D := (dC, dI)) (ci := 6) (v := .ref v_ends) (C := RX4) (T := TX4) (N := 7) hx hb hts inX4_ hown hK hP 2 rfl rfl 2 (by decide) fl96_ (fun _ h9 => h9) rfl dX5_gapDay_50 ?_
            refine lv_iload hx hb dX5_gapDay_53 (lv_at hl 0 rfl) ?_
            obtain ⟨h25, hf⟩ := gd_T hf
            refine va_iald hx hb hK hP 5 0 rfl rfl h25 dX5_gapDay_55 ?_
            have hR := Option.some.inj hf
            subst hR
            refine vx_ret (W.widen (k := 2) (n := 12) (Nat.le_of_ble_eq_true rfl) (Nat.le_of_ble_eq_true rfl) ?_)
            exact W.iret (v := vends r16.toNatClampNeg) hx hb hr (fun t ht hW => ⟨⟨vends r16.toNatClampNeg, (), rfl, rfl, by rw [ht]; exact hP, va_K.moved hW.alike hK, hD⟩, hS.F ht⟩) hS.2.2 dX5_gapDay_56
          · have hf := ite_F c24 hf
            refine lv_aload hx hb dX5_gapDay_29 (lv_at hl 1 rfl) ?_
            refine lv_iload_n hx hb dX5_gapDay_31 rfl (lv_at hl 3 rfl) ?_
            refine lv_aload hx hb dX5_gapDay_32 (lv_at hl 1 rfl) ?_
            refine va_get (D := (dC, dI)) (ci := 6) (v := .ref v_firsts) (C := RX4) (T := TX4) (N := 7) hx hb hts inX4_ hown hK hP 2 rfl rfl 1 (by decide) fl88_ (fun _ h9 => h9) rfl dX5_gapDay_34 ?_
            refine lv_iload hx hb dX5_gapDay_37 (lv_at hl 0 rfl) ?_
            obtain ⟨h26, hf⟩ := gd_T hf
            refine va_iald hx hb hK hP 4 0 rfl rfl h26 dX5_gapDay_39 ?_
            obtain ⟨R28, g29, hf⟩ := bd_B hf
            obtain ⟨r27, rfl⟩ : ∃ z, z = R28 := ⟨_, rfl⟩
            have hPc := hP.sub (ws' := wV_ v0 v_keys v_firsts v_ends v_values v_inferred v_gone cI cZ vkeys vfirsts vends vvalues vinferred vgone vmade) [2, 3, 4, 5, 6, 7, 8] rfl
            have hDc := hD.sub (ws' := wV_ v0 v_keys v_firsts v_ends v_values v_inferred v_gone cI cZ vkeys vfirsts vends vvalues vinferred vgone vmade) [2, 3, 4, 5, 6, 7, 8] (by decide) rfl
            have hFc := va_free (wc := wV_ v0 v_keys v_firsts v_ends v_values v_inferred v_gone cI cZ vkeys vfirsts vends vvalues vinferred vgone vmade) hD hS hA [2, 3, 4, 5, 6, 7, 8] rfl
            refine va_calli (va_runV (As := [.int a1, .int (vfirsts r16.toNatClampNeg)]) (rest := []) ⟨hx, hb, hml, hown, hts⟩ (c_X4_nextFirst l dC dI cI cZ cC cJ cD v0 v_keys v_firsts v_ends v_values v_inferred v_gone H21.size vkeys vfirsts vends vvalues vinferred vgone vmade a1 (vfirsts r16.toNatClampNeg) r27 g29) (cwV 2 hts gX5_gapDay_X4_nextFirst rfl rfl rfl hs_X4_nextFirst ⟨Nat.le_of_ble_eq_true rfl, Nat.le_of_ble_eq_true rfl⟩) (preV_ (ci := 6) (q0 := 0) hPc hK hDc rfl rfl rfl rfl) rfl rfl hl.1 rfl (lv_room (Nat.le_of_ble_eq_true rfl)) dX5_gapDay_40 ⟨Nat.le_of_ble_eq_true rfl, Nat.le_of_ble_eq_true rfl⟩) hS (fun q _ h => hFc q h) hFc (fun z31 u t H30 locs ht hvm hw hB hz1 hk1 hS => ?_)
            have hw : r27 = z31 := hw.symm
            subst hw
            obtain ⟨hP, hD⟩ := aft_ (Wr := wD_ d0 s0 z0 b0 q0 t0 dhasSaved dkeptError dmoved ++ wS_ s0 v0 f0 r0 ++ wF_ f0 f_keys f_days f_amounts f_versions cI fkeys fdays famounts fversions fcount ++ wR_ r0 r_keys r_days r_values cI rkeys rdays rvalues rcount) (Wc' := wV_ v0 v_keys v_firsts v_ends v_values v_inferred v_gone cI cZ vkeys vfirsts vends vvalues vinferred vgone vmade) (W2 := wD_ d0 s0 z0 b0 q0 t0 dhasSaved dkeptError dmoved ++ wS_ s0 v0 f0 r0 ++ wV_ v0 v_keys v_firsts v_ends v_values v_inferred v_gone cI cZ vkeys vfirsts vends vvalues vinferred vgone vmade ++ wF_ f0 f_keys f_days f_amounts f_versions cI fkeys fdays famounts fversions fcount ++ wR_ r0 r_keys r_days r_values cI rkeys rdays rvalues rcount) hP hD [2, 3, 4, 5, 6, 7, 8] [0, 1, 9, 10, 11, 12, 13, 14, 15, 16, 17] [0, 1, 11, 12, 13, 14, 15, 16, 17, 2, 3, 4, 5, 6, 7, 8, 9, 10] rfl rfl (by decide) (by decide) (by decide) hk1 hFc hB ht rfl
            refine lv_iconst (v := 1) hx hb dX5_gapDay_43 (by decide) ?_
            refine lv_isub hx hb dX5_gapDay_44 ?_
            refine lv_goto (tgt := 56) hx hb dX5_gapDay_45 (by decide) ?_
            have hR := Option.some.inj hf
            subst hR
            refine vx_ret (W.widen (k := 2) (n := 12) (Nat.le_of_ble_eq_true rfl) (Nat.le_of_ble_eq_true rfl) ?_)
            exact W.iret (v := r27 - 1) hx hb hr (fun t ht hW => ⟨⟨r27 - 1, (), rfl, rfl, by rw [ht]; exact hP, va_K.moved hW.alike hK, hD⟩, hS.F ht⟩) hS.2.2 dX5_gapDay_56
theorem hs_X5_gapDay : yX5_gapDay.cls = RX5 ∧ yX5_gapDay.cls ≠ "java/lang/invoke/MethodHandle" ∧ yX5_gapDay.cls ≠ "java/lang/invoke/VarHandle" ∧ (parseMethodDescriptor yX5_gapDay.desc).map (fun d => d.parameters.length) = some 3 := by decide +kernel
set_option maxRecDepth 20000 in
theorem in_X5_gapDays_X2 : ∀ w ∈ wsX20, w ∈ wsX5_gapDays := by decide +kernel
set_option maxRecDepth 20000 in
theorem in_X5_gapDays_X5 : ∀ w ∈ wsX50, w ∈ wsX5_gapDays := by decide +kernel
def f_X5_gapDays  (D_ : tD_) (S_ : tS_) (V_ : tV_) (F_ : tF_) (R_ : tR_) : Option (Int32) :=
match D_ with
| (dhasSaved, dkeptError, dmoved) =>
match V_ with
| (vkeys, vfirsts, vends, vvalues, vinferred, vgone, vmade) =>
match F_ with
| (fkeys, fdays, famounts, fversions, fcount) =>
match R_ with
| (rkeys, rdays, rvalues, rcount) =>
bd_ (f_X4_sumGaps (vkeys, vfirsts, vends, vvalues, vinferred, vgone, vmade)) (fun r1 =>
some r1)
abbrev rm_X5_gapDays : Room := { frames := 6, cells := 0, slots := 0, locals := 133 }
set_option maxHeartbeats 4000000 in
set_option maxRecDepth 100000 in
theorem c_X5_gapDays (l : Launch) (dC : Nat → ClassId) (dI : Nat → Nat → Nat) (cI cZ cC cJ cD : ClassId) (d0 s0 z0 b0 q0 t0 v0 f0 r0 v_keys v_firsts v_ends v_values v_inferred v_gone f_keys f_days f_amounts f_versions r_keys r_days r_values : Nat) (sz : Nat) (dhasSaved : Int32) (dkeptError : Int32) (dmoved : Int32) (vkeys : Nat → Int32) (vfirsts : Nat → Int32) (vends : Nat → Int32) (vvalues : Nat → Int32) (vinferred : Nat → Int32) (vgone : Nat → Int32) (vmade : Int32) (fkeys : Nat → Int32) (fdays : Nat → Int32) (famounts : Nat → Int32) (fversions : Nat → Int32) (fcount : Int32) (rkeys : Nat → Int32) (rdays : Nat → Int32) (rvalues : Nat → Int32) (rcount : Int32)  (R : Int32) (hf : f_X5_gapDays  (dhasSaved, dkeptError, dmoved) () (vkeys, vfirsts, vends, vvalues, vinferred, vgone, vmade) (fkeys, fdays, famounts, fversions, fcount) (rkeys, rdays, rvalues, rcount) = some R) : Met l yX5_gapDays wsX5_gapDays rm_X5_gapDays (Pc_ (dC, dI) (ty_ cI cZ cC cJ cD) (wD_ d0 s0 z0 b0 q0 t0 dhasSaved dkeptError dmoved ++ wS_ s0 v0 f0 r0 ++ wV_ v0 v_keys v_firsts v_ends v_values v_inferred v_gone cI cZ vkeys vfirsts vends vvalues vinferred vgone vmade ++ wF_ f0 f_keys f_days f_amounts f_versions cI fkeys fdays famounts fversions fcount ++ wR_ r0 r_keys r_days r_values cI rkeys rdays rvalues rcount) sz [.ref d0]) (Qi_ (dC, dI) (ty_ cI cZ cC cJ cD) R (wD_ d0 s0 z0 b0 q0 t0 dhasSaved dkeptError dmoved ++ wS_ s0 v0 f0 r0 ++ wV_ v0 v_keys v_firsts v_ends v_values v_inferred v_gone cI cZ vkeys vfirsts vends vvalues vinferred vgone vmade ++ wF_ f0 f_keys f_days f_amounts f_versions cI fkeys fdays famounts fversions fcount ++ wR_ r0 r_keys r_days r_values cI rkeys rdays rvalues rcount) (va_A (wD_ d0 s0 z0 b0 q0 t0 dhasSaved dkeptError dmoved ++ wS_ s0 v0 f0 r0 ++ wV_ v0 v_keys v_firsts v_ends v_values v_inferred v_gone cI cZ vkeys vfirsts vends vvalues vinferred vgone vmade ++ wF_ f0 f_keys f_days f_amounts f_versions cI fkeys fdays famounts fversions fcount ++ wR_ r0 r_keys r_days r_values cI rkeys rdays rvalues rcount) sz)) 0 0 (va_A (wD_ d0 s0 z0 b0 q0 t0 dhasSaved dkeptError dmoved ++ wS_ s0 v0 f0 r0 ++ wV_ v0 v_keys v_firsts v_ends v_values v_inferred v_gone cI cZ vkeys vfirsts vends vvalues vinferred vgone vmade ++ wF_ f0 f_keys f_days f_amounts f_versions cI fkeys fdays famounts fversions fcount ++ wR_ r0 r_keys r_days r_values cI rkeys rdays rvalues rcount) sz) := by
  refine met_ (cc := cX5_gapDays) (maxL := 1) (ret := (some .int)) (Qcf := fun A => Qi_ (dC, dI) (ty_ cI cZ cC cJ cD) R (wD_ d0 s0 z0 b0 q0 t0 dhasSaved dkeptError dmoved ++ wS_ s0 v0 f0 r0 ++ wV_ v0 v_keys v_firsts v_ends v_values v_inferred v_gone cI cZ vkeys vfirsts vends vvalues vinferred vgone vmade ++ wF_ f0 f_keys f_days f_amounts f_versions cI fkeys fdays famounts fversions fcount ++ wR_ r0 r_keys r_days r_values cI rkeys rdays rvalues rcount) A) (by decide) rfl (Nat.le_of_ble_eq_true rfl) ?_
  intro p e s m args below meth c A ls hx hb hr hts hown hlocks hml hA hP hK hD hl
  have hown : s.vm.findClass RX5 = some m.cls := hown
  have hl : lv_has ls 1 [(0, .ref d0)] := hl
  have hS : va_S A s.heap s.heap [] := va_S.rf
  have fl10_ : (Cond.fieldLink RX5 10 "DimensionLoader" "live" "LDimensionLoader$Store;").before args s = true := hts _ (List.mem_of_getElem? (i := 1) rfl)
  have fl51_ : (Cond.fieldLink RX5 51 "DimensionLoader$Store" "versions" "LDimensionLoader$Versions;").before args s = true := hts _ (List.mem_of_getElem? (i := 2) rfl)
  have inX2_ : ∀ w ∈ wsX20, w ∈ wsX5_gapDays := in_X5_gapDays_X2
  have inX5_ : ∀ w ∈ wsX50, w ∈ wsX5_gapDays := in_X5_gapDays_X5
  unfold f_X5_gapDays at hf
  dsimp only at hf
  refine lv_aload_n hx hb dX5_gapDays_0 rfl (lv_at hl 0 rfl) ?_
  refine va_get (D := (dC, dI)) (ci := 7) (v := .ref s0) (C := RX5) (T := TX5) (N := 8) hx hb hts inX5_ hown hK hP 0 rfl rfl 0 (by decide) fl10_ (fun _ h9 => h9) rfl dX5_gapDays_1 ?_
  refine va_get (D := (dC, dI)) (ci := 4) (v := .ref v0) (C := RX2) (T := TX2) (N := 3) hx hb hts inX2_ hown hK hP 1 rfl rfl 0 (by decide) fl51_ (fun _ h9 => h9) rfl dX5_gapDays_4 ?_
  obtain ⟨R2, g3, hf⟩ := bd_B hf
  obtain ⟨r1, rfl⟩ : ∃ z, z = R2 := ⟨_, rfl⟩
  have hPc := hP.sub (ws' := wV_ v0 v_keys v_firsts v_ends v_values v_inferred v_gone cI cZ vkeys vfirsts vends vvalues vinferred vgone vmade) [2, 3, 4, 5, 6, 7, 8] rfl
  have hDc := hD.sub (ws' := wV_ v0 v_keys v_firsts v_ends v_values v_inferred v_gone cI cZ vkeys vfirsts vends vvalues vinferred vgone vmade) [2, 3, 4, 5, 6, 7, 8] (by decide) rfl
  have hFc := va_free (wc := wV_ v0 v_keys v_firsts v_ends v_values v_inferred v_gone cI cZ vkeys vfirsts vends vvalues vinferred vgone vmade) hD hS hA [2, 3, 4, 5, 6, 7, 8] rfl
  refine va_calli (va_runV (As := []) (rest := []) ⟨hx, hb, hml, hown, hts⟩ (c_X4_sumGaps l dC dI cI cZ cC cJ cD v0 v_keys v_firsts v_ends v_values v_inferred v_gone s.heap.size vkeys vfirsts vends vvalues vinferred vgone vmade r1 g3) (cwV 0 hts gX5_gapDays_X4_sumGaps rfl rfl rfl hs_X4_sumGaps ⟨Nat.le_of_ble_eq_true rfl, Nat.le_of_ble_eq_true rfl⟩) (preV_ (ci := 6) (q0 := 0) hPc hK hDc rfl rfl rfl rfl) rfl rfl hl.1 rfl (lv_room (Nat.le_of_ble_eq_true rfl)) dX5_gapDays_7 ⟨Nat.le_of_ble_eq_true rfl, Nat.le_of_ble_eq_true rfl⟩) hS (fun q _ h => hFc q h) hFc (fun z5 u t H4 locs ht hvm hw hB hz1 hk1 hS => ?_)
  have hw : r1 = z5 := hw.symm
  subst hw
  obtain ⟨hP, hD⟩ := aft_ (Wr := wD_ d0 s0 z0 b0 q0 t0 dhasSaved dkeptError dmoved ++ wS_ s0 v0 f0 r0 ++ wF_ f0 f_keys f_days f_amounts f_versions cI fkeys fdays famounts fversions fcount ++ wR_ r0 r_keys r_days r_values cI rkeys rdays rvalues rcount) (Wc' := wV_ v0 v_keys v_firsts v_ends v_values v_inferred v_gone cI cZ vkeys vfirsts vends vvalues vinferred vgone vmade) (W2 := wD_ d0 s0 z0 b0 q0 t0 dhasSaved dkeptError dmoved ++ wS_ s0 v0 f0 r0 ++ wV_ v0 v_keys v_firsts v_ends v_values v_inferred v_gone cI cZ vkeys vfirsts vends vvalues vinferred vgone vmade ++ wF_ f0 f_keys f_days f_amounts f_versions cI fkeys fdays famounts fversions fcount ++ wR_ r0 r_keys r_days r_values cI rkeys rdays rvalues rcount) hP hD [2, 3, 4, 5, 6, 7, 8] [0, 1, 9, 10, 11, 12, 13, 14, 15, 16, 17] [0, 1, 11, 12, 13, 14, 15, 16, 17, 2, 3, 4, 5, 6, 7, 8, 9, 10] rfl rfl (by decide) (by decide) (by decide) hk1 hFc hB ht rfl
  have hR := Option.some.inj hf
  subst hR
  exact W.iret (v := r1) hx hb hr (fun t ht hW => ⟨⟨r1, (), rfl, rfl, by rw [ht]; exact hP, va_K.moved hW.alike hK, hD⟩, hS.F ht⟩) hS.2.2 dX5_gapDays_10
theorem hs_X5_gapDays : yX5_gapDays.cls = RX5 ∧ yX5_gapDays.cls ≠ "java/lang/invoke/MethodHandle" ∧ yX5_gapDays.cls ≠ "java/lang/invoke/VarHandle" ∧ (parseMethodDescriptor yX5_gapDays.desc).map (fun d => d.parameters.length) = some 0 := by decide +kernel
set_option maxRecDepth 20000 in
theorem in_X5_coverage_X2 : ∀ w ∈ wsX20, w ∈ wsX5_coverage := by decide +kernel
set_option maxRecDepth 20000 in
theorem in_X5_coverage_X5 : ∀ w ∈ wsX50, w ∈ wsX5_coverage := by decide +kernel
set_option maxRecDepth 20000 in
theorem at_X5_coverage_204 : ∀ w ∈ (vx_at0 RX5 204 "java/lang/ArithmeticException" ["java/lang/RuntimeException", "java/lang/Exception"]).filter goodWord, w ∈ wsX5_coverage := by decide +kernel
set_option maxRecDepth 20000 in
theorem at_X5_coverage_204g : ∀ w ∈ Cond.classLink RX5 202 "java/lang/ArithmeticException" :: Cond.initialized "java/lang/ArithmeticException" :: vx_at0 RX5 204 "java/lang/ArithmeticException" ["java/lang/RuntimeException", "java/lang/Exception"], vx_ot w = true := by decide +kernel
def f_X5_coverage (a1 : Int32) (D_ : tD_) (S_ : tS_) (V_ : tV_) (F_ : tF_) (R_ : tR_) : Option (Except String UInt64) :=
match D_ with
| (dhasSaved, dkeptError, dmoved) =>
match V_ with
| (vkeys, vfirsts, vends, vvalues, vinferred, vgone, vmade) =>
match F_ with
| (fkeys, fdays, famounts, fversions, fcount) =>
match R_ with
| (rkeys, rdays, rvalues, rcount) =>
bd_ (f_X5_checkKey a1) (fun x1 =>
match x1 with
| Except.error E9 => some (Except.error E9)
| Except.ok v2 =>
bd_ (f_X4_countOf a1 (vkeys, vfirsts, vends, vvalues, vinferred, vgone, vmade)) (fun r10 =>
if r10 = 0 then
some (Except.error "java/lang/ArithmeticException")
else
bd_ (f_X4_sumDays a1 (vkeys, vfirsts, vends, vvalues, vinferred, vgone, vmade)) (fun r16 =>
bd_ (f_X4_nextFirst a1 (-1 : Int32) (vkeys, vfirsts, vends, vvalues, vinferred, vgone, vmade)) (fun r21 =>
gN_ (FP.i2d r16) (FP.i2d (1000 - r21)) (
some (Except.ok (FP.ddiv (FP.i2d r16) (FP.i2d (1000 - r21)))))))))
abbrev rm_X5_coverage : Room := { frames := 7, cells := 2, slots := 12, locals := 109 }
set_option maxHeartbeats 4000000 in
set_option maxRecDepth 100000 in
theorem c_X5_coverage (l : Launch) (dC : Nat → ClassId) (dI : Nat → Nat → Nat) (cI cZ cC cJ cD : ClassId) (hst : l.stackTraces = false) (d0 s0 z0 b0 q0 t0 v0 f0 r0 v_keys v_firsts v_ends v_values v_inferred v_gone f_keys f_days f_amounts f_versions r_keys r_days r_values : Nat) (sz : Nat) (dhasSaved : Int32) (dkeptError : Int32) (dmoved : Int32) (vkeys : Nat → Int32) (vfirsts : Nat → Int32) (vends : Nat → Int32) (vvalues : Nat → Int32) (vinferred : Nat → Int32) (vgone : Nat → Int32) (vmade : Int32) (fkeys : Nat → Int32) (fdays : Nat → Int32) (famounts : Nat → Int32) (fversions : Nat → Int32) (fcount : Int32) (rkeys : Nat → Int32) (rdays : Nat → Int32) (rvalues : Nat → Int32) (rcount : Int32) (a1 : Int32) (R : Except String UInt64) (hf : f_X5_coverage a1 (dhasSaved, dkeptError, dmoved) () (vkeys, vfirsts, vends, vvalues, vinferred, vgone, vmade) (fkeys, fdays, famounts, fversions, fcount) (rkeys, rdays, rvalues, rcount) = some R) : vx_Met l yX5_coverage wsX5_coverage rm_X5_coverage (Py_ (dC, dI) (ty_ cI cZ cC cJ cD) (wD_ d0 s0 z0 b0 q0 t0 dhasSaved dkeptError dmoved ++ wS_ s0 v0 f0 r0 ++ wV_ v0 v_keys v_firsts v_ends v_values v_inferred v_gone cI cZ vkeys vfirsts vends vvalues vinferred vgone vmade ++ wF_ f0 f_keys f_days f_amounts f_versions cI fkeys fdays famounts fversions fcount ++ wR_ r0 r_keys r_days r_values cI rkeys rdays rvalues rcount) sz [.ref d0, .int a1]) (Xd_ (dC, dI) (ty_ cI cZ cC cJ cD) R (wD_ d0 s0 z0 b0 q0 t0 dhasSaved dkeptError dmoved ++ wS_ s0 v0 f0 r0 ++ wV_ v0 v_keys v_firsts v_ends v_values v_inferred v_gone cI cZ vkeys vfirsts vends vvalues vinferred vgone vmade ++ wF_ f0 f_keys f_days f_amounts f_versions cI fkeys fdays famounts fversions fcount ++ wR_ r0 r_keys r_days r_values cI rkeys rdays rvalues rcount) (va_A (wD_ d0 s0 z0 b0 q0 t0 dhasSaved dkeptError dmoved ++ wS_ s0 v0 f0 r0 ++ wV_ v0 v_keys v_firsts v_ends v_values v_inferred v_gone cI cZ vkeys vfirsts vends vvalues vinferred vgone vmade ++ wF_ f0 f_keys f_days f_amounts f_versions cI fkeys fdays famounts fversions fcount ++ wR_ r0 r_keys r_days r_values cI rkeys rdays rvalues rcount) sz)) (XX_ (dC, dI) (ty_ cI cZ cC cJ cD) R (wD_ d0 s0 z0 b0 q0 t0 dhasSaved dkeptError dmoved ++ wS_ s0 v0 f0 r0 ++ wV_ v0 v_keys v_firsts v_ends v_values v_inferred v_gone cI cZ vkeys vfirsts vends vvalues vinferred vgone vmade ++ wF_ f0 f_keys f_days f_amounts f_versions cI fkeys fdays famounts fversions fcount ++ wR_ r0 r_keys r_days r_values cI rkeys rdays rvalues rcount) (va_A (wD_ d0 s0 z0 b0 q0 t0 dhasSaved dkeptError dmoved ++ wS_ s0 v0 f0 r0 ++ wV_ v0 v_keys v_firsts v_ends v_values v_inferred v_gone cI cZ vkeys vfirsts vends vvalues vinferred vgone vmade ++ wF_ f0 f_keys f_days f_amounts f_versions cI fkeys fdays famounts fversions fcount ++ wR_ r0 r_keys r_days r_values cI rkeys rdays rvalues rcount) sz)) 2 12 (va_A (wD_ d0 s0 z0 b0 q0 t0 dhasSaved dkeptError dmoved ++ wS_ s0 v0 f0 r0 ++ wV_ v0 v_keys v_firsts v_ends v_values v_inferred v_gone cI cZ vkeys vfirsts vends vvalues vinferred vgone vmade ++ wF_ f0 f_keys f_days f_amounts f_versions cI fkeys fdays famounts fversions fcount ++ wR_ r0 r_keys r_days r_values cI rkeys rdays rvalues rcount) sz) := by
  refine mety_ (cc := cX5_coverage) (maxL := 2) (ret := (some .double)) (Qcf := fun A => Xd_ (dC, dI) (ty_ cI cZ cC cJ cD) R (wD_ d0 s0 z0 b0 q0 t0 dhasSaved dkeptError dmoved ++ wS_ s0 v0 f0 r0 ++ wV_ v0 v_keys v_firsts v_ends v_values v_inferred v_gone cI cZ vkeys vfirsts vends vvalues vinferred vgone vmade ++ wF_ f0 f_keys f_days f_amounts f_versions cI fkeys fdays famounts fversions fcount ++ wR_ r0 r_keys r_days r_values cI rkeys rdays rvalues rcount) A) (XCf := fun A => XX_ (dC, dI) (ty_ cI cZ cC cJ cD) R (wD_ d0 s0 z0 b0 q0 t0 dhasSaved dkeptError dmoved ++ wS_ s0 v0 f0 r0 ++ wV_ v0 v_keys v_firsts v_ends v_values v_inferred v_gone cI cZ vkeys vfirsts vends vvalues vinferred vgone vmade ++ wF_ f0 f_keys f_days f_amounts f_versions cI fkeys fdays famounts fversions fcount ++ wR_ r0 r_keys r_days r_values cI rkeys rdays rvalues rcount) A) (by decide) rfl (Nat.le_of_ble_eq_true rfl) ?_
  intro p e s m args below meth c A ls hx hb hr hts hown hlocks hml htab hA hU hN hC hP hK hD hl
  have hown : s.vm.findClass RX5 = some m.cls := hown
  have hl : lv_has ls 2 [(0, .ref d0), (1, .int a1)] := hl
  have hS : va_S A s.heap s.heap [] := va_S.rf
  have fl10_ : (Cond.fieldLink RX5 10 "DimensionLoader" "live" "LDimensionLoader$Store;").before args s = true := hts _ (List.mem_of_getElem? (i := 3) rfl)
  have fl51_ : (Cond.fieldLink RX5 51 "DimensionLoader$Store" "versions" "LDimensionLoader$Versions;").before args s = true := hts _ (List.mem_of_getElem? (i := 4) rfl)
  have inX2_ : ∀ w ∈ wsX20, w ∈ wsX5_coverage := in_X5_coverage_X2
  have inX5_ : ∀ w ∈ wsX50, w ∈ wsX5_coverage := in_X5_coverage_X5
  unfold f_X5_coverage at hf
  dsimp only at hf
  refine lv_iload_n hx hb dX5_coverage_0 rfl (lv_at hl 1 rfl) ?_
  obtain ⟨R3, g4, hf⟩ := bd_B hf
  obtain ⟨x1, rfl⟩ : ∃ z, z = R3 := ⟨_, rfl⟩
  have hPc := hP.sub (ws' := []) [] rfl
  have hDc := hD.sub (ws' := []) [] (by decide) rfl
  have hFc := va_free (wc := []) hD hS hA [] rfl
  cases x1 with
  | error E9 =>
    have hR := Option.some.inj hf
    subst hR
    refine vx_callv (vx_runS (As := [.int a1]) (rest := []) ⟨hx, hb, hml, hown, hts⟩ (c_X5_checkKey l dC dI cI cZ cC cJ cD hst s.heap.size a1 (Except.error E9) g4) (cwS 1 hts gX5_coverage_X5_checkKey rfl rfl rfl hs_X5_checkKey ⟨Nat.le_of_ble_eq_true rfl, Nat.le_of_ble_eq_true rfl⟩) (preSy_ hPc hK hDc rfl hS hU hN hFc hC) rfl rfl hl.1 rfl (lv_room (Nat.le_of_ble_eq_true rfl)) dX5_coverage_1 ⟨Nat.le_of_ble_eq_true rfl, Nat.le_of_ble_eq_true rfl⟩) hS (fun q _ h => hFc q h) hFc (fun q _ h => hFc q h) (fun E ce q9 u t H7 locs ht hvm hp hB hz1 hk1 hS hce hcv hcl => ?_) (fun u t H7 locs ht hvm hw hB hz1 hk1 hS => ?_)
    · obtain ⟨hE, hB⟩ := hB
      cases hE
      obtain ⟨hP, hD⟩ := aft_ (Wr := wD_ d0 s0 z0 b0 q0 t0 dhasSaved dkeptError dmoved ++ wS_ s0 v0 f0 r0 ++ wV_ v0 v_keys v_firsts v_ends v_values v_inferred v_gone cI cZ vkeys vfirsts vends vvalues vinferred vgone vmade ++ wF_ f0 f_keys f_days f_amounts f_versions cI fkeys fdays famounts fversions fcount ++ wR_ r0 r_keys r_days r_values cI rkeys rdays rvalues rcount) (Wc' := []) (W2 := wD_ d0 s0 z0 b0 q0 t0 dhasSaved dkeptError dmoved ++ wS_ s0 v0 f0 r0 ++ wV_ v0 v_keys v_firsts v_ends v_values v_inferred v_gone cI cZ vkeys vfirsts vends vvalues vinferred vgone vmade ++ wF_ f0 f_keys f_days f_amounts f_versions cI fkeys fdays famounts fversions fcount ++ wR_ r0 r_keys r_days r_values cI rkeys rdays rvalues rcount) hP hD [] [0, 1, 2, 3, 4, 5, 6, 7, 8, 9, 10, 11, 12, 13, 14, 15, 16, 17] [0, 1, 2, 3, 4, 5, 6, 7, 8, 9, 10, 11, 12, 13, 14, 15, 16, 17] rfl rfl (by decide) (by decide) (by decide) hk1 hFc hB ht rfl
      exact vx_out (fun x h => (htab x h).elim) hlocks hce hcv hcl (thr2_ hS hP hK hD rfl) hS.2.2 (Nat.le_of_ble_eq_true rfl) (Nat.le_of_ble_eq_true rfl)
    · exact absurd hw (fun h => nomatch h)
  | ok v2 =>
    refine vx_callv (vx_runS (As := [.int a1]) (rest := []) ⟨hx, hb, hml, hown, hts⟩ (c_X5_checkKey l dC dI cI cZ cC cJ cD hst s.heap.size a1 (Except.ok ()) g4) (cwS 1 hts gX5_coverage_X5_checkKey rfl rfl rfl hs_X5_checkKey ⟨Nat.le_of_ble_eq_true rfl, Nat.le_of_ble_eq_true rfl⟩) (preSy_ hPc hK hDc rfl hS hU hN hFc hC) rfl rfl hl.1 rfl (lv_room (Nat.le_of_ble_eq_true rfl)) dX5_coverage_1 ⟨Nat.le_of_ble_eq_true rfl, Nat.le_of_ble_eq_true rfl⟩) hS (fun q _ h => hFc q h) hFc (fun q _ h => hFc q h) (fun E ce q9 u t H7 locs ht hvm hp hB hz1 hk1 hS hce hcv hcl => ?_) (fun u t H7 locs ht hvm hw hB hz1 hk1 hS => ?_)
    · exact absurd hB.1 (fun h => nomatch h)
    · obtain ⟨hP, hD⟩ := aft_ (Wr := wD_ d0 s0 z0 b0 q0 t0 dhasSaved dkeptError dmoved ++ wS_ s0 v0 f0 r0 ++ wV_ v0 v_keys v_firsts v_ends v_values v_inferred v_gone cI cZ vkeys vfirsts vends vvalues vinferred vgone vmade ++ wF_ f0 f_keys f_days f_amounts f_versions cI fkeys fdays famounts fversions fcount ++ wR_ r0 r_keys r_days r_values cI rkeys rdays rvalues rcount) (Wc' := []) (W2 := wD_ d0 s0 z0 b0 q0 t0 dhasSaved dkeptError dmoved ++ wS_ s0 v0 f0 r0 ++ wV_ v0 v_keys v_firsts v_ends v_values v_inferred v_gone cI cZ vkeys vfirsts vends vvalues vinferred vgone vmade ++ wF_ f0 f_keys f_days f_amounts f_versions cI fkeys fdays famounts fversions fcount ++ wR_ r0 r_keys r_days r_values cI rkeys rdays rvalues rcount) hP hD [] [0, 1, 2, 3, 4, 5, 6, 7, 8, 9, 10, 11, 12, 13, 14, 15, 16, 17] [0, 1, 2, 3, 4, 5, 6, 7, 8, 9, 10, 11, 12, 13, 14, 15, 16, 17] rfl rfl (by decide) (by decide) (by decide) hk1 hFc hB ht rfl
      refine lv_aload_n hx hb dX5_coverage_4 rfl (lv_at hl 0 rfl) ?_
      refine va_get (D := (dC, dI)) (ci := 7) (v := .ref s0) (C := RX5) (T := TX5) (N := 8) hx hb hts inX5_ hown hK hP 0 rfl rfl 0 (by decide) fl10_ (fun _ h9 => h9) rfl dX5_coverage_5 ?_
      refine va_get (D := (dC, dI)) (ci := 4) (v := .ref v0) (C := RX2) (T := TX2) (N := 3) hx hb hts inX2_ hown hK hP 1 rfl rfl 0 (by decide) fl51_ (fun _ h9 => h9) rfl dX5_coverage_8 ?_
      refine lv_iload_n hx hb dX5_coverage_11 rfl (lv_at hl 1 rfl) ?_
      obtain ⟨R11, g12, hf⟩ := bd_B hf
      obtain ⟨r10, rfl⟩ : ∃ z, z = R11 := ⟨_, rfl⟩
      have hPc := hP.sub (ws' := wV_ v0 v_keys v_firsts v_ends v_values v_inferred v_gone cI cZ vkeys vfirsts vends vvalues vinferred vgone vmade) [2, 3, 4, 5, 6, 7, 8] rfl
      have hDc := hD.sub (ws' := wV_ v0 v_keys v_firsts v_ends v_values v_inferred v_gone cI cZ vkeys vfirsts vends vvalues vinferred vgone vmade) [2, 3, 4, 5, 6, 7, 8] (by decide) rfl
      have hFc := va_free (wc := wV_ v0 v_keys v_firsts v_ends v_values v_inferred v_gone cI cZ vkeys vfirsts vends vvalues vinferred vgone vmade) hD hS hA [2, 3, 4, 5, 6, 7, 8] rfl
      refine va_calli (va_runV (As := [.int a1]) (rest := []) ⟨hx, hb, hml, hown, hts⟩ (c_X4_countOf l dC dI cI cZ cC cJ cD v0 v_keys v_firsts v_ends v_values v_inferred v_gone H7.size vkeys vfirsts vends vvalues vinferred vgone vmade a1 r10 g12) (cwV 1 hts gX5_coverage_X4_countOf rfl rfl rfl hs_X4_countOf ⟨Nat.le_of_ble_eq_true rfl, Nat.le_of_ble_eq_true rfl⟩) (preV_ (ci := 6) (q0 := 0) hPc hK hDc rfl rfl rfl rfl) rfl rfl hl.1 rfl (lv_room (Nat.le_of_ble_eq_true rfl)) dX5_coverage_12 ⟨Nat.le_of_ble_eq_true rfl, Nat.le_of_ble_eq_true rfl⟩) hS (fun q _ h => hFc q h) hFc (fun z14 u t H13 locs ht hvm hw hB hz1 hk1 hS => ?_)
      have hw : r10 = z14 := hw.symm
      subst hw
      obtain ⟨hP, hD⟩ := aft_ (Wr := wD_ d0 s0 z0 b0 q0 t0 dhasSaved dkeptError dmoved ++ wS_ s0 v0 f0 r0 ++ wF_ f0 f_keys f_days f_amounts f_versions cI fkeys fdays famounts fversions fcount ++ wR_ r0 r_keys r_days r_values cI rkeys rdays rvalues rcount) (Wc' := wV_ v0 v_keys v_firsts v_ends v_values v_inferred v_gone cI cZ vkeys vfirsts vends vvalues vinferred vgone vmade) (W2 := wD_ d0 s0 z0 b0 q0 t0 dhasSaved dkeptError dmoved ++ wS_ s0 v0 f0 r0 ++ wV_ v0 v_keys v_firsts v_ends v_values v_inferred v_gone cI cZ vkeys vfirsts vends vvalues vinferred vgone vmade ++ wF_ f0 f_keys f_days f_amounts f_versions cI fkeys fdays famounts fversions fcount ++ wR_ r0 r_keys r_days r_values cI rkeys rdays rvalues rcount) hP hD [2, 3, 4, 5, 6, 7, 8] [0, 1, 9, 10, 11, 12, 13, 14, 15, 16, 17] [0, 1, 11, 12, 13, 14, 15, 16, 17, 2, 3, 4, 5, 6, 7, 8, 9, 10] rfl rfl (by decide) (by decide) (by decide) hk1 hFc hB ht rfl
      refine lv_if_ne (tgt := 26) hx hb dX5_coverage_15 (by decide) (fun c15 => ?_) (fun c15 => ?_)
      · have hf := ite_F c15 hf
        refine lv_aload_n hx hb dX5_coverage_26 rfl (lv_at hl 0 rfl) ?_
        refine va_get (D := (dC, dI)) (ci := 7) (v := .ref s0) (C := RX5) (T := TX5) (N := 8) hx hb hts inX5_ hown hK hP 0 rfl rfl 0 (by decide) fl10_ (fun _ h9 => h9) rfl dX5_coverage_27 ?_
        refine va_get (D := (dC, dI)) (ci := 4) (v := .ref v0) (C := RX2) (T := TX2) (N := 3) hx hb hts inX2_ hown hK hP 1 rfl rfl 0 (by decide) fl51_ (fun _ h9 => h9) rfl dX5_coverage_30 ?_
        refine lv_iload_n hx hb dX5_coverage_33 rfl (lv_at hl 1 rfl) ?_
        obtain ⟨R17, g18, hf⟩ := bd_B hf
        obtain ⟨r16, rfl⟩ : ∃ z, z = R17 := ⟨_, rfl⟩
        have hPc := hP.sub (ws' := wV_ v0 v_keys v_firsts v_ends v_values v_inferred v_gone cI cZ vkeys vfirsts vends vvalues vinferred vgone vmade) [2, 3, 4, 5, 6, 7, 8] rfl
        have hDc := hD.sub (ws' := wV_ v0 v_keys v_firsts v_ends v_values v_inferred v_gone cI cZ vkeys vfirsts vends vvalues vinferred vgone vmade) [2, 3, 4, 5, 6, 7, 8] (by decide) rfl
        have hFc := va_free (wc := wV_ v0 v_keys v_firsts v_ends v_values v_inferred v_gone cI cZ vkeys vfirsts vends vvalues vinferred vgone vmade) hD hS hA [2, 3, 4, 5, 6, 7, 8] rfl
        refine va_calli (va_runV (As := [.int a1]) (rest := []) ⟨hx, hb, hml, hown, hts⟩ (c_X4_sumDays l dC dI cI cZ cC cJ cD v0 v_keys v_firsts v_ends v_values v_inferred v_gone H13.size vkeys vfirsts vends vvalues vinferred vgone vmade a1 r16 g18) (cwV 1 hts gX5_coverage_X4_sumDays rfl rfl rfl hs_X4_sumDays ⟨Nat.le_of_ble_eq_true rfl, Nat.le_of_ble_eq_true rfl⟩) (preV_ (ci := 6) (q0 := 0) hPc hK hDc rfl rfl rfl rfl) rfl rfl hl.1 rfl (lv_room (Nat.le_of_ble_eq_true rfl)) dX5_coverage_34 ⟨Nat.le_of_ble_eq_true rfl, Nat.le_of_ble_eq_true rfl⟩) hS (fun q _ h => hFc q h) hFc (fun z20 u t H19 locs ht hvm hw hB hz1 hk1 hS => ?_)
        have hw : r16 = z20 := hw.symm
        subst hw
        obtain ⟨hP, hD⟩ := aft_ (Wr := wD_ d0 s0 z0 b0 q0 t0 dhasSaved dkeptError dmoved ++ wS_ s0 v0 f0 r0 ++ wF_ f0 f_keys f_days f_amounts f_versions cI fkeys fdays famounts fversions fcount ++ wR_ r0 r_keys r_days r_values cI rkeys rdays rvalues rcount) (Wc' := wV_ v0 v_keys v_firsts v_ends v_values v_inferred v_gone cI cZ vkeys vfirsts vends vvalues vinferred vgone vmade) (W2 := wD_ d0 s0 z0 b0 q0 t0 dhasSaved dkeptError dmoved ++ wS_ s0 v0 f0 r0 ++ wV_ v0 v_keys v_firsts v_ends v_values v_inferred v_gone cI cZ vkeys vfirsts vends vvalues vinferred vgone vmade ++ wF_ f0 f_keys f_days f_amounts f_versions cI fkeys fdays famounts fversions fcount ++ wR_ r0 r_keys r_days r_values cI rkeys rdays rvalues rcount) hP hD [2, 3, 4, 5, 6, 7, 8] [0, 1, 9, 10, 11, 12, 13, 14, 15, 16, 17] [0, 1, 11, 12, 13, 14, 15, 16, 17, 2, 3, 4, 5, 6, 7, 8, 9, 10] rfl rfl (by decide) (by decide) (by decide) hk1 hFc hB ht rfl
        refine lv_i2d hx hb dX5_coverage_37 ?_
        refine lv_sipush (v := 1000) hx hb dX5_coverage_38 (by decide) ?_
        refine lv_aload_n hx hb dX5_coverage_41 rfl (lv_at hl 0 rfl) ?_
        refine va_get (D := (dC, dI)) (ci := 7) (v := .ref s0) (C := RX5) (T := TX5) (N := 8) hx hb hts inX5_ hown hK hP 0 rfl rfl 0 (by decide) fl10_ (fun _ h9 => h9) rfl dX5_coverage_42 ?_
        refine va_get (D := (dC, dI)) (ci := 4) (v := .ref v0) (C := RX2) (T := TX2) (N := 3) hx hb hts inX2_ hown hK hP 1 rfl rfl 0 (by decide) fl51_ (fun _ h9 => h9) rfl dX5_coverage_45 ?_
        refine lv_iload_n hx hb dX5_coverage_48 rfl (lv_at hl 1 rfl) ?_
        refine lv_iconst (v := (-1)) hx hb dX5_coverage_49 (by decide) ?_
        obtain ⟨R22, g23, hf⟩ := bd_B hf
        obtain ⟨r21, rfl⟩ : ∃ z, z = R22 := ⟨_, rfl⟩
        have hPc := hP.sub (ws' := wV_ v0 v_keys v_firsts v_ends v_values v_inferred v_gone cI cZ vkeys vfirsts vends vvalues vinferred vgone vmade) [2, 3, 4, 5, 6, 7, 8] rfl
        have hDc := hD.sub (ws' := wV_ v0 v_keys v_firsts v_ends v_values v_inferred v_gone cI cZ vkeys vfirsts vends vvalues vinferred vgone vmade) [2, 3, 4, 5, 6, 7, 8] (by decide) rfl
        have hFc := va_free (wc := wV_ v0 v_keys v_firsts v_ends v_values v_inferred v_gone cI cZ vkeys vfirsts vends vvalues vinferred vgone vmade) hD hS hA [2, 3, 4, 5, 6, 7, 8] rfl
        refine va_calli (va_runV (As := [.int a1, .int (-1)]) (rest := [.int 1000, .double (FP.i2d r16)]) ⟨hx, hb, hml, hown, hts⟩ (c_X4_nextFirst l dC dI cI cZ cC cJ cD v0 v_keys v_firsts v_ends v_values v_inferred v_gone H19.size vkeys vfirsts vends vvalues vinferred vgone vmade a1 (-1 : Int32) r21 g23) (cwV 2 hts gX5_coverage_X4_nextFirst rfl rfl rfl hs_X4_nextFirst ⟨Nat.le_of_ble_eq_true rfl, Nat.le_of_ble_eq_true rfl⟩) (preV_ (ci := 6) (q0 := 0) hPc hK hDc rfl rfl rfl rfl) rfl rfl hl.1 rfl (lv_room (Nat.le_of_ble_eq_true rfl)) dX5_coverage_50 ⟨Nat.le_of_ble_eq_true rfl, Nat.le_of_ble_eq_true rfl⟩) hS (fun q _ h => hFc q h) hFc (fun z25 u t H24 locs ht hvm hw hB hz1 hk1 hS => ?_)
        have hw : r21 = z25 := hw.symm
        subst hw
        obtain ⟨hP, hD⟩ := aft_ (Wr := wD_ d0 s0 z0 b0 q0 t0 dhasSaved dkeptError dmoved ++ wS_ s0 v0 f0 r0 ++ wF_ f0 f_keys f_days f_amounts f_versions cI fkeys fdays famounts fversions fcount ++ wR_ r0 r_keys r_days r_values cI rkeys rdays rvalues rcount) (Wc' := wV_ v0 v_keys v_firsts v_ends v_values v_inferred v_gone cI cZ vkeys vfirsts vends vvalues vinferred vgone vmade) (W2 := wD_ d0 s0 z0 b0 q0 t0 dhasSaved dkeptError dmoved ++ wS_ s0 v0 f0 r0 ++ wV_ v0 v_keys v_firsts v_ends v_values v_inferred v_gone cI cZ vkeys vfirsts vends vvalues vinferred vgone vmade ++ wF_ f0 f_keys f_days f_amounts f_versions cI fkeys fdays famounts fversions fcount ++ wR_ r0 r_keys r_days r_values cI rkeys rdays rvalues rcount) hP hD [2, 3, 4, 5, 6, 7, 8] [0, 1, 9, 10, 11, 12, 13, 14, 15, 16, 17] [0, 1, 11, 12, 13, 14, 15, 16, 17, 2, 3, 4, 5, 6, 7, 8, 9, 10] rfl rfl (by decide) (by decide) (by decide) hk1 hFc hB ht rfl
        refine lv_isub hx hb dX5_coverage_53 ?_
        refine lv_i2d hx hb dX5_coverage_54 ?_
        obtain ⟨h26, hf⟩ := gN_T hf
        refine lv_ddiv hx hb dX5_coverage_55 h26 ?_
        have hR := Option.some.inj hf
        subst hR
        refine vx_ret (W.widen (k := 2) (n := 12) (Nat.le_of_ble_eq_true rfl) (Nat.le_of_ble_eq_true rfl) ?_)
        exact W.dret (v := FP.ddiv (FP.i2d r16) (FP.i2d (1000 - r21))) hx hb hr (fun t ht hW => ⟨⟨FP.ddiv (FP.i2d r16) (FP.i2d (1000 - r21)), (), rfl, rfl, by rw [ht]; exact hP, va_K.moved hW.alike hK, hD⟩, hS.F ht⟩) hS.2.2 dX5_coverage_56
      · have hf := ite_T c15 hf
        have hR := Option.some.inj hf
        subst hR
        exact vx_throw0 (names := ["java/lang/RuntimeException", "java/lang/Exception"]) hx hb hst hown (by decide +kernel) (by decide +kernel) (hts _ (List.mem_of_getElem? (i := 1) rfl)) (hts _ (List.mem_of_getElem? (i := 2) rfl)) (vx_hat (fun w h => hts w (at_X5_coverage_204 w h)) (atn_0 "java/lang/ArithmeticException" (by decide +kernel) 204 (by decide)) (hC.words (by decide +kernel))) at_X5_coverage_204g hU hN hS (hl.1.trans hml.symm) dX5_coverage_18 dX5_coverage_21 dX5_coverage_22 dX5_coverage_25 (fun x h => (htab x h).elim) (Nat.le_of_ble_eq_true rfl) (Nat.le_of_ble_eq_true rfl) (Nat.le_of_ble_eq_true rfl) (Nat.le_of_ble_eq_true rfl) hlocks (thr_ hS hP hK hD rfl) hS.2.2 (Nat.le_of_ble_eq_true rfl) (Nat.le_of_ble_eq_true rfl)
theorem hs_X5_coverage : yX5_coverage.cls = RX5 ∧ yX5_coverage.cls ≠ "java/lang/invoke/MethodHandle" ∧ yX5_coverage.cls ≠ "java/lang/invoke/VarHandle" ∧ (parseMethodDescriptor yX5_coverage.desc).map (fun d => d.parameters.length) = some 1 := by decide +kernel
set_option maxRecDepth 20000 in
theorem in_X5_isCovered_X2 : ∀ w ∈ wsX20, w ∈ wsX5_isCovered := by decide +kernel
set_option maxRecDepth 20000 in
theorem in_X5_isCovered_X5 : ∀ w ∈ wsX50, w ∈ wsX5_isCovered := by decide +kernel
def f_X5_isCovered (a1 : Int32) (a2 : Int32) (a3 : Int32) (D_ : tD_) (S_ : tS_) (V_ : tV_) (F_ : tF_) (R_ : tR_) : Option (Except String Int32) :=
match D_ with
| (dhasSaved, dkeptError, dmoved) =>
match V_ with
| (vkeys, vfirsts, vends, vvalues, vinferred, vgone, vmade) =>
match F_ with
| (fkeys, fdays, famounts, fversions, fcount) =>
match R_ with
| (rkeys, rdays, rvalues, rcount) =>
bd_ (f_X5_checkKey a1) (fun x1 =>
match x1 with
| Except.error E9 => some (Except.error E9)
| Except.ok v2 =>
bd_ (f_X5_checkDay a2) (fun x10 =>
match x10 with
| Except.error E18 => some (Except.error E18)
| Except.ok v11 =>
bd_ (f_X5_checkDay a3) (fun x19 =>
match x19 with
| Except.error E27 => some (Except.error E27)
| Except.ok v20 =>
bd_ (f_X4_fill a1 a2 a3 (vkeys, vfirsts, vends, vvalues, vinferred, vgone, vmade)) (fun r28 =>
gb_ r28 (some (Except.ok r28))))))
abbrev rm_X5_isCovered : Room := { frames := 7, cells := 3, slots := 18, locals := 109 }
set_option maxHeartbeats 4000000 in
set_option maxRecDepth 100000 in
theorem c_X5_isCovered (l : Launch) (dC : Nat → ClassId) (dI : Nat → Nat → Nat) (cI cZ cC cJ cD : ClassId) (hst : l.stackTraces = false) (d0 s0 z0 b0 q0 t0 v0 f0 r0 v_keys v_firsts v_ends v_values v_inferred v_gone f_keys f_days f_amounts f_versions r_keys r_days r_values : Nat) (sz : Nat) (dhasSaved : Int32) (dkeptError : Int32) (dmoved : Int32) (vkeys : Nat → Int32) (vfirsts : Nat → Int32) (vends : Nat → Int32) (vvalues : Nat → Int32) (vinferred : Nat → Int32) (vgone : Nat → Int32) (vmade : Int32) (fkeys : Nat → Int32) (fdays : Nat → Int32) (famounts : Nat → Int32) (fversions : Nat → Int32) (fcount : Int32) (rkeys : Nat → Int32) (rdays : Nat → Int32) (rvalues : Nat → Int32) (rcount : Int32) (a1 : Int32) (a2 : Int32) (a3 : Int32) (R : Except String Int32) (hf : f_X5_isCovered a1 a2 a3 (dhasSaved, dkeptError, dmoved) () (vkeys, vfirsts, vends, vvalues, vinferred, vgone, vmade) (fkeys, fdays, famounts, fversions, fcount) (rkeys, rdays, rvalues, rcount) = some R) : vx_Met l yX5_isCovered wsX5_isCovered rm_X5_isCovered (Py_ (dC, dI) (ty_ cI cZ cC cJ cD) (wD_ d0 s0 z0 b0 q0 t0 dhasSaved dkeptError dmoved ++ wS_ s0 v0 f0 r0 ++ wV_ v0 v_keys v_firsts v_ends v_values v_inferred v_gone cI cZ vkeys vfirsts vends vvalues vinferred vgone vmade ++ wF_ f0 f_keys f_days f_amounts f_versions cI fkeys fdays famounts fversions fcount ++ wR_ r0 r_keys r_days r_values cI rkeys rdays rvalues rcount) sz [.ref d0, .int a1, .int a2, .int a3]) (Xi_ (dC, dI) (ty_ cI cZ cC cJ cD) R (wD_ d0 s0 z0 b0 q0 t0 dhasSaved dkeptError dmoved ++ wS_ s0 v0 f0 r0 ++ wV_ v0 v_keys v_firsts v_ends v_values v_inferred v_gone cI cZ vkeys vfirsts vends vvalues vinferred vgone vmade ++ wF_ f0 f_keys f_days f_amounts f_versions cI fkeys fdays famounts fversions fcount ++ wR_ r0 r_keys r_days r_values cI rkeys rdays rvalues rcount) (va_A (wD_ d0 s0 z0 b0 q0 t0 dhasSaved dkeptError dmoved ++ wS_ s0 v0 f0 r0 ++ wV_ v0 v_keys v_firsts v_ends v_values v_inferred v_gone cI cZ vkeys vfirsts vends vvalues vinferred vgone vmade ++ wF_ f0 f_keys f_days f_amounts f_versions cI fkeys fdays famounts fversions fcount ++ wR_ r0 r_keys r_days r_values cI rkeys rdays rvalues rcount) sz)) (XX_ (dC, dI) (ty_ cI cZ cC cJ cD) R (wD_ d0 s0 z0 b0 q0 t0 dhasSaved dkeptError dmoved ++ wS_ s0 v0 f0 r0 ++ wV_ v0 v_keys v_firsts v_ends v_values v_inferred v_gone cI cZ vkeys vfirsts vends vvalues vinferred vgone vmade ++ wF_ f0 f_keys f_days f_amounts f_versions cI fkeys fdays famounts fversions fcount ++ wR_ r0 r_keys r_days r_values cI rkeys rdays rvalues rcount) (va_A (wD_ d0 s0 z0 b0 q0 t0 dhasSaved dkeptError dmoved ++ wS_ s0 v0 f0 r0 ++ wV_ v0 v_keys v_firsts v_ends v_values v_inferred v_gone cI cZ vkeys vfirsts vends vvalues vinferred vgone vmade ++ wF_ f0 f_keys f_days f_amounts f_versions cI fkeys fdays famounts fversions fcount ++ wR_ r0 r_keys r_days r_values cI rkeys rdays rvalues rcount) sz)) 3 18 (va_A (wD_ d0 s0 z0 b0 q0 t0 dhasSaved dkeptError dmoved ++ wS_ s0 v0 f0 r0 ++ wV_ v0 v_keys v_firsts v_ends v_values v_inferred v_gone cI cZ vkeys vfirsts vends vvalues vinferred vgone vmade ++ wF_ f0 f_keys f_days f_amounts f_versions cI fkeys fdays famounts fversions fcount ++ wR_ r0 r_keys r_days r_values cI rkeys rdays rvalues rcount) sz) := by
  refine mety_ (cc := cX5_isCovered) (maxL := 4) (ret := (some .boolean)) (Qcf := fun A => Xi_ (dC, dI) (ty_ cI cZ cC cJ cD) R (wD_ d0 s0 z0 b0 q0 t0 dhasSaved dkeptError dmoved ++ wS_ s0 v0 f0 r0 ++ wV_ v0 v_keys v_firsts v_ends v_values v_inferred v_gone cI cZ vkeys vfirsts vends vvalues vinferred vgone vmade ++ wF_ f0 f_keys f_days f_amounts f_versions cI fkeys fdays famounts fversions fcount ++ wR_ r0 r_keys r_days r_values cI rkeys rdays rvalues rcount) A) (XCf := fun A => XX_ (dC, dI) (ty_ cI cZ cC cJ cD) R (wD_ d0 s0 z0 b0 q0 t0 dhasSaved dkeptError dmoved ++ wS_ s0 v0 f0 r0 ++ wV_ v0 v_keys v_firsts v_ends v_values v_inferred v_gone cI cZ vkeys vfirsts vends vvalues vinferred vgone vmade ++ wF_ f0 f_keys f_days f_amounts f_versions cI fkeys fdays famounts fversions fcount ++ wR_ r0 r_keys r_days r_values cI rkeys rdays rvalues rcount) A) (by decide) rfl (Nat.le_of_ble_eq_true rfl) ?_
  intro p e s m args below meth c A ls hx hb hr hts hown hlocks hml htab hA hU hN hC hP hK hD hl
  have hown : s.vm.findClass RX5 = some m.cls := hown
  have hl : lv_has ls 4 [(0, .ref d0), (1, .int a1), (2, .int a2), (3, .int a3)] := hl
  have hS : va_S A s.heap s.heap [] := va_S.rf
  have fl10_ : (Cond.fieldLink RX5 10 "DimensionLoader" "live" "LDimensionLoader$Store;").before args s = true := hts _ (List.mem_of_getElem? (i := 1) rfl)
  have fl51_ : (Cond.fieldLink RX5 51 "DimensionLoader$Store" "versions" "LDimensionLoader$Versions;").before args s = true := hts _ (List.mem_of_getElem? (i := 2) rfl)
  have inX2_ : ∀ w ∈ wsX20, w ∈ wsX5_isCovered := in_X5_isCovered_X2
  have inX5_ : ∀ w ∈ wsX50, w ∈ wsX5_isCovered := in_X5_isCovered_X5
  unfold f_X5_isCovered at hf
  dsimp only at hf
  refine lv_iload_n hx hb dX5_isCovered_0 rfl (lv_at hl 1 rfl) ?_
  obtain ⟨R3, g4, hf⟩ := bd_B hf
  obtain ⟨x1, rfl⟩ : ∃ z, z = R3 := ⟨_, rfl⟩
  have hPc := hP.sub (ws' := []) [] rfl
  have hDc := hD.sub (ws' := []) [] (by decide) rfl
  have hFc := va_free (wc := []) hD hS hA [] rfl
  cases x1 with
  | error E9 =>
    have hR := Option.some.inj hf
    subst hR
    refine vx_callv (vx_runS (As := [.int a1]) (rest := []) ⟨hx, hb, hml, hown, hts⟩ (c_X5_checkKey l dC dI cI cZ cC cJ cD hst s.heap.size a1 (Except.error E9) g4) (cwS 1 hts gX5_isCovered_X5_checkKey rfl rfl rfl hs_X5_checkKey ⟨Nat.le_of_ble_eq_true rfl, Nat.le_of_ble_eq_true rfl⟩) (preSy_ hPc hK hDc rfl hS hU hN hFc hC) rfl rfl hl.1 rfl (lv_room (Nat.le_of_ble_eq_true rfl)) dX5_isCovered_1 ⟨Nat.le_of_ble_eq_true rfl, Nat.le_of_ble_eq_true rfl⟩) hS (fun q _ h => hFc q h) hFc (fun q _ h => hFc q h) (fun E ce q9 u t H7 locs ht hvm hp hB hz1 hk1 hS hce hcv hcl => ?_) (fun u t H7 locs ht hvm hw hB hz1 hk1 hS => ?_)
    · obtain ⟨hE, hB⟩ := hB
      cases hE
      obtain ⟨hP, hD⟩ := aft_ (Wr := wD_ d0 s0 z0 b0 q0 t0 dhasSaved dkeptError dmoved ++ wS_ s0 v0 f0 r0 ++ wV_ v0 v_keys v_firsts v_ends v_values v_inferred v_gone cI cZ vkeys vfirsts vends vvalues vinferred vgone vmade ++ wF_ f0 f_keys f_days f_amounts f_versions cI fkeys fdays famounts fversions fcount ++ wR_ r0 r_keys r_days r_values cI rkeys rdays rvalues rcount) (Wc' := []) (W2 := wD_ d0 s0 z0 b0 q0 t0 dhasSaved dkeptError dmoved ++ wS_ s0 v0 f0 r0 ++ wV_ v0 v_keys v_firsts v_ends v_values v_inferred v_gone cI cZ vkeys vfirsts vends vvalues vinferred vgone vmade ++ wF_ f0 f_keys f_days f_amounts f_versions cI fkeys fdays famounts fversions fcount ++ wR_ r0 r_keys r_days r_values cI rkeys rdays rvalues rcount) hP hD [] [0, 1, 2, 3, 4, 5, 6, 7, 8, 9, 10, 11, 12, 13, 14, 15, 16, 17] [0, 1, 2, 3, 4, 5, 6, 7, 8, 9, 10, 11, 12, 13, 14, 15, 16, 17] rfl rfl (by decide) (by decide) (by decide) hk1 hFc hB ht rfl
      exact vx_out (fun x h => (htab x h).elim) hlocks hce hcv hcl (thr2_ hS hP hK hD rfl) hS.2.2 (Nat.le_of_ble_eq_true rfl) (Nat.le_of_ble_eq_true rfl)
    · exact absurd hw (fun h => nomatch h)
  | ok v2 =>
    refine vx_callv (vx_runS (As := [.int a1]) (rest := []) ⟨hx, hb, hml, hown, hts⟩ (c_X5_checkKey l dC dI cI cZ cC cJ cD hst s.heap.size a1 (Except.ok ()) g4) (cwS 1 hts gX5_isCovered_X5_checkKey rfl rfl rfl hs_X5_checkKey ⟨Nat.le_of_ble_eq_true rfl, Nat.le_of_ble_eq_true rfl⟩) (preSy_ hPc hK hDc rfl hS hU hN hFc hC) rfl rfl hl.1 rfl (lv_room (Nat.le_of_ble_eq_true rfl)) dX5_isCovered_1 ⟨Nat.le_of_ble_eq_true rfl, Nat.le_of_ble_eq_true rfl⟩) hS (fun q _ h => hFc q h) hFc (fun q _ h => hFc q h) (fun E ce q9 u t H7 locs ht hvm hp hB hz1 hk1 hS hce hcv hcl => ?_) (fun u t H7 locs ht hvm hw hB hz1 hk1 hS => ?_)
    · exact absurd hB.1 (fun h => nomatch h)
    · obtain ⟨hP, hD⟩ := aft_ (Wr := wD_ d0 s0 z0 b0 q0 t0 dhasSaved dkeptError dmoved ++ wS_ s0 v0 f0 r0 ++ wV_ v0 v_keys v_firsts v_ends v_values v_inferred v_gone cI cZ vkeys vfirsts vends vvalues vinferred vgone vmade ++ wF_ f0 f_keys f_days f_amounts f_versions cI fkeys fdays famounts fversions fcount ++ wR_ r0 r_keys r_days r_values cI rkeys rdays rvalues rcount) (Wc' := []) (W2 := wD_ d0 s0 z0 b0 q0 t0 dhasSaved dkeptError dmoved ++ wS_ s0 v0 f0 r0 ++ wV_ v0 v_keys v_firsts v_ends v_values v_inferred v_gone cI cZ vkeys vfirsts vends vvalues vinferred vgone vmade ++ wF_ f0 f_keys f_days f_amounts f_versions cI fkeys fdays famounts fversions fcount ++ wR_ r0 r_keys r_days r_values cI rkeys rdays rvalues rcount) hP hD [] [0, 1, 2, 3, 4, 5, 6, 7, 8, 9, 10, 11, 12, 13, 14, 15, 16, 17] [0, 1, 2, 3, 4, 5, 6, 7, 8, 9, 10, 11, 12, 13, 14, 15, 16, 17] rfl rfl (by decide) (by decide) (by decide) hk1 hFc hB ht rfl
      refine lv_iload_n hx hb dX5_isCovered_4 rfl (lv_at hl 2 rfl) ?_
      obtain ⟨R12, g13, hf⟩ := bd_B hf
      obtain ⟨x10, rfl⟩ : ∃ z, z = R12 := ⟨_, rfl⟩
      have hPc := hP.sub (ws' := []) [] rfl
      have hDc := hD.sub (ws' := []) [] (by decide) rfl
      have hFc := va_free (wc := []) hD hS hA [] rfl
      cases x10 with
      | error E18 =>
        have hR := Option.some.inj hf
        subst hR
        refine vx_callv (vx_runS (As := [.int a2]) (rest := []) ⟨hx, hb, hml, hown, hts⟩ (c_X5_checkDay l dC dI cI cZ cC cJ cD hst H7.size a2 (Except.error E18) g13) (cwS 1 hts gX5_isCovered_X5_checkDay rfl rfl rfl hs_X5_checkDay ⟨Nat.le_of_ble_eq_true rfl, Nat.le_of_ble_eq_true rfl⟩) (preSy_ hPc hK hDc rfl hS hU hN hFc hC) rfl rfl hl.1 rfl (lv_room (Nat.le_of_ble_eq_true rfl)) dX5_isCovered_5 ⟨Nat.le_of_ble_eq_true rfl, Nat.le_of_ble_eq_true rfl⟩) hS (fun q _ h => hFc q h) hFc (fun q _ h => hFc q h) (fun E ce q9 u t H16 locs ht hvm hp hB hz1 hk1 hS hce hcv hcl => ?_) (fun u t H16 locs ht hvm hw hB hz1 hk1 hS => ?_)
        · obtain ⟨hE, hB⟩ := hB
          cases hE
          obtain ⟨hP, hD⟩ := aft_ (Wr := wD_ d0 s0 z0 b0 q0 t0 dhasSaved dkeptError dmoved ++ wS_ s0 v0 f0 r0 ++ wV_ v0 v_keys v_firsts v_ends v_values v_inferred v_gone cI cZ vkeys vfirsts vends vvalues vinferred vgone vmade ++ wF_ f0 f_keys f_days f_amounts f_versions cI fkeys fdays famounts fversions fcount ++ wR_ r0 r_keys r_days r_values cI rkeys rdays rvalues rcount) (Wc' := []) (W2 := wD_ d0 s0 z0 b0 q0 t0 dhasSaved dkeptError dmoved ++ wS_ s0 v0 f0 r0 ++ wV_ v0 v_keys v_firsts v_ends v_values v_inferred v_gone cI cZ vkeys vfirsts vends vvalues vinferred vgone vmade ++ wF_ f0 f_keys f_days f_amounts f_versions cI fkeys fdays famounts fversions fcount ++ wR_ r0 r_keys r_days r_values cI rkeys rdays rvalues rcount) hP hD [] [0, 1, 2, 3, 4, 5, 6, 7, 8, 9, 10, 11, 12, 13, 14, 15, 16, 17] [0, 1, 2, 3, 4, 5, 6, 7, 8, 9, 10, 11, 12, 13, 14, 15, 16, 17] rfl rfl (by decide) (by decide) (by decide) hk1 hFc hB ht rfl
          exact vx_out (fun x h => (htab x h).elim) hlocks hce hcv hcl (thr2_ hS hP hK hD rfl) hS.2.2 (Nat.le_of_ble_eq_true rfl) (Nat.le_of_ble_eq_true rfl)
        · exact absurd hw (fun h => nomatch h)
      | ok v11 =>
        refine vx_callv (vx_runS (As := [.int a2]) (rest := []) ⟨hx, hb, hml, hown, hts⟩ (c_X5_checkDay l dC dI cI cZ cC cJ cD hst H7.size a2 (Except.ok ()) g13) (cwS 1 hts gX5_isCovered_X5_checkDay rfl rfl rfl hs_X5_checkDay ⟨Nat.le_of_ble_eq_true rfl, Nat.le_of_ble_eq_true rfl⟩) (preSy_ hPc hK hDc rfl hS hU hN hFc hC) rfl rfl hl.1 rfl (lv_room (Nat.le_of_ble_eq_true rfl)) dX5_isCovered_5 ⟨Nat.le_of_ble_eq_true rfl, Nat.le_of_ble_eq_true rfl⟩) hS (fun q _ h => hFc q h) hFc (fun q _ h => hFc q h) (fun E ce q9 u t H16 locs ht hvm hp hB hz1 hk1 hS hce hcv hcl => ?_) (fun u t H16 locs ht hvm hw hB hz1 hk1 hS => ?_)
        · exact absurd hB.1 (fun h => nomatch h)
        · obtain ⟨hP, hD⟩ := aft_ (Wr := wD_ d0 s0 z0 b0 q0 t0 dhasSaved dkeptError dmoved ++ wS_ s0 v0 f0 r0 ++ wV_ v0 v_keys v_firsts v_ends v_values v_inferred v_gone cI cZ vkeys vfirsts vends vvalues vinferred vgone vmade ++ wF_ f0 f_keys f_days f_amounts f_versions cI fkeys fdays famounts fversions fcount ++ wR_ r0 r_keys r_days r_values cI rkeys rdays rvalues rcount) (Wc' := []) (W2 := wD_ d0 s0 z0 b0 q0 t0 dhasSaved dkeptError dmoved ++ wS_ s0 v0 f0 r0 ++ wV_ v0 v_keys v_firsts v_ends v_values v_inferred v_gone cI cZ vkeys vfirsts vends vvalues vinferred vgone vmade ++ wF_ f0 f_keys f_days f_amounts f_versions cI fkeys fdays famounts fversions fcount ++ wR_ r0 r_keys r_days r_values cI rkeys rdays rvalues rcount) hP hD [] [0, 1, 2, 3, 4, 5, 6, 7, 8, 9, 10, 11, 12, 13, 14, 15, 16, 17] [0, 1, 2, 3, 4, 5, 6, 7, 8, 9, 10, 11, 12, 13, 14, 15, 16, 17] rfl rfl (by decide) (by decide) (by decide) hk1 hFc hB ht rfl
          refine lv_iload_n hx hb dX5_isCovered_8 rfl (lv_at hl 3 rfl) ?_
          obtain ⟨R21, g22, hf⟩ := bd_B hf
          obtain ⟨x19, rfl⟩ : ∃ z, z = R21 := ⟨_, rfl⟩
          have hPc := hP.sub (ws' := []) [] rfl
          have hDc := hD.sub (ws' := []) [] (by decide) rfl
          have hFc := va_free (wc := []) hD hS hA [] rfl
          cases x19 with
          | error E27 =>
            have hR := Option.some.inj hf
            subst hR
            refine vx_callv (vx_runS (As := [.int a3]) (rest := []) ⟨hx, hb, hml, hown, hts⟩ (c_X5_checkDay l dC dI cI cZ cC cJ cD hst H16.size a3 (Except.error E27) g22) (cwS 1 hts gX5_isCovered_X5_checkDay rfl rfl rfl hs_X5_checkDay ⟨Nat.le_of_ble_eq_true rfl, Nat.le_of_ble_eq_true rfl⟩) (preSy_ hPc hK hDc rfl hS hU hN hFc hC) rfl rfl hl.1 rfl (lv_room (Nat.le_of_ble_eq_true rfl)) dX5_isCovered_9 ⟨Nat.le_of_ble_eq_true rfl, Nat.le_of_ble_eq_true rfl⟩) hS (fun q _ h => hFc q h) hFc (fun q _ h => hFc q h) (fun E ce q9 u t H25 locs ht hvm hp hB hz1 hk1 hS hce hcv hcl => ?_) (fun u t H25 locs ht hvm hw hB hz1 hk1 hS => ?_)
            · obtain ⟨hE, hB⟩ := hB
              cases hE
              obtain ⟨hP, hD⟩ := aft_ (Wr := wD_ d0 s0 z0 b0 q0 t0 dhasSaved dkeptError dmoved ++ wS_ s0 v0 f0 r0 ++ wV_ v0 v_keys v_firsts v_ends v_values v_inferred v_gone cI cZ vkeys vfirsts vends vvalues vinferred vgone vmade ++ wF_ f0 f_keys f_days f_amounts f_versions cI fkeys fdays famounts fversions fcount ++ wR_ r0 r_keys r_days r_values cI rkeys rdays rvalues rcount) (Wc' := []) (W2 := wD_ d0 s0 z0 b0 q0 t0 dhasSaved dkeptError dmoved ++ wS_ s0 v0 f0 r0 ++ wV_ v0 v_keys v_firsts v_ends v_values v_inferred v_gone cI cZ vkeys vfirsts vends vvalues vinferred vgone vmade ++ wF_ f0 f_keys f_days f_amounts f_versions cI fkeys fdays famounts fversions fcount ++ wR_ r0 r_keys r_days r_values cI rkeys rdays rvalues rcount) hP hD [] [0, 1, 2, 3, 4, 5, 6, 7, 8, 9, 10, 11, 12, 13, 14, 15, 16, 17] [0, 1, 2, 3, 4, 5, 6, 7, 8, 9, 10, 11, 12, 13, 14, 15, 16, 17] rfl rfl (by decide) (by decide) (by decide) hk1 hFc hB ht rfl
              exact vx_out (fun x h => (htab x h).elim) hlocks hce hcv hcl (thr2_ hS hP hK hD rfl) hS.2.2 (Nat.le_of_ble_eq_true rfl) (Nat.le_of_ble_eq_true rfl)
            · exact absurd hw (fun h => nomatch h)
          | ok v20 =>
            refine vx_callv (vx_runS (As := [.int a3]) (rest := []) ⟨hx, hb, hml, hown, hts⟩ (c_X5_checkDay l dC dI cI cZ cC cJ cD hst H16.size a3 (Except.ok ()) g22) (cwS 1 hts gX5_isCovered_X5_checkDay rfl rfl rfl hs_X5_checkDay ⟨Nat.le_of_ble_eq_true rfl, Nat.le_of_ble_eq_true rfl⟩) (preSy_ hPc hK hDc rfl hS hU hN hFc hC) rfl rfl hl.1 rfl (lv_room (Nat.le_of_ble_eq_true rfl)) dX5_isCovered_9 ⟨Nat.le_of_ble_eq_true rfl, Nat.le_of_ble_eq_true rfl⟩) hS (fun q _ h => hFc q h) hFc (fun q _ h => hFc q h) (fun E ce q9 u t H25 locs ht hvm hp hB hz1 hk1 hS hce hcv hcl => ?_) (fun u t H25 locs ht hvm hw hB hz1 hk1 hS => ?_)
            · exact absurd hB.1 (fun h => nomatch h)
            · obtain ⟨hP, hD⟩ := aft_ (Wr := wD_ d0 s0 z0 b0 q0 t0 dhasSaved dkeptError dmoved ++ wS_ s0 v0 f0 r0 ++ wV_ v0 v_keys v_firsts v_ends v_values v_inferred v_gone cI cZ vkeys vfirsts vends vvalues vinferred vgone vmade ++ wF_ f0 f_keys f_days f_amounts f_versions cI fkeys fdays famounts fversions fcount ++ wR_ r0 r_keys r_days r_values cI rkeys rdays rvalues rcount) (Wc' := []) (W2 := wD_ d0 s0 z0 b0 q0 t0 dhasSaved dkeptError dmoved ++ wS_ s0 v0 f0 r0 ++ wV_ v0 v_keys v_firsts v_ends v_values v_inferred v_gone cI cZ vkeys vfirsts vends vvalues vinferred vgone vmade ++ wF_ f0 f_keys f_days f_amounts f_versions cI fkeys fdays famounts fversions fcount ++ wR_ r0 r_keys r_days r_values cI rkeys rdays rvalues rcount) hP hD [] [0, 1, 2, 3, 4, 5, 6, 7, 8, 9, 10, 11, 12, 13, 14, 15, 16, 17] [0, 1, 2, 3, 4, 5, 6, 7, 8, 9, 10, 11, 12, 13, 14, 15, 16, 17] rfl rfl (by decide) (by decide) (by decide) hk1 hFc hB ht rfl
              refine lv_aload_n hx hb dX5_isCovered_12 rfl (lv_at hl 0 rfl) ?_
              refine va_get (D := (dC, dI)) (ci := 7) (v := .ref s0) (C := RX5) (T := TX5) (N := 8) hx hb hts inX5_ hown hK hP 0 rfl rfl 0 (by decide) fl10_ (fun _ h9 => h9) rfl dX5_isCovered_13 ?_
              refine va_get (D := (dC, dI)) (ci := 4) (v := .ref v0) (C := RX2) (T := TX2) (N := 3) hx hb hts inX2_ hown hK hP 1 rfl rfl 0 (by decide) fl51_ (fun _ h9 => h9) rfl dX5_isCovered_16 ?_
              refine lv_iload_n hx hb dX5_isCovered_19 rfl (lv_at hl 1 rfl) ?_
              refine lv_iload_n hx hb dX5_isCovered_20 rfl (lv_at hl 2 rfl) ?_
              refine lv_iload_n hx hb dX5_isCovered_21 rfl (lv_at hl 3 rfl) ?_
              obtain ⟨R29, g30, hf⟩ := bd_B hf
              obtain ⟨r28, rfl⟩ : ∃ z, z = R29 := ⟨_, rfl⟩
              have hPc := hP.sub (ws' := wV_ v0 v_keys v_firsts v_ends v_values v_inferred v_gone cI cZ vkeys vfirsts vends vvalues vinferred vgone vmade) [2, 3, 4, 5, 6, 7, 8] rfl
              have hDc := hD.sub (ws' := wV_ v0 v_keys v_firsts v_ends v_values v_inferred v_gone cI cZ vkeys vfirsts vends vvalues vinferred vgone vmade) [2, 3, 4, 5, 6, 7, 8] (by decide) rfl
              have hFc := va_free (wc := wV_ v0 v_keys v_firsts v_ends v_values v_inferred v_gone cI cZ vkeys vfirsts vends vvalues vinferred vgone vmade) hD hS hA [2, 3, 4, 5, 6, 7, 8] rfl
              refine va_calli (va_runV (As := [.int a1, .int a2, .int a3]) (rest := []) ⟨hx, hb, hml, hown, hts⟩ (c_X4_fill l dC dI cI cZ cC cJ cD v0 v_keys v_firsts v_ends v_values v_inferred v_gone H25.size vkeys vfirsts vends vvalues vinferred vgone vmade a1 a2 a3 r28 g30) (cwV 3 hts gX5_isCovered_X4_fill rfl rfl rfl hs_X4_fill ⟨Nat.le_of_ble_eq_true rfl, Nat.le_of_ble_eq_true rfl⟩) (preV_ (ci := 6) (q0 := 0) hPc hK hDc rfl rfl rfl rfl) rfl rfl hl.1 rfl (lv_room (Nat.le_of_ble_eq_true rfl)) dX5_isCovered_22 ⟨Nat.le_of_ble_eq_true rfl, Nat.le_of_ble_eq_true rfl⟩) hS (fun q _ h => hFc q h) hFc (fun z32 u t H31 locs ht hvm hw hB hz1 hk1 hS => ?_)
              have hw : r28 = z32 := hw.symm
              subst hw
              obtain ⟨hP, hD⟩ := aft_ (Wr := wD_ d0 s0 z0 b0 q0 t0 dhasSaved dkeptError dmoved ++ wS_ s0 v0 f0 r0 ++ wF_ f0 f_keys f_days f_amounts f_versions cI fkeys fdays famounts fversions fcount ++ wR_ r0 r_keys r_days r_values cI rkeys rdays rvalues rcount) (Wc' := wV_ v0 v_keys v_firsts v_ends v_values v_inferred v_gone cI cZ vkeys vfirsts vends vvalues vinferred vgone vmade) (W2 := wD_ d0 s0 z0 b0 q0 t0 dhasSaved dkeptError dmoved ++ wS_ s0 v0 f0 r0 ++ wV_ v0 v_keys v_firsts v_ends v_values v_inferred v_gone cI cZ vkeys vfirsts vends vvalues vinferred vgone vmade ++ wF_ f0 f_keys f_days f_amounts f_versions cI fkeys fdays famounts fversions fcount ++ wR_ r0 r_keys r_days r_values cI rkeys rdays rvalues rcount) hP hD [2, 3, 4, 5, 6, 7, 8] [0, 1, 9, 10, 11, 12, 13, 14, 15, 16, 17] [0, 1, 11, 12, 13, 14, 15, 16, 17, 2, 3, 4, 5, 6, 7, 8, 9, 10] rfl rfl (by decide) (by decide) (by decide) hk1 hFc hB ht rfl
              obtain ⟨h33, hf⟩ := gb_T hf
              have hR := Option.some.inj hf
              subst hR
              refine vx_ret (W.widen (k := 3) (n := 18) (Nat.le_of_ble_eq_true rfl) (Nat.le_of_ble_eq_true rfl) ?_)
              exact W.zret (v := r28) hx hb hr (nar_b h33) (fun t ht hW => ⟨⟨r28, (), rfl, rfl, by rw [ht]; exact hP, va_K.moved hW.alike hK, hD⟩, hS.F ht⟩) hS.2.2 dX5_isCovered_25
theorem hs_X5_isCovered : yX5_isCovered.cls = RX5 ∧ yX5_isCovered.cls ≠ "java/lang/invoke/MethodHandle" ∧ yX5_isCovered.cls ≠ "java/lang/invoke/VarHandle" ∧ (parseMethodDescriptor yX5_isCovered.desc).map (fun d => d.parameters.length) = some 3 := by decide +kernel
set_option maxRecDepth 20000 in
theorem in_X5_stage_X1 : ∀ w ∈ wsX10, w ∈ wsX5_stage := by decide +kernel
set_option maxRecDepth 20000 in
theorem in_X5_stage_X2 : ∀ w ∈ wsX20, w ∈ wsX5_stage := by decide +kernel
set_option maxRecDepth 20000 in
theorem in_X5_stage_X5 : ∀ w ∈ wsX50, w ∈ wsX5_stage := by decide +kernel
set_option maxRecDepth 20000 in
theorem at_X5_stage_60 : ∀ w ∈ (vx_at0 RX5 60 "java/lang/IllegalStateException" ["java/lang/RuntimeException", "java/lang/Exception"]).filter goodWord, w ∈ wsX5_stage := by decide +kernel
set_option maxRecDepth 20000 in
theorem at_X5_stage_60g : ∀ w ∈ Cond.classLink RX5 58 "java/lang/IllegalStateException" :: Cond.initialized "java/lang/IllegalStateException" :: vx_at0 RX5 60 "java/lang/IllegalStateException" ["java/lang/RuntimeException", "java/lang/Exception"], vx_ot w = true := by decide +kernel
def f_X5_stage (a1 : Int32) (a2 : Int32) (a3 : Int32) (D_ : tD_) (S_ : tS_) (V_ : tV_) (F_ : tF_) (R_ : tR_) : Option (Except String Int32 × tR_) :=
match D_ with
| (dhasSaved, dkeptError, dmoved) =>
match V_ with
| (vkeys, vfirsts, vends, vvalues, vinferred, vgone, vmade) =>
match F_ with
| (fkeys, fdays, famounts, fversions, fcount) =>
match R_ with
| (rkeys, rdays, rvalues, rcount) =>
bd_ (f_X5_checkKey a1) (fun x1 =>
match x1 with
| Except.error E9 => some (Except.error E9, (rkeys, rdays, rvalues, rcount))
| Except.ok v2 =>
bd_ (f_X5_checkDay a2) (fun x10 =>
match x10 with
| Except.error E18 => some (Except.error E18, (rkeys, rdays, rvalues, rcount))
| Except.ok v11 =>
bd_ (f_X1_insert a1 a2 a3 (rkeys, rdays, rvalues, rcount)) (fun (r19, (rk20, rd21, rv22, rc23)) =>
if r19 = 0 then
some (Except.error "java/lang/IllegalStateException", (rk20, rd21, rv22, rc23))
else
some (Except.ok rc23, (rk20, rd21, rv22, rc23)))))
abbrev rm_X5_stage : Room := { frames := 7, cells := 3, slots := 18, locals := 109 }
set_option maxHeartbeats 4000000 in
set_option maxRecDepth 100000 in
theorem c_X5_stage (l : Launch) (dC : Nat → ClassId) (dI : Nat → Nat → Nat) (cI cZ cC cJ cD : ClassId) (hst : l.stackTraces = false) (d0 s0 z0 b0 q0 t0 v0 f0 r0 v_keys v_firsts v_ends v_values v_inferred v_gone f_keys f_days f_amounts f_versions r_keys r_days r_values : Nat) (sz : Nat) (dhasSaved : Int32) (dkeptError : Int32) (dmoved : Int32) (vkeys : Nat → Int32) (vfirsts : Nat → Int32) (vends : Nat → Int32) (vvalues : Nat → Int32) (vinferred : Nat → Int32) (vgone : Nat → Int32) (vmade : Int32) (fkeys : Nat → Int32) (fdays : Nat → Int32) (famounts : Nat → Int32) (fversions : Nat → Int32) (fcount : Int32) (rkeys : Nat → Int32) (rdays : Nat → Int32) (rvalues : Nat → Int32) (rcount : Int32) (a1 : Int32) (a2 : Int32) (a3 : Int32) (R : Except String Int32 × tR_) (hf : f_X5_stage a1 a2 a3 (dhasSaved, dkeptError, dmoved) () (vkeys, vfirsts, vends, vvalues, vinferred, vgone, vmade) (fkeys, fdays, famounts, fversions, fcount) (rkeys, rdays, rvalues, rcount) = some R) : vx_Met l yX5_stage wsX5_stage rm_X5_stage (Py_ (dC, dI) (ty_ cI cZ cC cJ cD) (wD_ d0 s0 z0 b0 q0 t0 dhasSaved dkeptError dmoved ++ wS_ s0 v0 f0 r0 ++ wV_ v0 v_keys v_firsts v_ends v_values v_inferred v_gone cI cZ vkeys vfirsts vends vvalues vinferred vgone vmade ++ wF_ f0 f_keys f_days f_amounts f_versions cI fkeys fdays famounts fversions fcount ++ wR_ r0 r_keys r_days r_values cI rkeys rdays rvalues rcount) sz [.ref d0, .int a1, .int a2, .int a3]) (Xi_ (dC, dI) (ty_ cI cZ cC cJ cD) R.1 (wD_ d0 s0 z0 b0 q0 t0 dhasSaved dkeptError dmoved ++ wS_ s0 v0 f0 r0 ++ wV_ v0 v_keys v_firsts v_ends v_values v_inferred v_gone cI cZ vkeys vfirsts vends vvalues vinferred vgone vmade ++ wF_ f0 f_keys f_days f_amounts f_versions cI fkeys fdays famounts fversions fcount ++ wR_ r0 r_keys r_days r_values cI R.2.1 R.2.2.1 R.2.2.2.1 R.2.2.2.2) (va_A (wD_ d0 s0 z0 b0 q0 t0 dhasSaved dkeptError dmoved ++ wS_ s0 v0 f0 r0 ++ wV_ v0 v_keys v_firsts v_ends v_values v_inferred v_gone cI cZ vkeys vfirsts vends vvalues vinferred vgone vmade ++ wF_ f0 f_keys f_days f_amounts f_versions cI fkeys fdays famounts fversions fcount ++ wR_ r0 r_keys r_days r_values cI rkeys rdays rvalues rcount) sz)) (XX_ (dC, dI) (ty_ cI cZ cC cJ cD) R.1 (wD_ d0 s0 z0 b0 q0 t0 dhasSaved dkeptError dmoved ++ wS_ s0 v0 f0 r0 ++ wV_ v0 v_keys v_firsts v_ends v_values v_inferred v_gone cI cZ vkeys vfirsts vends vvalues vinferred vgone vmade ++ wF_ f0 f_keys f_days f_amounts f_versions cI fkeys fdays famounts fversions fcount ++ wR_ r0 r_keys r_days r_values cI R.2.1 R.2.2.1 R.2.2.2.1 R.2.2.2.2) (va_A (wD_ d0 s0 z0 b0 q0 t0 dhasSaved dkeptError dmoved ++ wS_ s0 v0 f0 r0 ++ wV_ v0 v_keys v_firsts v_ends v_values v_inferred v_gone cI cZ vkeys vfirsts vends vvalues vinferred vgone vmade ++ wF_ f0 f_keys f_days f_amounts f_versions cI fkeys fdays famounts fversions fcount ++ wR_ r0 r_keys r_days r_values cI rkeys rdays rvalues rcount) sz)) 3 18 (va_A (wD_ d0 s0 z0 b0 q0 t0 dhasSaved dkeptError dmoved ++ wS_ s0 v0 f0 r0 ++ wV_ v0 v_keys v_firsts v_ends v_values v_inferred v_gone cI cZ vkeys vfirsts vends vvalues vinferred vgone vmade ++ wF_ f0 f_keys f_days f_amounts f_versions cI fkeys fdays famounts fversions fcount ++ wR_ r0 r_keys r_days r_values cI rkeys rdays rvalues rcount) sz) := by
  refine mety_ (cc := cX5_stage) (maxL := 4) (ret := (some .int)) (Qcf := fun A => Xi_ (dC, dI) (ty_ cI cZ cC cJ cD) R.1 (wD_ d0 s0 z0 b0 q0 t0 dhasSaved dkeptError dmoved ++ wS_ s0 v0 f0 r0 ++ wV_ v0 v_keys v_firsts v_ends v_values v_inferred v_gone cI cZ vkeys vfirsts vends vvalues vinferred vgone vmade ++ wF_ f0 f_keys f_days f_amounts f_versions cI fkeys fdays famounts fversions fcount ++ wR_ r0 r_keys r_days r_values cI R.2.1 R.2.2.1 R.2.2.2.1 R.2.2.2.2) A) (XCf := fun A => XX_ (dC, dI) (ty_ cI cZ cC cJ cD) R.1 (wD_ d0 s0 z0 b0 q0 t0 dhasSaved dkeptError dmoved ++ wS_ s0 v0 f0 r0 ++ wV_ v0 v_keys v_firsts v_ends v_values v_inferred v_gone cI cZ vkeys vfirsts vends vvalues vinferred vgone vmade ++ wF_ f0 f_keys f_days f_amounts f_versions cI fkeys fdays famounts fversions fcount ++ wR_ r0 r_keys r_days r_values cI R.2.1 R.2.2.1 R.2.2.2.1 R.2.2.2.2) A) (by decide) rfl (Nat.le_of_ble_eq_true rfl) ?_
  intro p e s m args below meth c A ls hx hb hr hts hown hlocks hml htab hA hU hN hC hP hK hD hl
  have hown : s.vm.findClass RX5 = some m.cls := hown
  have hl : lv_has ls 4 [(0, .ref d0), (1, .int a1), (2, .int a2), (3, .int a3)] := hl
  have hS : va_S A s.heap s.heap [] := va_S.rf
  have fl10_ : (Cond.fieldLink RX5 10 "DimensionLoader" "live" "LDimensionLoader$Store;").before args s = true := hts _ (List.mem_of_getElem? (i := 3) rfl)
  have fl212_ : (Cond.fieldLink RX5 212 "DimensionLoader$Store" "rows" "LDimensionLoader$Rows;").before args s = true := hts _ (List.mem_of_getElem? (i := 4) rfl)
  have fl218_ : (Cond.fieldLink RX5 218 "DimensionLoader$Rows" "count" "I").before args s = true := hts _ (List.mem_of_getElem? (i := 5) rfl)
  have inX1_ : ∀ w ∈ wsX10, w ∈ wsX5_stage := in_X5_stage_X1
  have inX2_ : ∀ w ∈ wsX20, w ∈ wsX5_stage := in_X5_stage_X2
  have inX5_ : ∀ w ∈ wsX50, w ∈ wsX5_stage := in_X5_stage_X5
  unfold f_X5_stage at hf
  dsimp only at hf
  refine lv_iload_n hx hb dX5_stage_0 rfl (lv_at hl 1 rfl) ?_
  obtain ⟨R3, g4, hf⟩ := bd_B hf
  obtain ⟨x1, rfl⟩ : ∃ z, z = R3 := ⟨_, rfl⟩
  have hPc := hP.sub (ws' := []) [] rfl
  have hDc := hD.sub (ws' := []) [] (by decide) rfl
  have hFc := va_free (wc := []) hD hS hA [] rfl
  cases x1 with
  | error E9 =>
    have hR := Option.some.inj hf
    subst hR
    refine vx_callv (vx_runS (As := [.int a1]) (rest := []) ⟨hx, hb, hml, hown, hts⟩ (c_X5_checkKey l dC dI cI cZ cC cJ cD hst s.heap.size a1 (Except.error E9) g4) (cwS 1 hts gX5_stage_X5_checkKey rfl rfl rfl hs_X5_checkKey ⟨Nat.le_of_ble_eq_true rfl, Nat.le_of_ble_eq_true rfl⟩) (preSy_ hPc hK hDc rfl hS hU hN hFc hC) rfl rfl hl.1 rfl (lv_room (Nat.le_of_ble_eq_true rfl)) dX5_stage_1 ⟨Nat.le_of_ble_eq_true rfl, Nat.le_of_ble_eq_true rfl⟩) hS (fun q _ h => hFc q h) hFc (fun q _ h => hFc q h) (fun E ce q9 u t H7 locs ht hvm hp hB hz1 hk1 hS hce hcv hcl => ?_) (fun u t H7 locs ht hvm hw hB hz1 hk1 hS => ?_)
    · obtain ⟨hE, hB⟩ := hB
      cases hE
      obtain ⟨hP, hD⟩ := aft_ (Wr := wD_ d0 s0 z0 b0 q0 t0 dhasSaved dkeptError dmoved ++ wS_ s0 v0 f0 r0 ++ wV_ v0 v_keys v_firsts v_ends v_values v_inferred v_gone cI cZ vkeys vfirsts vends vvalues vinferred vgone vmade ++ wF_ f0 f_keys f_days f_amounts f_versions cI fkeys fdays famounts fversions fcount ++ wR_ r0 r_keys r_days r_values cI rkeys rdays rvalues rcount) (Wc' := []) (W2 := wD_ d0 s0 z0 b0 q0 t0 dhasSaved dkeptError dmoved ++ wS_ s0 v0 f0 r0 ++ wV_ v0 v_keys v_firsts v_ends v_values v_inferred v_gone cI cZ vkeys vfirsts vends vvalues vinferred vgone vmade ++ wF_ f0 f_keys f_days f_amounts f_versions cI fkeys fdays famounts fversions fcount ++ wR_ r0 r_keys r_days r_values cI rkeys rdays rvalues rcount) hP hD [] [0, 1, 2, 3, 4, 5, 6, 7, 8, 9, 10, 11, 12, 13, 14, 15, 16, 17] [0, 1, 2, 3, 4, 5, 6, 7, 8, 9, 10, 11, 12, 13, 14, 15, 16, 17] rfl rfl (by decide) (by decide) (by decide) hk1 hFc hB ht rfl
      exact vx_out (fun x h => (htab x h).elim) hlocks hce hcv hcl (thr2_ hS hP hK hD rfl) hS.2.2 (Nat.le_of_ble_eq_true rfl) (Nat.le_of_ble_eq_true rfl)
    · exact absurd hw (fun h => nomatch h)
  | ok v2 =>
    refine vx_callv (vx_runS (As := [.int a1]) (rest := []) ⟨hx, hb, hml, hown, hts⟩ (c_X5_checkKey l dC dI cI cZ cC cJ cD hst s.heap.size a1 (Except.ok ()) g4) (cwS 1 hts gX5_stage_X5_checkKey rfl rfl rfl hs_X5_checkKey ⟨Nat.le_of_ble_eq_true rfl, Nat.le_of_ble_eq_true rfl⟩) (preSy_ hPc hK hDc rfl hS hU hN hFc hC) rfl rfl hl.1 rfl (lv_room (Nat.le_of_ble_eq_true rfl)) dX5_stage_1 ⟨Nat.le_of_ble_eq_true rfl, Nat.le_of_ble_eq_true rfl⟩) hS (fun q _ h => hFc q h) hFc (fun q _ h => hFc q h) (fun E ce q9 u t H7 locs ht hvm hp hB hz1 hk1 hS hce hcv hcl => ?_) (fun u t H7 locs ht hvm hw hB hz1 hk1 hS => ?_)
    · exact absurd hB.1 (fun h => nomatch h)
    · obtain ⟨hP, hD⟩ := aft_ (Wr := wD_ d0 s0 z0 b0 q0 t0 dhasSaved dkeptError dmoved ++ wS_ s0 v0 f0 r0 ++ wV_ v0 v_keys v_firsts v_ends v_values v_inferred v_gone cI cZ vkeys vfirsts vends vvalues vinferred vgone vmade ++ wF_ f0 f_keys f_days f_amounts f_versions cI fkeys fdays famounts fversions fcount ++ wR_ r0 r_keys r_days r_values cI rkeys rdays rvalues rcount) (Wc' := []) (W2 := wD_ d0 s0 z0 b0 q0 t0 dhasSaved dkeptError dmoved ++ wS_ s0 v0 f0 r0 ++ wV_ v0 v_keys v_firsts v_ends v_values v_inferred v_gone cI cZ vkeys vfirsts vends vvalues vinferred vgone vmade ++ wF_ f0 f_keys f_days f_amounts f_versions cI fkeys fdays famounts fversions fcount ++ wR_ r0 r_keys r_days r_values cI rkeys rdays rvalues rcount) hP hD [] [0, 1, 2, 3, 4, 5, 6, 7, 8, 9, 10, 11, 12, 13, 14, 15, 16, 17] [0, 1, 2, 3, 4, 5, 6, 7, 8, 9, 10, 11, 12, 13, 14, 15, 16, 17] rfl rfl (by decide) (by decide) (by decide) hk1 hFc hB ht rfl
      refine lv_iload_n hx hb dX5_stage_4 rfl (lv_at hl 2 rfl) ?_
      obtain ⟨R12, g13, hf⟩ := bd_B hf
      obtain ⟨x10, rfl⟩ : ∃ z, z = R12 := ⟨_, rfl⟩
      have hPc := hP.sub (ws' := []) [] rfl
      have hDc := hD.sub (ws' := []) [] (by decide) rfl
      have hFc := va_free (wc := []) hD hS hA [] rfl
      cases x10 with
      | error E18 =>
        have hR := Option.some.inj hf
        subst hR
        refine vx_callv (vx_runS (As := [.int a2]) (rest := []) ⟨hx, hb, hml, hown, hts⟩ (c_X5_checkDay l dC dI cI cZ cC cJ cD hst H7.size a2 (Except.error E18) g13) (cwS 1 hts gX5_stage_X5_checkDay rfl rfl rfl hs_X5_checkDay ⟨Nat.le_of_ble_eq_true rfl, Nat.le_of_ble_eq_true rfl⟩) (preSy_ hPc hK hDc rfl hS hU hN hFc hC) rfl rfl hl.1 rfl (lv_room (Nat.le_of_ble_eq_true rfl)) dX5_stage_5 ⟨Nat.le_of_ble_eq_true rfl, Nat.le_of_ble_eq_true rfl⟩) hS (fun q _ h => hFc q h) hFc (fun q _ h => hFc q h) (fun E ce q9 u t H16 locs ht hvm hp hB hz1 hk1 hS hce hcv hcl => ?_) (fun u t H16 locs ht hvm hw hB hz1 hk1 hS => ?_)
        · obtain ⟨hE, hB⟩ := hB
          cases hE
          obtain ⟨hP, hD⟩ := aft_ (Wr := wD_ d0 s0 z0 b0 q0 t0 dhasSaved dkeptError dmoved ++ wS_ s0 v0 f0 r0 ++ wV_ v0 v_keys v_firsts v_ends v_values v_inferred v_gone cI cZ vkeys vfirsts vends vvalues vinferred vgone vmade ++ wF_ f0 f_keys f_days f_amounts f_versions cI fkeys fdays famounts fversions fcount ++ wR_ r0 r_keys r_days r_values cI rkeys rdays rvalues rcount) (Wc' := []) (W2 := wD_ d0 s0 z0 b0 q0 t0 dhasSaved dkeptError dmoved ++ wS_ s0 v0 f0 r0 ++ wV_ v0 v_keys v_firsts v_ends v_values v_inferred v_gone cI cZ vkeys vfirsts vends vvalues vinferred vgone vmade ++ wF_ f0 f_keys f_days f_amounts f_versions cI fkeys fdays famounts fversions fcount ++ wR_ r0 r_keys r_days r_values cI rkeys rdays rvalues rcount) hP hD [] [0, 1, 2, 3, 4, 5, 6, 7, 8, 9, 10, 11, 12, 13, 14, 15, 16, 17] [0, 1, 2, 3, 4, 5, 6, 7, 8, 9, 10, 11, 12, 13, 14, 15, 16, 17] rfl rfl (by decide) (by decide) (by decide) hk1 hFc hB ht rfl
          exact vx_out (fun x h => (htab x h).elim) hlocks hce hcv hcl (thr2_ hS hP hK hD rfl) hS.2.2 (Nat.le_of_ble_eq_true rfl) (Nat.le_of_ble_eq_true rfl)
        · exact absurd hw (fun h => nomatch h)
      | ok v11 =>
        refine vx_callv (vx_runS (As := [.int a2]) (rest := []) ⟨hx, hb, hml, hown, hts⟩ (c_X5_checkDay l dC dI cI cZ cC cJ cD hst H7.size a2 (Except.ok ()) g13) (cwS 1 hts gX5_stage_X5_checkDay rfl rfl rfl hs_X5_checkDay ⟨Nat.le_of_ble_eq_true rfl, Nat.le_of_ble_eq_true rfl⟩) (preSy_ hPc hK hDc rfl hS hU hN hFc hC) rfl rfl hl.1 rfl (lv_room (Nat.le_of_ble_eq_true rfl)) dX5_stage_5 ⟨Nat.le_of_ble_eq_true rfl, Nat.le_of_ble_eq_true rfl⟩) hS (fun q _ h => hFc q h) hFc (fun q _ h => hFc q h) (fun E ce q9 u t H16 locs ht hvm hp hB hz1 hk1 hS hce hcv hcl => ?_) (fun u t H16 locs ht hvm hw hB hz1 hk1 hS => ?_)
        · exact absurd hB.1 (fun h => nomatch h)
        · obtain ⟨hP, hD⟩ := aft_ (Wr := wD_ d0 s0 z0 b0 q0 t0 dhasSaved dkeptError dmoved ++ wS_ s0 v0 f0 r0 ++ wV_ v0 v_keys v_firsts v_ends v_values v_inferred v_gone cI cZ vkeys vfirsts vends vvalues vinferred vgone vmade ++ wF_ f0 f_keys f_days f_amounts f_versions cI fkeys fdays famounts fversions fcount ++ wR_ r0 r_keys r_days r_values cI rkeys rdays rvalues rcount) (Wc' := []) (W2 := wD_ d0 s0 z0 b0 q0 t0 dhasSaved dkeptError dmoved ++ wS_ s0 v0 f0 r0 ++ wV_ v0 v_keys v_firsts v_ends v_values v_inferred v_gone cI cZ vkeys vfirsts vends vvalues vinferred vgone vmade ++ wF_ f0 f_keys f_days f_amounts f_versions cI fkeys fdays famounts fversions fcount ++ wR_ r0 r_keys r_days r_values cI rkeys rdays rvalues rcount) hP hD [] [0, 1, 2, 3, 4, 5, 6, 7, 8, 9, 10, 11, 12, 13, 14, 15, 16, 17] [0, 1, 2, 3, 4, 5, 6, 7, 8, 9, 10, 11, 12, 13, 14, 15, 16, 17] rfl rfl (by decide) (by decide) (by decide) hk1 hFc hB ht rfl
          refine lv_aload_n hx hb dX5_stage_8 rfl (lv_at hl 0 rfl) ?_
          refine va_get (D := (dC, dI)) (ci := 7) (v := .ref s0) (C := RX5) (T := TX5) (N := 8) hx hb hts inX5_ hown hK hP 0 rfl rfl 0 (by decide) fl10_ (fun _ h9 => h9) rfl dX5_stage_9 ?_
          refine va_get (D := (dC, dI)) (ci := 4) (v := .ref r0) (C := RX2) (T := TX2) (N := 3) hx hb hts inX2_ hown hK hP 1 rfl rfl 2 (by decide) fl212_ (fun _ h9 => h9) rfl dX5_stage_12 ?_
          refine lv_iload_n hx hb dX5_stage_15 rfl (lv_at hl 1 rfl) ?_
          refine lv_iload_n hx hb dX5_stage_16 rfl (lv_at hl 2 rfl) ?_
          refine lv_iload_n hx hb dX5_stage_17 rfl (lv_at hl 3 rfl) ?_
          obtain ⟨R24, g25, hf⟩ := bd_B hf
          obtain ⟨r19, ⟨rk20, rd21, rv22, rc23⟩⟩ := R24
          dsimp only at hf
          have hPc := hP.sub (ws' := wR_ r0 r_keys r_days r_values cI rkeys rdays rvalues rcount) [14, 15, 16, 17] rfl
          have hDc := hD.sub (ws' := wR_ r0 r_keys r_days r_values cI rkeys rdays rvalues rcount) [14, 15, 16, 17] (by decide) rfl
          have hFc := va_free (wc := wR_ r0 r_keys r_days r_values cI rkeys rdays rvalues rcount) hD hS hA [14, 15, 16, 17] rfl
          refine va_calli (va_runV (As := [.int a1, .int a2, .int a3]) (rest := []) ⟨hx, hb, hml, hown, hts⟩ (c_X1_insert l dC dI cI cZ cC cJ cD r0 r_keys r_days r_values H16.size rkeys rdays rvalues rcount a1 a2 a3 (r19, (rk20, rd21, rv22, rc23)) g25) (cwV 3 hts gX5_stage_X1_insert rfl rfl rfl hs_X1_insert ⟨Nat.le_of_ble_eq_true rfl, Nat.le_of_ble_eq_true rfl⟩) (preV_ (ci := 3) (q0 := 0) hPc hK hDc rfl rfl rfl rfl) rfl rfl hl.1 rfl (lv_room (Nat.le_of_ble_eq_true rfl)) dX5_stage_18 ⟨Nat.le_of_ble_eq_true rfl, Nat.le_of_ble_eq_true rfl⟩) hS (fun q _ h => hFc q h) hFc (fun z27 u t H26 locs ht hvm hw hB hz1 hk1 hS => ?_)
          have hw : r19 = z27 := hw.symm
          subst hw
          obtain ⟨hP, hD⟩ := aft_ (Wr := wD_ d0 s0 z0 b0 q0 t0 dhasSaved dkeptError dmoved ++ wS_ s0 v0 f0 r0 ++ wV_ v0 v_keys v_firsts v_ends v_values v_inferred v_gone cI cZ vkeys vfirsts vends vvalues vinferred vgone vmade ++ wF_ f0 f_keys f_days f_amounts f_versions cI fkeys fdays famounts fversions fcount) (Wc' := wR_ r0 r_keys r_days r_values cI rk20 rd21 rv22 rc23) (W2 := wD_ d0 s0 z0 b0 q0 t0 dhasSaved dkeptError dmoved ++ wS_ s0 v0 f0 r0 ++ wV_ v0 v_keys v_firsts v_ends v_values v_inferred v_gone cI cZ vkeys vfirsts vends vvalues vinferred vgone vmade ++ wF_ f0 f_keys f_days f_amounts f_versions cI fkeys fdays famounts fversions fcount ++ wR_ r0 r_keys r_days r_values cI rk20 rd21 rv22 rc23) hP hD [14, 15, 16, 17] [0, 1, 2, 3, 4, 5, 6, 7, 8, 9, 10, 11, 12, 13] [0, 1, 2, 3, 4, 5, 6, 7, 8, 9, 10, 11, 12, 13, 14, 15, 16, 17] rfl rfl (by decide) (by decide) (by decide) hk1 hFc hB ht rfl
          refine lv_if_ne (tgt := 32) hx hb dX5_stage_21 (by decide) (fun c28 => ?_) (fun c28 => ?_)
          · have hf := ite_F c28 hf
            refine lv_aload_n hx hb dX5_stage_32 rfl (lv_at hl 0 rfl) ?_
            refine va_get (D := (dC, dI)) (ci := 7) (v := .ref s0) (C := RX5) (T := TX5) (N := 8) hx hb hts inX5_ hown hK hP 0 rfl rfl 0 (by decide) fl10_ (fun _ h9 => h9) rfl dX5_stage_33 ?_
            refine va_get (D := (dC, dI)) (ci := 4) (v := .ref r0) (C := RX2) (T := TX2) (N := 3) hx hb hts inX2_ hown hK hP 1 rfl rfl 2 (by decide) fl212_ (fun _ h9 => h9) rfl dX5_stage_36 ?_
            refine va_get (D := (dC, dI)) (ci := 3) (v := .int rc23) (C := RX1) (T := TX1) (N := 4) hx hb hts inX1_ hown hK hP 14 rfl rfl 3 (by decide) fl218_ (fun _ h9 => h9) rfl dX5_stage_39 ?_
            have hR := Option.some.inj hf
            subst hR
            refine vx_ret (W.widen (k := 3) (n := 18) (Nat.le_of_ble_eq_true rfl) (Nat.le_of_ble_eq_true rfl) ?_)
            exact W.iret (v := rc23) hx hb hr (fun t ht hW => ⟨⟨rc23, (), rfl, rfl, by rw [ht]; exact hP, va_K.moved hW.alike hK, hD⟩, hS.F ht⟩) hS.2.2 dX5_stage_42
          · have hf := ite_T c28 hf
            have hR := Option.some.inj hf
            subst hR
            exact vx_throw0 (names := ["java/lang/RuntimeException", "java/lang/Exception"]) hx hb hst hown (by decide +kernel) (by decide +kernel) (hts _ (List.mem_of_getElem? (i := 1) rfl)) (hts _ (List.mem_of_getElem? (i := 2) rfl)) (vx_hat (fun w h => hts w (at_X5_stage_60 w h)) (atn_0 "java/lang/IllegalStateException" (by decide +kernel) 60 (by decide)) (hC.words (by decide +kernel))) at_X5_stage_60g hU hN hS (hl.1.trans hml.symm) dX5_stage_24 dX5_stage_27 dX5_stage_28 dX5_stage_31 (fun x h => (htab x h).elim) (Nat.le_of_ble_eq_true rfl) (Nat.le_of_ble_eq_true rfl) (Nat.le_of_ble_eq_true rfl) (Nat.le_of_ble_eq_true rfl) hlocks (thr_ hS hP hK hD rfl) hS.2.2 (Nat.le_of_ble_eq_true rfl) (Nat.le_of_ble_eq_true rfl)
theorem hs_X5_stage : yX5_stage.cls = RX5 ∧ yX5_stage.cls ≠ "java/lang/invoke/MethodHandle" ∧ yX5_stage.cls ≠ "java/lang/invoke/VarHandle" ∧ (parseMethodDescriptor yX5_stage.desc).map (fun d => d.parameters.length) = some 3 := by decide +kernel
set_option maxRecDepth 20000 in
theorem in_X5_staged_X1 : ∀ w ∈ wsX10, w ∈ wsX5_staged := by decide +kernel
set_option maxRecDepth 20000 in
theorem in_X5_staged_X2 : ∀ w ∈ wsX20, w ∈ wsX5_staged := by decide +kernel
set_option maxRecDepth 20000 in
theorem in_X5_staged_X5 : ∀ w ∈ wsX50, w ∈ wsX5_staged := by decide +kernel
def f_X5_staged  (D_ : tD_) (S_ : tS_) (V_ : tV_) (F_ : tF_) (R_ : tR_) : Option (Int32) :=
match D_ with
| (dhasSaved, dkeptError, dmoved) =>
match V_ with
| (vkeys, vfirsts, vends, vvalues, vinferred, vgone, vmade) =>
match F_ with
| (fkeys, fdays, famounts, fversions, fcount) =>
match R_ with
| (rkeys, rdays, rvalues, rcount) =>
some rcount
abbrev rm_X5_staged : Room := { frames := 0, cells := 0, slots := 0, locals := 0 }
set_option maxHeartbeats 4000000 in
set_option maxRecDepth 100000 in
theorem c_X5_staged (l : Launch) (dC : Nat → ClassId) (dI : Nat → Nat → Nat) (cI cZ cC cJ cD : ClassId) (d0 s0 z0 b0 q0 t0 v0 f0 r0 v_keys v_firsts v_ends v_values v_inferred v_gone f_keys f_days f_amounts f_versions r_keys r_days r_values : Nat) (sz : Nat) (dhasSaved : Int32) (dkeptError : Int32) (dmoved : Int32) (vkeys : Nat → Int32) (vfirsts : Nat → Int32) (vends : Nat → Int32) (vvalues : Nat → Int32) (vinferred : Nat → Int32) (vgone : Nat → Int32) (vmade : Int32) (fkeys : Nat → Int32) (fdays : Nat → Int32) (famounts : Nat → Int32) (fversions : Nat → Int32) (fcount : Int32) (rkeys : Nat → Int32) (rdays : Nat → Int32) (rvalues : Nat → Int32) (rcount : Int32)  (R : Int32) (hf : f_X5_staged  (dhasSaved, dkeptError, dmoved) () (vkeys, vfirsts, vends, vvalues, vinferred, vgone, vmade) (fkeys, fdays, famounts, fversions, fcount) (rkeys, rdays, rvalues, rcount) = some R) : Met l yX5_staged wsX5_staged rm_X5_staged (Pc_ (dC, dI) (ty_ cI cZ cC cJ cD) (wD_ d0 s0 z0 b0 q0 t0 dhasSaved dkeptError dmoved ++ wS_ s0 v0 f0 r0 ++ wV_ v0 v_keys v_firsts v_ends v_values v_inferred v_gone cI cZ vkeys vfirsts vends vvalues vinferred vgone vmade ++ wF_ f0 f_keys f_days f_amounts f_versions cI fkeys fdays famounts fversions fcount ++ wR_ r0 r_keys r_days r_values cI rkeys rdays rvalues rcount) sz [.ref d0]) (Qi_ (dC, dI) (ty_ cI cZ cC cJ cD) R (wD_ d0 s0 z0 b0 q0 t0 dhasSaved dkeptError dmoved ++ wS_ s0 v0 f0 r0 ++ wV_ v0 v_keys v_firsts v_ends v_values v_inferred v_gone cI cZ vkeys vfirsts vends vvalues vinferred vgone vmade ++ wF_ f0 f_keys f_days f_amounts f_versions cI fkeys fdays famounts fversions fcount ++ wR_ r0 r_keys r_days r_values cI rkeys rdays rvalues rcount) (va_A (wD_ d0 s0 z0 b0 q0 t0 dhasSaved dkeptError dmoved ++ wS_ s0 v0 f0 r0 ++ wV_ v0 v_keys v_firsts v_ends v_values v_inferred v_gone cI cZ vkeys vfirsts vends vvalues vinferred vgone vmade ++ wF_ f0 f_keys f_days f_amounts f_versions cI fkeys fdays famounts fversions fcount ++ wR_ r0 r_keys r_days r_values cI rkeys rdays rvalues rcount) sz)) 0 0 (va_A (wD_ d0 s0 z0 b0 q0 t0 dhasSaved dkeptError dmoved ++ wS_ s0 v0 f0 r0 ++ wV_ v0 v_keys v_firsts v_ends v_values v_inferred v_gone cI cZ vkeys vfirsts vends vvalues vinferred vgone vmade ++ wF_ f0 f_keys f_days f_amounts f_versions cI fkeys fdays famounts fversions fcount ++ wR_ r0 r_keys r_days r_values cI rkeys rdays rvalues rcount) sz) := by
  refine met_ (cc := cX5_staged) (maxL := 1) (ret := (some .int)) (Qcf := fun A => Qi_ (dC, dI) (ty_ cI cZ cC cJ cD) R (wD_ d0 s0 z0 b0 q0 t0 dhasSaved dkeptError dmoved ++ wS_ s0 v0 f0 r0 ++ wV_ v0 v_keys v_firsts v_ends v_values v_inferred v_gone cI cZ vkeys vfirsts vends vvalues vinferred vgone vmade ++ wF_ f0 f_keys f_days f_amounts f_versions cI fkeys fdays famounts fversions fcount ++ wR_ r0 r_keys r_days r_values cI rkeys rdays rvalues rcount) A) (by decide) rfl (Nat.le_of_ble_eq_true rfl) ?_
  intro p e s m args below meth c A ls hx hb hr hts hown hlocks hml hA hP hK hD hl
  have hown : s.vm.findClass RX5 = some m.cls := hown
  have hl : lv_has ls 1 [(0, .ref d0)] := hl
  have hS : va_S A s.heap s.heap [] := va_S.rf
  have fl10_ : (Cond.fieldLink RX5 10 "DimensionLoader" "live" "LDimensionLoader$Store;").before args s = true := hts _ (List.mem_of_getElem? (i := 1) rfl)
  have fl212_ : (Cond.fieldLink RX5 212 "DimensionLoader$Store" "rows" "LDimensionLoader$Rows;").before args s = true := hts _ (List.mem_of_getElem? (i := 2) rfl)
  have fl218_ : (Cond.fieldLink RX5 218 "DimensionLoader$Rows" "count" "I").before args s = true := hts _ (List.mem_of_getElem? (i := 3) rfl)
  have inX1_ : ∀ w ∈ wsX10, w ∈ wsX5_staged := in_X5_staged_X1
  have inX2_ : ∀ w ∈ wsX20, w ∈ wsX5_staged := in_X5_staged_X2
  have inX5_ : ∀ w ∈ wsX50, w ∈ wsX5_staged := in_X5_staged_X5
  unfold f_X5_staged at hf
  dsimp only at hf
  refine lv_aload_n hx hb dX5_staged_0 rfl (lv_at hl 0 rfl) ?_
  refine va_get (D := (dC, dI)) (ci := 7) (v := .ref s0) (C := RX5) (T := TX5) (N := 8) hx hb hts inX5_ hown hK hP 0 rfl rfl 0 (by decide) fl10_ (fun _ h9 => h9) rfl dX5_staged_1 ?_
  refine va_get (D := (dC, dI)) (ci := 4) (v := .ref r0) (C := RX2) (T := TX2) (N := 3) hx hb hts inX2_ hown hK hP 1 rfl rfl 2 (by decide) fl212_ (fun _ h9 => h9) rfl dX5_staged_4 ?_
  refine va_get (D := (dC, dI)) (ci := 3) (v := .int rcount) (C := RX1) (T := TX1) (N := 4) hx hb hts inX1_ hown hK hP 14 rfl rfl 3 (by decide) fl218_ (fun _ h9 => h9) rfl dX5_staged_7 ?_
  have hR := Option.some.inj hf
  subst hR
  exact W.iret (v := rcount) hx hb hr (fun t ht hW => ⟨⟨rcount, (), rfl, rfl, by rw [ht]; exact hP, va_K.moved hW.alike hK, hD⟩, hS.F ht⟩) hS.2.2 dX5_staged_10
theorem hs_X5_staged : yX5_staged.cls = RX5 ∧ yX5_staged.cls ≠ "java/lang/invoke/MethodHandle" ∧ yX5_staged.cls ≠ "java/lang/invoke/VarHandle" ∧ (parseMethodDescriptor yX5_staged.desc).map (fun d => d.parameters.length) = some 0 := by decide +kernel
set_option maxRecDepth 20000 in
theorem in_X5_nextRow_X1 : ∀ w ∈ wsX10, w ∈ wsX5_nextRow := by decide +kernel
set_option maxRecDepth 20000 in
theorem in_X5_nextRow_X2 : ∀ w ∈ wsX20, w ∈ wsX5_nextRow := by decide +kernel
set_option maxRecDepth 20000 in
theorem in_X5_nextRow_X5 : ∀ w ∈ wsX50, w ∈ wsX5_nextRow := by decide +kernel
set_option maxRecDepth 20000 in
theorem at_X5_nextRow_153 : ∀ w ∈ (vx_at0 RX5 153 "java/lang/IllegalArgumentException" ["java/lang/RuntimeException", "java/lang/Exception"]).filter goodWord, w ∈ wsX5_nextRow := by decide +kernel
set_option maxRecDepth 20000 in
theorem at_X5_nextRow_153g : ∀ w ∈ Cond.classLink RX5 151 "java/lang/IllegalArgumentException" :: Cond.initialized "java/lang/IllegalArgumentException" :: vx_at0 RX5 153 "java/lang/IllegalArgumentException" ["java/lang/RuntimeException", "java/lang/Exception"], vx_ot w = true := by decide +kernel
set_option maxRecDepth 20000 in
theorem at_X5_nextRow_87 : ∀ w ∈ (vx_at0 RX5 87 "java/util/NoSuchElementException" ["java/lang/RuntimeException", "java/lang/Exception"]).filter goodWord, w ∈ wsX5_nextRow := by decide +kernel
set_option maxRecDepth 20000 in
theorem at_X5_nextRow_87g : ∀ w ∈ Cond.classLink RX5 85 "java/util/NoSuchElementException" :: Cond.initialized "java/util/NoSuchElementException" :: vx_at0 RX5 87 "java/util/NoSuchElementException" ["java/lang/RuntimeException", "java/lang/Exception"], vx_ot w = true := by decide +kernel
def f_X5_nextRow (a1 : Int32) (D_ : tD_) (S_ : tS_) (V_ : tV_) (F_ : tF_) (R_ : tR_) : Option (Except String Int32) :=
match D_ with
| (dhasSaved, dkeptError, dmoved) =>
match V_ with
| (vkeys, vfirsts, vends, vvalues, vinferred, vgone, vmade) =>
match F_ with
| (fkeys, fdays, famounts, fversions, fcount) =>
match R_ with
| (rkeys, rdays, rvalues, rcount) =>
if a1 < 0 then
some (Except.error "java/lang/IllegalArgumentException")
else
if a1 ≤ 2 then
if rcount = 0 then
some (Except.error "java/util/NoSuchElementException")
else
if a1 = 0 then
gd_ (0 : Int32) 20 (
some (Except.ok (rkeys ((0 : Int32).toNatClampNeg))))
else
if a1 = 1 then
gd_ (0 : Int32) 20 (
some (Except.ok (rdays ((0 : Int32).toNatClampNeg))))
else
gd_ (0 : Int32) 20 (
some (Except.ok (rvalues ((0 : Int32).toNatClampNeg))))
else
some (Except.error "java/lang/IllegalArgumentException")
abbrev rm_X5_nextRow : Room := { frames := 6, cells := 1, slots := 6, locals := 89 }
set_option maxHeartbeats 4000000 in
set_option maxRecDepth 100000 in
theorem c_X5_nextRow (l : Launch) (dC : Nat → ClassId) (dI : Nat → Nat → Nat) (cI cZ cC cJ cD : ClassId) (hst : l.stackTraces = false) (d0 s0 z0 b0 q0 t0 v0 f0 r0 v_keys v_firsts v_ends v_values v_inferred v_gone f_keys f_days f_amounts f_versions r_keys r_days r_values : Nat) (sz : Nat) (dhasSaved : Int32) (dkeptError : Int32) (dmoved : Int32) (vkeys : Nat → Int32) (vfirsts : Nat → Int32) (vends : Nat → Int32) (vvalues : Nat → Int32) (vinferred : Nat → Int32) (vgone : Nat → Int32) (vmade : Int32) (fkeys : Nat → Int32) (fdays : Nat → Int32) (famounts : Nat → Int32) (fversions : Nat → Int32) (fcount : Int32) (rkeys : Nat → Int32) (rdays : Nat → Int32) (rvalues : Nat → Int32) (rcount : Int32) (a1 : Int32) (R : Except String Int32) (hf : f_X5_nextRow a1 (dhasSaved, dkeptError, dmoved) () (vkeys, vfirsts, vends, vvalues, vinferred, vgone, vmade) (fkeys, fdays, famounts, fversions, fcount) (rkeys, rdays, rvalues, rcount) = some R) : vx_Met l yX5_nextRow wsX5_nextRow rm_X5_nextRow (Py_ (dC, dI) (ty_ cI cZ cC cJ cD) (wD_ d0 s0 z0 b0 q0 t0 dhasSaved dkeptError dmoved ++ wS_ s0 v0 f0 r0 ++ wV_ v0 v_keys v_firsts v_ends v_values v_inferred v_gone cI cZ vkeys vfirsts vends vvalues vinferred vgone vmade ++ wF_ f0 f_keys f_days f_amounts f_versions cI fkeys fdays famounts fversions fcount ++ wR_ r0 r_keys r_days r_values cI rkeys rdays rvalues rcount) sz [.ref d0, .int a1]) (Xi_ (dC, dI) (ty_ cI cZ cC cJ cD) R (wD_ d0 s0 z0 b0 q0 t0 dhasSaved dkeptError dmoved ++ wS_ s0 v0 f0 r0 ++ wV_ v0 v_keys v_firsts v_ends v_values v_inferred v_gone cI cZ vkeys vfirsts vends vvalues vinferred vgone vmade ++ wF_ f0 f_keys f_days f_amounts f_versions cI fkeys fdays famounts fversions fcount ++ wR_ r0 r_keys r_days r_values cI rkeys rdays rvalues rcount) (va_A (wD_ d0 s0 z0 b0 q0 t0 dhasSaved dkeptError dmoved ++ wS_ s0 v0 f0 r0 ++ wV_ v0 v_keys v_firsts v_ends v_values v_inferred v_gone cI cZ vkeys vfirsts vends vvalues vinferred vgone vmade ++ wF_ f0 f_keys f_days f_amounts f_versions cI fkeys fdays famounts fversions fcount ++ wR_ r0 r_keys r_days r_values cI rkeys rdays rvalues rcount) sz)) (XX_ (dC, dI) (ty_ cI cZ cC cJ cD) R (wD_ d0 s0 z0 b0 q0 t0 dhasSaved dkeptError dmoved ++ wS_ s0 v0 f0 r0 ++ wV_ v0 v_keys v_firsts v_ends v_values v_inferred v_gone cI cZ vkeys vfirsts vends vvalues vinferred vgone vmade ++ wF_ f0 f_keys f_days f_amounts f_versions cI fkeys fdays famounts fversions fcount ++ wR_ r0 r_keys r_days r_values cI rkeys rdays rvalues rcount) (va_A (wD_ d0 s0 z0 b0 q0 t0 dhasSaved dkeptError dmoved ++ wS_ s0 v0 f0 r0 ++ wV_ v0 v_keys v_firsts v_ends v_values v_inferred v_gone cI cZ vkeys vfirsts vends vvalues vinferred vgone vmade ++ wF_ f0 f_keys f_days f_amounts f_versions cI fkeys fdays famounts fversions fcount ++ wR_ r0 r_keys r_days r_values cI rkeys rdays rvalues rcount) sz)) 1 6 (va_A (wD_ d0 s0 z0 b0 q0 t0 dhasSaved dkeptError dmoved ++ wS_ s0 v0 f0 r0 ++ wV_ v0 v_keys v_firsts v_ends v_values v_inferred v_gone cI cZ vkeys vfirsts vends vvalues vinferred vgone vmade ++ wF_ f0 f_keys f_days f_amounts f_versions cI fkeys fdays famounts fversions fcount ++ wR_ r0 r_keys r_days r_values cI rkeys rdays rvalues rcount) sz) := by
  refine mety_ (cc := cX5_nextRow) (maxL := 2) (ret := (some .int)) (Qcf := fun A => Xi_ (dC, dI) (ty_ cI cZ cC cJ cD) R (wD_ d0 s0 z0 b0 q0 t0 dhasSaved dkeptError dmoved ++ wS_ s0 v0 f0 r0 ++ wV_ v0 v_keys v_firsts v_ends v_values v_inferred v_gone cI cZ vkeys vfirsts vends vvalues vinferred vgone vmade ++ wF_ f0 f_keys f_days f_amounts f_versions cI fkeys fdays famounts fversions fcount ++ wR_ r0 r_keys r_days r_values cI rkeys rdays rvalues rcount) A) (XCf := fun A => XX_ (dC, dI) (ty_ cI cZ cC cJ cD) R (wD_ d0 s0 z0 b0 q0 t0 dhasSaved dkeptError dmoved ++ wS_ s0 v0 f0 r0 ++ wV_ v0 v_keys v_firsts v_ends v_values v_inferred v_gone cI cZ vkeys vfirsts vends vvalues vinferred vgone vmade ++ wF_ f0 f_keys f_days f_amounts f_versions cI fkeys fdays famounts fversions fcount ++ wR_ r0 r_keys r_days r_values cI rkeys rdays rvalues rcount) A) (by decide) rfl (Nat.le_of_ble_eq_true rfl) ?_
  intro p e s m args below meth c A ls hx hb hr hts hown hlocks hml htab hA hU hN hC hP hK hD hl
  have hown : s.vm.findClass RX5 = some m.cls := hown
  have hl : lv_has ls 2 [(0, .ref d0), (1, .int a1)] := hl
  have hS : va_S A s.heap s.heap [] := va_S.rf
  have fl10_ : (Cond.fieldLink RX5 10 "DimensionLoader" "live" "LDimensionLoader$Store;").before args s = true := hts _ (List.mem_of_getElem? (i := 5) rfl)
  have fl212_ : (Cond.fieldLink RX5 212 "DimensionLoader$Store" "rows" "LDimensionLoader$Rows;").before args s = true := hts _ (List.mem_of_getElem? (i := 6) rfl)
  have fl218_ : (Cond.fieldLink RX5 218 "DimensionLoader$Rows" "count" "I").before args s = true := hts _ (List.mem_of_getElem? (i := 7) rfl)
  have fl219_ : (Cond.fieldLink RX5 219 "DimensionLoader$Rows" "keys" "[I").before args s = true := hts _ (List.mem_of_getElem? (i := 8) rfl)
  have fl220_ : (Cond.fieldLink RX5 220 "DimensionLoader$Rows" "days" "[I").before args s = true := hts _ (List.mem_of_getElem? (i := 9) rfl)
  have fl221_ : (Cond.fieldLink RX5 221 "DimensionLoader$Rows" "values" "[I").before args s = true := hts _ (List.mem_of_getElem? (i := 10) rfl)
  have inX1_ : ∀ w ∈ wsX10, w ∈ wsX5_nextRow := in_X5_nextRow_X1
  have inX2_ : ∀ w ∈ wsX20, w ∈ wsX5_nextRow := in_X5_nextRow_X2
  have inX5_ : ∀ w ∈ wsX50, w ∈ wsX5_nextRow := in_X5_nextRow_X5
  unfold f_X5_nextRow at hf
  dsimp only at hf
  refine lv_iload_n hx hb dX5_nextRow_0 rfl (lv_at hl 1 rfl) ?_
  refine lv_if_lt (tgt := 9) hx hb dX5_nextRow_1 (by decide) (fun c1 => ?_) (fun c1 => ?_)
  · have hf := ite_T c1 hf
    have hR := Option.some.inj hf
    subst hR
    exact vx_throw0 (names := ["java/lang/RuntimeException", "java/lang/Exception"]) hx hb hst hown (by decide +kernel) (by decide +kernel) (hts _ (List.mem_of_getElem? (i := 1) rfl)) (hts _ (List.mem_of_getElem? (i := 2) rfl)) (vx_hat (fun w h => hts w (at_X5_nextRow_153 w h)) (atn_0 "java/lang/IllegalArgumentException" (by decide +kernel) 153 (by decide)) (hC.words (by decide +kernel))) at_X5_nextRow_153g hU hN hS (hl.1.trans hml.symm) dX5_nextRow_9 dX5_nextRow_12 dX5_nextRow_13 dX5_nextRow_16 (fun x h => (htab x h).elim) (Nat.le_of_ble_eq_true rfl) (Nat.le_of_ble_eq_true rfl) (Nat.le_of_ble_eq_true rfl) (Nat.le_of_ble_eq_true rfl) hlocks (thr_ hS hP hK hD rfl) hS.2.2 (Nat.le_of_ble_eq_true rfl) (Nat.le_of_ble_eq_true rfl)
  · have hf := ite_F c1 hf
    refine lv_iload_n hx hb dX5_nextRow_4 rfl (lv_at hl 1 rfl) ?_
    refine lv_iconst (v := 2) hx hb dX5_nextRow_5 (by decide) ?_
    refine lv_icmp_le (tgt := 17) hx hb dX5_nextRow_6 (by decide) (fun c2 => ?_) (fun c2 => ?_)
    · have hf := ite_T c2 hf
      refine lv_aload_n hx hb dX5_nextRow_17 rfl (lv_at hl 0 rfl) ?_
      refine va_get (D := (dC, dI)) (ci := 7) (v := .ref s0) (C := RX5) (T := TX5) (N := 8) hx hb hts inX5_ hown hK hP 0 rfl rfl 0 (by decide) fl10_ (fun _ h9 => h9) rfl dX5_nextRow_18 ?_
      refine va_get (D := (dC, dI)) (ci := 4) (v := .ref r0) (C := RX2) (T := TX2) (N := 3) hx hb hts inX2_ hown hK hP 1 rfl rfl 2 (by decide) fl212_ (fun _ h9 => h9) rfl dX5_nextRow_21 ?_
      refine va_get (D := (dC, dI)) (ci := 3) (v := .int rcount) (C := RX1) (T := TX1) (N := 4) hx hb hts inX1_ hown hK hP 14 rfl rfl 3 (by decide) fl218_ (fun _ h9 => h9) rfl dX5_nextRow_24 ?_
      refine lv_if_ne (tgt := 38) hx hb dX5_nextRow_27 (by decide) (fun c3 => ?_) (fun c3 => ?_)
      · have hf := ite_F c3 hf
        refine lv_iload_n hx hb dX5_nextRow_38 rfl (lv_at hl 1 rfl) ?_
        refine lv_if_ne (tgt := 55) hx hb dX5_nextRow_39 (by decide) (fun c4 => ?_) (fun c4 => ?_)
        · have hf := ite_F c4 hf
          refine lv_iload_n hx hb dX5_nextRow_55 rfl (lv_at hl 1 rfl) ?_
          refine lv_iconst (v := 1) hx hb dX5_nextRow_56 (by decide) ?_
          refine lv_icmp_ne (tgt := 75) hx hb dX5_nextRow_57 (by decide) (fun c5 => ?_) (fun c5 => ?_)
          · have hf := ite_F c5 hf
            refine lv_aload_n hx hb dX5_nextRow_75 rfl (lv_at hl 0 rfl) ?_
            refine va_get (D := (dC, dI)) (ci := 7) (v := .ref s0) (C := RX5) (T := TX5) (N := 8) hx hb hts inX5_ hown hK hP 0 rfl rfl 0 (by decide) fl10_ (fun _ h9 => h9) rfl dX5_nextRow_76 ?_
            refine va_get (D := (dC, dI)) (ci := 4) (v := .ref r0) (C := RX2) (T := TX2) (N := 3) hx hb hts inX2_ hown hK hP 1 rfl rfl 2 (by decide) fl212_ (fun _ h9 => h9) rfl dX5_nextRow_79 ?_
            refine va_get (D := (dC, dI)) (ci := 3) (v := .ref r_values) (C := RX1) (T := TX1) (N := 4) hx hb hts inX1_ hown hK hP 14 rfl rfl 2 (by decide) fl221_ (fun _ h9 => h9) rfl dX5_nextRow_82 ?_
            refine lv_iconst (v := 0) hx hb dX5_nextRow_85 (by decide) ?_
            obtain ⟨h6, hf⟩ := gd_T hf
            refine va_iald hx hb hK hP 17 0 rfl rfl h6 dX5_nextRow_86 ?_
            have hR := Option.some.inj hf
            subst hR
            refine vx_ret (W.widen (k := 1) (n := 6) (Nat.le_of_ble_eq_true rfl) (Nat.le_of_ble_eq_true rfl) ?_)
            exact W.iret (v := rvalues ((0 : Int32).toNatClampNeg)) hx hb hr (fun t ht hW => ⟨⟨rvalues ((0 : Int32).toNatClampNeg), (), rfl, rfl, by rw [ht]; exact hP, va_K.moved hW.alike hK, hD⟩, hS.F ht⟩) hS.2.2 dX5_nextRow_87
          · have hf := ite_T c5 hf
            refine lv_aload_n hx hb dX5_nextRow_60 rfl (lv_at hl 0 rfl) ?_
            refine va_get (D := (dC, dI)) (ci := 7) (v := .ref s0) (C := RX5) (T := TX5) (N := 8) hx hb hts inX5_ hown hK hP 0 rfl rfl 0 (by decide) fl10_ (fun _ h9 => h9) rfl dX5_nextRow_61 ?_
            refine va_get (D := (dC, dI)) (ci := 4) (v := .ref r0) (C := RX2) (T := TX2) (N := 3) hx hb hts inX2_ hown hK hP 1 rfl rfl 2 (by decide) fl212_ (fun _ h9 => h9) rfl dX5_nextRow_64 ?_
            refine va_get (D := (dC, dI)) (ci := 3) (v := .ref r_days) (C := RX1) (T := TX1) (N := 4) hx hb hts inX1_ hown hK hP 14 rfl rfl 1 (by decide) fl220_ (fun _ h9 => h9) rfl dX5_nextRow_67 ?_
            refine lv_iconst (v := 0) hx hb dX5_nextRow_70 (by decide) ?_
            obtain ⟨h7, hf⟩ := gd_T hf
            refine va_iald hx hb hK hP 16 0 rfl rfl h7 dX5_nextRow_71 ?_
            refine lv_goto (tgt := 87) hx hb dX5_nextRow_72 (by decide) ?_
            have hR := Option.some.inj hf
            subst hR
            refine vx_ret (W.widen (k := 1) (n := 6) (Nat.le_of_ble_eq_true rfl) (Nat.le_of_ble_eq_true rfl) ?_)
            exact W.iret (v := rdays ((0 : Int32).toNatClampNeg)) hx hb hr (fun t ht hW => ⟨⟨rdays ((0 : Int32).toNatClampNeg), (), rfl, rfl, by rw [ht]; exact hP, va_K.moved hW.alike hK, hD⟩, hS.F ht⟩) hS.2.2 dX5_nextRow_87
        · have hf := ite_T c4 hf
          refine lv_aload_n hx hb dX5_nextRow_42 rfl (lv_at hl 0 rfl) ?_
          refine va_get (D := (dC, dI)) (ci := 7) (v := .ref s0) (C := RX5) (T := TX5) (N := 8) hx hb hts inX5_ hown hK hP 0 rfl rfl 0 (by decide) fl10_ (fun _ h9 => h9) rfl dX5_nextRow_43 ?_
          refine va_get (D := (dC, dI)) (ci := 4) (v := .ref r0) (C := RX2) (T := TX2) (N := 3) hx hb hts inX2_ hown hK hP 1 rfl rfl 2 (by decide) fl212_ (fun _ h9 => h9) rfl dX5_nextRow_46 ?_
          refine va_get (D := (dC, dI)) (ci := 3) (v := .ref r_keys) (C := RX1) (T := TX1) (N := 4) hx hb hts inX1_ hown hK hP 14 rfl rfl 0 (by decide) fl219_ (fun _ h9 => h9) rfl dX5_nextRow_49 ?_
          refine lv_iconst (v := 0) hx hb dX5_nextRow_52 (by decide) ?_
          obtain ⟨h8, hf⟩ := gd_T hf
          refine va_iald hx hb hK hP 15 0 rfl rfl h8 dX5_nextRow_53 ?_
          have hR := Option.some.inj hf
          subst hR
          refine vx_ret (W.widen (k := 1) (n := 6) (Nat.le_of_ble_eq_true rfl) (Nat.le_of_ble_eq_true rfl) ?_)
          exact W.iret (v := rkeys ((0 : Int32).toNatClampNeg)) hx hb hr (fun t ht hW => ⟨⟨rkeys ((0 : Int32).toNatClampNeg), (), rfl, rfl, by rw [ht]; exact hP, va_K.moved hW.alike hK, hD⟩, hS.F ht⟩) hS.2.2 dX5_nextRow_54
      · have hf := ite_T c3 hf
        have hR := Option.some.inj hf
        subst hR
        exact vx_throw0 (names := ["java/lang/RuntimeException", "java/lang/Exception"]) hx hb hst hown (by decide +kernel) (by decide +kernel) (hts _ (List.mem_of_getElem? (i := 3) rfl)) (hts _ (List.mem_of_getElem? (i := 4) rfl)) (vx_hat (fun w h => hts w (at_X5_nextRow_87 w h)) (atn_0 "java/util/NoSuchElementException" (by decide +kernel) 87 (by decide)) (hC.words (by decide +kernel))) at_X5_nextRow_87g hU hN hS (hl.1.trans hml.symm) dX5_nextRow_30 dX5_nextRow_33 dX5_nextRow_34 dX5_nextRow_37 (fun x h => (htab x h).elim) (Nat.le_of_ble_eq_true rfl) (Nat.le_of_ble_eq_true rfl) (Nat.le_of_ble_eq_true rfl) (Nat.le_of_ble_eq_true rfl) hlocks (thr_ hS hP hK hD rfl) hS.2.2 (Nat.le_of_ble_eq_true rfl) (Nat.le_of_ble_eq_true rfl)
    · have hf := ite_F c2 hf
      have hR := Option.some.inj hf
      subst hR
      exact vx_throw0 (names := ["java/lang/RuntimeException", "java/lang/Exception"]) hx hb hst hown (by decide +kernel) (by decide +kernel) (hts _ (List.mem_of_getElem? (i := 1) rfl)) (hts _ (List.mem_of_getElem? (i := 2) rfl)) (vx_hat (fun w h => hts w (at_X5_nextRow_153 w h)) (atn_0 "java/lang/IllegalArgumentException" (by decide +kernel) 153 (by decide)) (hC.words (by decide +kernel))) at_X5_nextRow_153g hU hN hS (hl.1.trans hml.symm) dX5_nextRow_9 dX5_nextRow_12 dX5_nextRow_13 dX5_nextRow_16 (fun x h => (htab x h).elim) (Nat.le_of_ble_eq_true rfl) (Nat.le_of_ble_eq_true rfl) (Nat.le_of_ble_eq_true rfl) (Nat.le_of_ble_eq_true rfl) hlocks (thr_ hS hP hK hD rfl) hS.2.2 (Nat.le_of_ble_eq_true rfl) (Nat.le_of_ble_eq_true rfl)
theorem hs_X5_nextRow : yX5_nextRow.cls = RX5 ∧ yX5_nextRow.cls ≠ "java/lang/invoke/MethodHandle" ∧ yX5_nextRow.cls ≠ "java/lang/invoke/VarHandle" ∧ (parseMethodDescriptor yX5_nextRow.desc).map (fun d => d.parameters.length) = some 1 := by decide +kernel
set_option maxRecDepth 20000 in
theorem in_X5_makeChanges_X1 : ∀ w ∈ wsX10, w ∈ wsX5_makeChanges := by decide +kernel
set_option maxRecDepth 20000 in
theorem in_X5_makeChanges_X2 : ∀ w ∈ wsX20, w ∈ wsX5_makeChanges := by decide +kernel
set_option maxRecDepth 20000 in
theorem in_X5_makeChanges_X5 : ∀ w ∈ wsX50, w ∈ wsX5_makeChanges := by decide +kernel
def f_X5_makeChanges_S16 (k_ : Int32 → Int32 → tD_ → tS_ → tV_ → tF_ → tR_ → tV_ → Option (Int32 × tD_ × tV_ × tF_ × tV_)) (l3 : Int32) (l2 : Int32) (D_ : tD_) (S_ : tS_) (V_ : tV_) (F_ : tF_) (R_ : tR_) (B_ : tV_) : Option (Int32 × tD_ × tV_ × tF_ × tV_) :=
match D_ with
| (dhasSaved, dkeptError, dmoved) =>
match V_ with
| (vkeys, vfirsts, vends, vvalues, vinferred, vgone, vmade) =>
match F_ with
| (fkeys, fdays, famounts, fversions, fcount) =>
match R_ with
| (rkeys, rdays, rvalues, rcount) =>
match B_ with
| (bkeys, bfirsts, bends, bvalues, binferred, bgone, bmade) =>
if l2 ≤ l3 then
bd_ (f_X5_pointFacts (dhasSaved, dkeptError, dmoved) () (vkeys, vfirsts, vends, vvalues, vinferred, vgone, vmade) (fkeys, fdays, famounts, fversions, fcount) (rkeys, rdays, rvalues, rcount)) (fun ((dh14, dk15, dm16), (fk17, fd18, fa19, fv20, fc21)) =>
some ((1 : Int32), (dh14, dk15, dm16), (vkeys, vfirsts, vends, vvalues, vinferred, vgone, vmade), (fk17, fd18, fa19, fv20, fc21), (bkeys, bfirsts, bends, bvalues, binferred, bgone, bmade)))
else
if rcount ≤ l3 then
bd_ (f_X5_pointFacts (dhasSaved, dkeptError, dmoved) () (vkeys, vfirsts, vends, vvalues, vinferred, vgone, vmade) (fkeys, fdays, famounts, fversions, fcount) (rkeys, rdays, rvalues, rcount)) (fun ((dh27, dk28, dm29), (fk30, fd31, fa32, fv33, fc34)) =>
some ((1 : Int32), (dh27, dk28, dm29), (vkeys, vfirsts, vends, vvalues, vinferred, vgone, vmade), (fk30, fd31, fa32, fv33, fc34), (bkeys, bfirsts, bends, bvalues, binferred, bgone, bmade)))
else
gd_ l3 20 (
gd_ l3 20 (
gd_ l3 20 (
bd_ (f_X4_put (rkeys l3.toNatClampNeg) (rdays l3.toNatClampNeg) (rvalues l3.toNatClampNeg) (vkeys, vfirsts, vends, vvalues, vinferred, vgone, vmade)) (fun (r42, (vk43, vf44, ve45, vv46, vi47, vg48, vm49)) =>
if r42 = (-1) then
bd_ (f_X4_copy (vk43, vf44, ve45, vv46, vi47, vg48, vm49) (bkeys, bfirsts, bends, bvalues, binferred, bgone, bmade)) (fun (vk55, vf56, ve57, vv58, vi59, vg60, vm61) =>
some ((0 : Int32), (dhasSaved, dkeptError, dmoved), (vk55, vf56, ve57, vv58, vi59, vg60, vm61), (fkeys, fdays, famounts, fversions, fcount), (bkeys, bfirsts, bends, bvalues, binferred, bgone, bmade)))
else
k_ (l3 + 1) l2 (dhasSaved, dkeptError, dmoved) () (vk43, vf44, ve45, vv46, vi47, vg48, vm49) (fkeys, fdays, famounts, fversions, fcount) (rkeys, rdays, rvalues, rcount) (bkeys, bfirsts, bends, bvalues, binferred, bgone, bmade)))))
def f_X5_makeChanges_L16 : Nat → Int32 → Int32 → tD_ → tS_ → tV_ → tF_ → tR_ → tV_ → Option (Int32 × tD_ × tV_ × tF_ × tV_)
  | 0 => fun _ _ _ _ _ _ _ _ => none
  | n + 1 => fun l3 l2 D_ S_ V_ F_ R_ B_ => f_X5_makeChanges_S16 (f_X5_makeChanges_L16 n) l3 l2 D_ S_ V_ F_ R_ B_
def f_X5_makeChanges (a2 : Int32) (D_ : tD_) (S_ : tS_) (V_ : tV_) (F_ : tF_) (R_ : tR_) (B_ : tV_) : Option (Int32 × tD_ × tV_ × tF_ × tV_) :=
match D_ with
| (dhasSaved, dkeptError, dmoved) =>
match V_ with
| (vkeys, vfirsts, vends, vvalues, vinferred, vgone, vmade) =>
match F_ with
| (fkeys, fdays, famounts, fversions, fcount) =>
match R_ with
| (rkeys, rdays, rvalues, rcount) =>
match B_ with
| (bkeys, bfirsts, bends, bvalues, binferred, bgone, bmade) =>
bd_ (f_X4_copy (bkeys, bfirsts, bends, bvalues, binferred, bgone, bmade) (vkeys, vfirsts, vends, vvalues, vinferred, vgone, vmade)) (fun (bk1, bf2, be3, bv4, bi5, bg6, bm7) =>
f_X5_makeChanges_L16 fu_ (0 : Int32) a2 (dhasSaved, dkeptError, dmoved) () (vkeys, vfirsts, vends, vvalues, vinferred, vgone, vmade) (fkeys, fdays, famounts, fversions, fcount) (rkeys, rdays, rvalues, rcount) (bk1, bf2, be3, bv4, bi5, bg6, bm7))
abbrev rm_X5_makeChanges : Room := { frames := 5, cells := 0, slots := 0, locals := 115 }
set_option maxHeartbeats 4000000 in
set_option maxRecDepth 100000 in
theorem c_X5_makeChanges (l : Launch) (dC : Nat → ClassId) (dI : Nat → Nat → Nat) (cI cZ cC cJ cD : ClassId) (d0 s0 z0 b0 q0 t0 v0 f0 r0 v_keys v_firsts v_ends v_values v_inferred v_gone f_keys f_days f_amounts f_versions r_keys r_days r_values b_keys b_firsts b_ends b_values b_inferred b_gone : Nat) (sz : Nat) (dhasSaved : Int32) (dkeptError : Int32) (dmoved : Int32) (vkeys : Nat → Int32) (vfirsts : Nat → Int32) (vends : Nat → Int32) (vvalues : Nat → Int32) (vinferred : Nat → Int32) (vgone : Nat → Int32) (vmade : Int32) (fkeys : Nat → Int32) (fdays : Nat → Int32) (famounts : Nat → Int32) (fversions : Nat → Int32) (fcount : Int32) (rkeys : Nat → Int32) (rdays : Nat → Int32) (rvalues : Nat → Int32) (rcount : Int32) (bkeys : Nat → Int32) (bfirsts : Nat → Int32) (bends : Nat → Int32) (bvalues : Nat → Int32) (binferred : Nat → Int32) (bgone : Nat → Int32) (bmade : Int32) (a2 : Int32) (R : Int32 × tD_ × tV_ × tF_ × tV_) (hf : f_X5_makeChanges a2 (dhasSaved, dkeptError, dmoved) () (vkeys, vfirsts, vends, vvalues, vinferred, vgone, vmade) (fkeys, fdays, famounts, fversions, fcount) (rkeys, rdays, rvalues, rcount) (bkeys, bfirsts, bends, bvalues, binferred, bgone, bmade) = some R) : Met l yX5_makeChanges wsX5_makeChanges rm_X5_makeChanges (Pc_ (dC, dI) (ty_ cI cZ cC cJ cD) (wD_ d0 s0 z0 b0 q0 t0 dhasSaved dkeptError dmoved ++ wS_ s0 v0 f0 r0 ++ wV_ v0 v_keys v_firsts v_ends v_values v_inferred v_gone cI cZ vkeys vfirsts vends vvalues vinferred vgone vmade ++ wF_ f0 f_keys f_days f_amounts f_versions cI fkeys fdays famounts fversions fcount ++ wR_ r0 r_keys r_days r_values cI rkeys rdays rvalues rcount ++ wV_ b0 b_keys b_firsts b_ends b_values b_inferred b_gone cI cZ bkeys bfirsts bends bvalues binferred bgone bmade) sz [.ref d0, .ref r0, .int a2]) (Qi_ (dC, dI) (ty_ cI cZ cC cJ cD) R.1 (wD_ d0 s0 z0 b0 q0 t0 R.2.1.1 R.2.1.2.1 R.2.1.2.2 ++ wS_ s0 v0 f0 r0 ++ wV_ v0 v_keys v_firsts v_ends v_values v_inferred v_gone cI cZ R.2.2.1.1 R.2.2.1.2.1 R.2.2.1.2.2.1 R.2.2.1.2.2.2.1 R.2.2.1.2.2.2.2.1 R.2.2.1.2.2.2.2.2.1 R.2.2.1.2.2.2.2.2.2 ++ wF_ f0 f_keys f_days f_amounts f_versions cI R.2.2.2.1.1 R.2.2.2.1.2.1 R.2.2.2.1.2.2.1 R.2.2.2.1.2.2.2.1 R.2.2.2.1.2.2.2.2 ++ wR_ r0 r_keys r_days r_values cI rkeys rdays rvalues rcount ++ wV_ b0 b_keys b_firsts b_ends b_values b_inferred b_gone cI cZ R.2.2.2.2.1 R.2.2.2.2.2.1 R.2.2.2.2.2.2.1 R.2.2.2.2.2.2.2.1 R.2.2.2.2.2.2.2.2.1 R.2.2.2.2.2.2.2.2.2.1 R.2.2.2.2.2.2.2.2.2.2) (va_A (wD_ d0 s0 z0 b0 q0 t0 dhasSaved dkeptError dmoved ++ wS_ s0 v0 f0 r0 ++ wV_ v0 v_keys v_firsts v_ends v_values v_inferred v_gone cI cZ vkeys vfirsts vends vvalues vinferred vgone vmade ++ wF_ f0 f_keys f_days f_amounts f_versions cI fkeys fdays famounts fversions fcount ++ wR_ r0 r_keys r_days r_values cI rkeys rdays rvalues rcount ++ wV_ b0 b_keys b_firsts b_ends b_values b_inferred b_gone cI cZ bkeys bfirsts bends bvalues binferred bgone bmade) sz)) 0 0 (va_A (wD_ d0 s0 z0 b0 q0 t0 dhasSaved dkeptError dmoved ++ wS_ s0 v0 f0 r0 ++ wV_ v0 v_keys v_firsts v_ends v_values v_inferred v_gone cI cZ vkeys vfirsts vends vvalues vinferred vgone vmade ++ wF_ f0 f_keys f_days f_amounts f_versions cI fkeys fdays famounts fversions fcount ++ wR_ r0 r_keys r_days r_values cI rkeys rdays rvalues rcount ++ wV_ b0 b_keys b_firsts b_ends b_values b_inferred b_gone cI cZ bkeys bfirsts bends bvalues binferred bgone bmade) sz) := by
  refine met_ (cc := cX5_makeChanges) (maxL := 4) (ret := (some .boolean)) (Qcf := fun A => Qi_ (dC, dI) (ty_ cI cZ cC cJ cD) R.1 (wD_ d0 s0 z0 b0 q0 t0 R.2.1.1 R.2.1.2.1 R.2.1.2.2 ++ wS_ s0 v0 f0 r0 ++ wV_ v0 v_keys v_firsts v_ends v_values v_inferred v_gone cI cZ R.2.2.1.1 R.2.2.1.2.1 R.2.2.1.2.2.1 R.2.2.1.2.2.2.1 R.2.2.1.2.2.2.2.1 R.2.2.1.2.2.2.2.2.1 R.2.2.1.2.2.2.2.2.2 ++ wF_ f0 f_keys f_days f_amounts f_versions cI R.2.2.2.1.1 R.2.2.2.1.2.1 R.2.2.2.1.2.2.1 R.2.2.2.1.2.2.2.1 R.2.2.2.1.2.2.2.2 ++ wR_ r0 r_keys r_days r_values cI rkeys rdays rvalues rcount ++ wV_ b0 b_keys b_firsts b_ends b_values b_inferred b_gone cI cZ R.2.2.2.2.1 R.2.2.2.2.2.1 R.2.2.2.2.2.2.1 R.2.2.2.2.2.2.2.1 R.2.2.2.2.2.2.2.2.1 R.2.2.2.2.2.2.2.2.2.1 R.2.2.2.2.2.2.2.2.2.2) A) (by decide) rfl (Nat.le_of_ble_eq_true rfl) ?_
  intro p e s m args below meth c A ls hx hb hr hts hown hlocks hml hA hP hK hD hl
  have hown : s.vm.findClass RX5 = some m.cls := hown
  have hl : lv_has ls 4 [(0, .ref d0), (1, .ref r0), (2, .int a2)] := hl
  have hS : va_S A s.heap s.heap [] := va_S.rf
  have fl10_ : (Cond.fieldLink RX5 10 "DimensionLoader" "live" "LDimensionLoader$Store;").before args s = true := hts _ (List.mem_of_getElem? (i := 2) rfl)
  have fl22_ : (Cond.fieldLink RX5 22 "DimensionLoader" "before" "LDimensionLoader$Versions;").before args s = true := hts _ (List.mem_of_getElem? (i := 1) rfl)
  have fl51_ : (Cond.fieldLink RX5 51 "DimensionLoader$Store" "versions" "LDimensionLoader$Versions;").before args s = true := hts _ (List.mem_of_getElem? (i := 3) rfl)
  have fl218_ : (Cond.fieldLink RX5 218 "DimensionLoader$Rows" "count" "I").before args s = true := hts _ (List.mem_of_getElem? (i := 4) rfl)
  have fl219_ : (Cond.fieldLink RX5 219 "DimensionLoader$Rows" "keys" "[I").before args s = true := hts _ (List.mem_of_getElem? (i := 5) rfl)
  have fl220_ : (Cond.fieldLink RX5 220 "DimensionLoader$Rows" "days" "[I").before args s = true := hts _ (List.mem_of_getElem? (i := 6) rfl)
  have fl221_ : (Cond.fieldLink RX5 221 "DimensionLoader$Rows" "values" "[I").before args s = true := hts _ (List.mem_of_getElem? (i := 7) rfl)
  have inX1_ : ∀ w ∈ wsX10, w ∈ wsX5_makeChanges := in_X5_makeChanges_X1
  have inX2_ : ∀ w ∈ wsX20, w ∈ wsX5_makeChanges := in_X5_makeChanges_X2
  have inX5_ : ∀ w ∈ wsX50, w ∈ wsX5_makeChanges := in_X5_makeChanges_X5
  unfold f_X5_makeChanges at hf
  dsimp only at hf
  refine lv_aload_n hx hb dX5_makeChanges_0 rfl (lv_at hl 0 rfl) ?_
  refine va_get (D := (dC, dI)) (ci := 7) (v := .ref b0) (C := RX5) (T := TX5) (N := 8) hx hb hts inX5_ hown hK hP 0 rfl rfl 2 (by decide) fl22_ (fun _ h9 => h9) rfl dX5_makeChanges_1 ?_
  refine lv_aload_n hx hb dX5_makeChanges_4 rfl (lv_at hl 0 rfl) ?_
  refine va_get (D := (dC, dI)) (ci := 7) (v := .ref s0) (C := RX5) (T := TX5) (N := 8) hx hb hts inX5_ hown hK hP 0 rfl rfl 0 (by decide) fl10_ (fun _ h9 => h9) rfl dX5_makeChanges_5 ?_
  refine va_get (D := (dC, dI)) (ci := 4) (v := .ref v0) (C := RX2) (T := TX2) (N := 3) hx hb hts inX2_ hown hK hP 1 rfl rfl 0 (by decide) fl51_ (fun _ h9 => h9) rfl dX5_makeChanges_8 ?_
  obtain ⟨R8, g9, hf⟩ := bd_B hf
  obtain ⟨bk1, bf2, be3, bv4, bi5, bg6, bm7⟩ := R8
  dsimp only at hf
  have hPc := hP.sub (ws' := wV_ b0 b_keys b_firsts b_ends b_values b_inferred b_gone cI cZ bkeys bfirsts bends bvalues binferred bgone bmade ++ wV_ v0 v_keys v_firsts v_ends v_values v_inferred v_gone cI cZ vkeys vfirsts vends vvalues vinferred vgone vmade) [18, 19, 20, 21, 22, 23, 24, 2, 3, 4, 5, 6, 7, 8] rfl
  have hDc := hD.sub (ws' := wV_ b0 b_keys b_firsts b_ends b_values b_inferred b_gone cI cZ bkeys bfirsts bends bvalues binferred bgone bmade ++ wV_ v0 v_keys v_firsts v_ends v_values v_inferred v_gone cI cZ vkeys vfirsts vends vvalues vinferred vgone vmade) [18, 19, 20, 21, 22, 23, 24, 2, 3, 4, 5, 6, 7, 8] (by decide) rfl
  have hFc := va_free (wc := wV_ b0 b_keys b_firsts b_ends b_values b_inferred b_gone cI cZ bkeys bfirsts bends bvalues binferred bgone bmade ++ wV_ v0 v_keys v_firsts v_ends v_values v_inferred v_gone cI cZ vkeys vfirsts vends vvalues vinferred vgone vmade) hD hS hA [18, 19, 20, 21, 22, 23, 24, 2, 3, 4, 5, 6, 7, 8] rfl
  refine va_callv (va_runV (As := [.ref v0]) (rest := []) ⟨hx, hb, hml, hown, hts⟩ (c_X4_copy l dC dI cI cZ cC cJ cD b0 b_keys b_firsts b_ends b_values b_inferred b_gone v0 v_keys v_firsts v_ends v_values v_inferred v_gone s.heap.size bkeys bfirsts bends bvalues binferred bgone bmade vkeys vfirsts vends vvalues vinferred vgone vmade (bk1, bf2, be3, bv4, bi5, bg6, bm7) g9) (cwV 1 hts gX5_makeChanges_X4_copy rfl rfl rfl hs_X4_copy ⟨Nat.le_of_ble_eq_true rfl, Nat.le_of_ble_eq_true rfl⟩) (preV_ (ci := 6) (q0 := 0) hPc hK hDc rfl rfl rfl rfl) rfl rfl hl.1 rfl (lv_room (Nat.le_of_ble_eq_true rfl)) dX5_makeChanges_11 ⟨Nat.le_of_ble_eq_true rfl, Nat.le_of_ble_eq_true rfl⟩) hS (fun q _ h => hFc q h) hFc (fun u t H10 locs ht hvm hw hB hz1 hk1 hS => ?_)
  obtain ⟨hP, hD⟩ := aft_ (Wr := wD_ d0 s0 z0 b0 q0 t0 dhasSaved dkeptError dmoved ++ wS_ s0 v0 f0 r0 ++ wF_ f0 f_keys f_days f_amounts f_versions cI fkeys fdays famounts fversions fcount ++ wR_ r0 r_keys r_days r_values cI rkeys rdays rvalues rcount) (Wc' := wV_ b0 b_keys b_firsts b_ends b_values b_inferred b_gone cI cZ bk1 bf2 be3 bv4 bi5 bg6 bm7 ++ wV_ v0 v_keys v_firsts v_ends v_values v_inferred v_gone cI cZ vkeys vfirsts vends vvalues vinferred vgone vmade) (W2 := wD_ d0 s0 z0 b0 q0 t0 dhasSaved dkeptError dmoved ++ wS_ s0 v0 f0 r0 ++ wV_ v0 v_keys v_firsts v_ends v_values v_inferred v_gone cI cZ vkeys vfirsts vends vvalues vinferred vgone vmade ++ wF_ f0 f_keys f_days f_amounts f_versions cI fkeys fdays famounts fversions fcount ++ wR_ r0 r_keys r_days r_values cI rkeys rdays rvalues rcount ++ wV_ b0 b_keys b_firsts b_ends b_values b_inferred b_gone cI cZ bk1 bf2 be3 bv4 bi5 bg6 bm7) hP hD [18, 19, 20, 21, 22, 23, 24, 2, 3, 4, 5, 6, 7, 8] [0, 1, 9, 10, 11, 12, 13, 14, 15, 16, 17] [0, 1, 18, 19, 20, 21, 22, 23, 24, 2, 3, 4, 5, 6, 7, 8, 9, 10, 11, 12, 13, 14, 15, 16, 17] rfl rfl (by decide) (by decide) (by decide) hk1 hFc hB ht rfl
  refine lv_iconst (v := 0) hx hb dX5_makeChanges_14 (by decide) ?_
  refine lv_istore_n (lv' := [(3, .int 0), (0, .ref d0), (1, .ref r0), (2, .int a2)]) hx hb dX5_makeChanges_15 rfl hl (by decide) rfl (fun ls hl => ?_)
  have lp16 : ∀ (n : Nat) (l3 : Int32) (l2 : Int32) (dhasSaved : Int32) (dkeptError : Int32) (dmoved : Int32) (vkeys : Nat → Int32) (vfirsts : Nat → Int32) (vends : Nat → Int32) (vvalues : Nat → Int32) (vinferred : Nat → Int32) (vgone : Nat → Int32) (vmade : Int32) (fkeys : Nat → Int32) (fdays : Nat → Int32) (famounts : Nat → Int32) (fversions : Nat → Int32) (fcount : Int32) (rkeys : Nat → Int32) (rdays : Nat → Int32) (rvalues : Nat → Int32) (rcount : Int32) (bkeys : Nat → Int32) (bfirsts : Nat → Int32) (bends : Nat → Int32) (bvalues : Nat → Int32) (binferred : Nat → Int32) (bgone : Nat → Int32) (bmade : Int32) (H12 : Heap) (locs : List Loc) (ls : Array Slot), f_X5_makeChanges_L16 n l3 l2 (dhasSaved, dkeptError, dmoved) () (vkeys, vfirsts, vends, vvalues, vinferred, vgone, vmade) (fkeys, fdays, famounts, fversions, fcount) (rkeys, rdays, rvalues, rcount) (bkeys, bfirsts, bends, bvalues, binferred, bgone, bmade) = some R → va_P (dC, dI) vwCl (wD_ d0 s0 z0 b0 q0 t0 dhasSaved dkeptError dmoved ++ wS_ s0 v0 f0 r0 ++ wV_ v0 v_keys v_firsts v_ends v_values v_inferred v_gone cI cZ vkeys vfirsts vends vvalues vinferred vgone vmade ++ wF_ f0 f_keys f_days f_amounts f_versions cI fkeys fdays famounts fversions fcount ++ wR_ r0 r_keys r_days r_values cI rkeys rdays rvalues rcount ++ wV_ b0 b_keys b_firsts b_ends b_values b_inferred b_gone cI cZ bkeys bfirsts bends bvalues binferred bgone bmade) H12 → va_D A (wD_ d0 s0 z0 b0 q0 t0 dhasSaved dkeptError dmoved ++ wS_ s0 v0 f0 r0 ++ wV_ v0 v_keys v_firsts v_ends v_values v_inferred v_gone cI cZ vkeys vfirsts vends vvalues vinferred vgone vmade ++ wF_ f0 f_keys f_days f_amounts f_versions cI fkeys fdays famounts fversions fcount ++ wR_ r0 r_keys r_days r_values cI rkeys rdays rvalues rcount ++ wV_ b0 b_keys b_firsts b_ends b_values b_inferred b_gone cI cZ bkeys bfirsts bends bvalues binferred bgone bmade) → va_S A s.heap H12 locs → lv_has ls 4 [(3, .int l3), (0, .ref d0), (1, .ref r0), (2, .int l2)] → W p l e (headSpec wsX5_makeChanges rm_X5_makeChanges).room s m args below meth c H12 locs 0 0 (MQ below (Qi_ (dC, dI) (ty_ cI cZ cC cJ cD) R.1 (wD_ d0 s0 z0 b0 q0 t0 R.2.1.1 R.2.1.2.1 R.2.1.2.2 ++ wS_ s0 v0 f0 r0 ++ wV_ v0 v_keys v_firsts v_ends v_values v_inferred v_gone cI cZ R.2.2.1.1 R.2.2.1.2.1 R.2.2.1.2.2.1 R.2.2.1.2.2.2.1 R.2.2.1.2.2.2.2.1 R.2.2.1.2.2.2.2.2.1 R.2.2.1.2.2.2.2.2.2 ++ wF_ f0 f_keys f_days f_amounts f_versions cI R.2.2.2.1.1 R.2.2.2.1.2.1 R.2.2.2.1.2.2.1 R.2.2.2.1.2.2.2.1 R.2.2.2.1.2.2.2.2 ++ wR_ r0 r_keys r_days r_values cI rkeys rdays rvalues rcount ++ wV_ b0 b_keys b_firsts b_ends b_values b_inferred b_gone cI cZ R.2.2.2.2.1 R.2.2.2.2.2.1 R.2.2.2.2.2.2.1 R.2.2.2.2.2.2.2.1 R.2.2.2.2.2.2.2.2.1 R.2.2.2.2.2.2.2.2.2.1 R.2.2.2.2.2.2.2.2.2.2) A) args s 0 0 A) (F0 m 16 ls []) := by
    intro n
    induction n with
    | zero => intro l3 l2 dhasSaved dkeptError dmoved vkeys vfirsts vends vvalues vinferred vgone vmade fkeys fdays famounts fversions fcount rkeys rdays rvalues rcount bkeys bfirsts bends bvalues binferred bgone bmade H12 locs ls hf hP hD hS hl; exact absurd hf (by simp [f_X5_makeChanges_L16])
    | succ n ih =>
      intro l3 l2 dhasSaved dkeptError dmoved vkeys vfirsts vends vvalues vinferred vgone vmade fkeys fdays famounts fversions fcount rkeys rdays rvalues rcount bkeys bfirsts bends bvalues binferred bgone bmade H12 locs ls hf hP hD hS hl
      have hf : f_X5_makeChanges_S16 (f_X5_makeChanges_L16 n) l3 l2 (dhasSaved, dkeptError, dmoved) () (vkeys, vfirsts, vends, vvalues, vinferred, vgone, vmade) (fkeys, fdays, famounts, fversions, fcount) (rkeys, rdays, rvalues, rcount) (bkeys, bfirsts, bends, bvalues, binferred, bgone, bmade) = some R := hf
      unfold f_X5_makeChanges_S16 at hf
      dsimp only at hf
      refine lv_iload_n hx hb dX5_makeChanges_16 rfl (lv_at hl 0 rfl) ?_
      refine lv_iload_n hx hb dX5_makeChanges_17 rfl (lv_at hl 3 rfl) ?_
      refine lv_icmp_ge (tgt := 83) hx hb dX5_makeChanges_18 (by decide) (fun c13 => ?_) (fun c13 => ?_)
      · have hf := ite_T c13 hf
        refine lv_aload_n hx hb dX5_makeChanges_83 rfl (lv_at hl 1 rfl) ?_
        obtain ⟨R22, g23, hf⟩ := bd_B hf
        obtain ⟨⟨dh14, dk15, dm16⟩, ⟨fk17, fd18, fa19, fv20, fc21⟩⟩ := R22
        dsimp only at hf
        have hPc := hP.sub (ws' := wD_ d0 s0 z0 b0 q0 t0 dhasSaved dkeptError dmoved ++ wS_ s0 v0 f0 r0 ++ wV_ v0 v_keys v_firsts v_ends v_values v_inferred v_gone cI cZ vkeys vfirsts vends vvalues vinferred vgone vmade ++ wF_ f0 f_keys f_days f_amounts f_versions cI fkeys fdays famounts fversions fcount ++ wR_ r0 r_keys r_days r_values cI rkeys rdays rvalues rcount) [0, 1, 2, 3, 4, 5, 6, 7, 8, 9, 10, 11, 12, 13, 14, 15, 16, 17] rfl
        have hDc := hD.sub (ws' := wD_ d0 s0 z0 b0 q0 t0 dhasSaved dkeptError dmoved ++ wS_ s0 v0 f0 r0 ++ wV_ v0 v_keys v_firsts v_ends v_values v_inferred v_gone cI cZ vkeys vfirsts vends vvalues vinferred vgone vmade ++ wF_ f0 f_keys f_days f_amounts f_versions cI fkeys fdays famounts fversions fcount ++ wR_ r0 r_keys r_days r_values cI rkeys rdays rvalues rcount) [0, 1, 2, 3, 4, 5, 6, 7, 8, 9, 10, 11, 12, 13, 14, 15, 16, 17] (by decide) rfl
        have hFc := va_free (wc := wD_ d0 s0 z0 b0 q0 t0 dhasSaved dkeptError dmoved ++ wS_ s0 v0 f0 r0 ++ wV_ v0 v_keys v_firsts v_ends v_values v_inferred v_gone cI cZ vkeys vfirsts vends vvalues vinferred vgone vmade ++ wF_ f0 f_keys f_days f_amounts f_versions cI fkeys fdays famounts fversions fcount ++ wR_ r0 r_keys r_days r_values cI rkeys rdays rvalues rcount) hD hS hA [0, 1, 2, 3, 4, 5, 6, 7, 8, 9, 10, 11, 12, 13, 14, 15, 16, 17] rfl
        refine va_callv (va_runV (As := []) (rest := []) ⟨hx, hb, hml, hown, hts⟩ (c_X5_pointFacts l dC dI cI cZ cC cJ cD d0 s0 z0 b0 q0 t0 v0 f0 r0 v_keys v_firsts v_ends v_values v_inferred v_gone f_keys f_days f_amounts f_versions r_keys r_days r_values H12.size dhasSaved dkeptError dmoved vkeys vfirsts vends vvalues vinferred vgone vmade fkeys fdays famounts fversions fcount rkeys rdays rvalues rcount ((dh14, dk15, dm16), (fk17, fd18, fa19, fv20, fc21)) g23) (cwV 0 hts gX5_makeChanges_X5_pointFacts rfl rfl rfl hs_X5_pointFacts ⟨Nat.le_of_ble_eq_true rfl, Nat.le_of_ble_eq_true rfl⟩) (preV_ (ci := 7) (q0 := 0) hPc hK hDc rfl rfl rfl rfl) rfl rfl hl.1 rfl (lv_room (Nat.le_of_ble_eq_true rfl)) dX5_makeChanges_84 ⟨Nat.le_of_ble_eq_true rfl, Nat.le_of_ble_eq_true rfl⟩) hS (fun q _ h => hFc q h) hFc (fun u t H24 locs ht hvm hw hB hz1 hk1 hS => ?_)
        obtain ⟨hP, hD⟩ := aft_ (Wr := wV_ b0 b_keys b_firsts b_ends b_values b_inferred b_gone cI cZ bkeys bfirsts bends bvalues binferred bgone bmade) (Wc' := wD_ d0 s0 z0 b0 q0 t0 dh14 dk15 dm16 ++ wS_ s0 v0 f0 r0 ++ wV_ v0 v_keys v_firsts v_ends v_values v_inferred v_gone cI cZ vkeys vfirsts vends vvalues vinferred vgone vmade ++ wF_ f0 f_keys f_days f_amounts f_versions cI fk17 fd18 fa19 fv20 fc21 ++ wR_ r0 r_keys r_days r_values cI rkeys rdays rvalues rcount) (W2 := wD_ d0 s0 z0 b0 q0 t0 dh14 dk15 dm16 ++ wS_ s0 v0 f0 r0 ++ wV_ v0 v_keys v_firsts v_ends v_values v_inferred v_gone cI cZ vkeys vfirsts vends vvalues vinferred vgone vmade ++ wF_ f0 f_keys f_days f_amounts f_versions cI fk17 fd18 fa19 fv20 fc21 ++ wR_ r0 r_keys r_days r_values cI rkeys rdays rvalues rcount ++ wV_ b0 b_keys b_firsts b_ends b_values b_inferred b_gone cI cZ bkeys bfirsts bends bvalues binferred bgone bmade) hP hD [0, 1, 2, 3, 4, 5, 6, 7, 8, 9, 10, 11, 12, 13, 14, 15, 16, 17] [18, 19, 20, 21, 22, 23, 24] [7, 8, 9, 10, 11, 12, 13, 14, 15, 16, 17, 18, 19, 20, 21, 22, 23, 24, 0, 1, 2, 3, 4, 5, 6] rfl rfl (by decide) (by decide) (by decide) hk1 hFc hB ht rfl
        refine lv_iconst (v := 1) hx hb dX5_makeChanges_87 (by decide) ?_
        have hR := Option.some.inj hf
        subst hR
        exact W.zret (v := (1 : Int32)) hx hb hr (by decide) (fun t ht hW => ⟨⟨(1 : Int32), (), rfl, rfl, by rw [ht]; exact hP, va_K.moved hW.alike hK, hD⟩, hS.F ht⟩) hS.2.2 dX5_makeChanges_88
      · have hf := ite_F c13 hf
        refine lv_iload_n hx hb dX5_makeChanges_21 rfl (lv_at hl 0 rfl) ?_
        refine lv_aload_n hx hb dX5_makeChanges_22 rfl (lv_at hl 2 rfl) ?_
        refine va_get (D := (dC, dI)) (ci := 3) (v := .int rcount) (C := RX1) (T := TX1) (N := 4) hx hb hts inX1_ hown hK hP 14 rfl rfl 3 (by decide) fl218_ (fun _ h9 => h9) rfl dX5_makeChanges_23 ?_
        refine lv_icmp_ge (tgt := 83) hx hb dX5_makeChanges_26 (by decide) (fun c26 => ?_) (fun c26 => ?_)
        · have hf := ite_T c26 hf
          refine lv_aload_n hx hb dX5_makeChanges_83 rfl (lv_at hl 1 rfl) ?_
          obtain ⟨R35, g36, hf⟩ := bd_B hf
          obtain ⟨⟨dh27, dk28, dm29⟩, ⟨fk30, fd31, fa32, fv33, fc34⟩⟩ := R35
          dsimp only at hf
          have hPc := hP.sub (ws' := wD_ d0 s0 z0 b0 q0 t0 dhasSaved dkeptError dmoved ++ wS_ s0 v0 f0 r0 ++ wV_ v0 v_keys v_firsts v_ends v_values v_inferred v_gone cI cZ vkeys vfirsts vends vvalues vinferred vgone vmade ++ wF_ f0 f_keys f_days f_amounts f_versions cI fkeys fdays famounts fversions fcount ++ wR_ r0 r_keys r_days r_values cI rkeys rdays rvalues rcount) [0, 1, 2, 3, 4, 5, 6, 7, 8, 9, 10, 11, 12, 13, 14, 15, 16, 17] rfl
          have hDc := hD.sub (ws' := wD_ d0 s0 z0 b0 q0 t0 dhasSaved dkeptError dmoved ++ wS_ s0 v0 f0 r0 ++ wV_ v0 v_keys v_firsts v_ends v_values v_inferred v_gone cI cZ vkeys vfirsts vends vvalues vinferred vgone vmade ++ wF_ f0 f_keys f_days f_amounts f_versions cI fkeys fdays famounts fversions fcount ++ wR_ r0 r_keys r_days r_values cI rkeys rdays rvalues rcount) [0, 1, 2, 3, 4, 5, 6, 7, 8, 9, 10, 11, 12, 13, 14, 15, 16, 17] (by decide) rfl
          have hFc := va_free (wc := wD_ d0 s0 z0 b0 q0 t0 dhasSaved dkeptError dmoved ++ wS_ s0 v0 f0 r0 ++ wV_ v0 v_keys v_firsts v_ends v_values v_inferred v_gone cI cZ vkeys vfirsts vends vvalues vinferred vgone vmade ++ wF_ f0 f_keys f_days f_amounts f_versions cI fkeys fdays famounts fversions fcount ++ wR_ r0 r_keys r_days r_values cI rkeys rdays rvalues rcount) hD hS hA [0, 1, 2, 3, 4, 5, 6, 7, 8, 9, 10, 11, 12, 13, 14, 15, 16, 17] rfl
          refine va_callv (va_runV (As := []) (rest := []) ⟨hx, hb, hml, hown, hts⟩ (c_X5_pointFacts l dC dI cI cZ cC cJ cD d0 s0 z0 b0 q0 t0 v0 f0 r0 v_keys v_firsts v_ends v_values v_inferred v_gone f_keys f_days f_amounts f_versions r_keys r_days r_values H12.size dhasSaved dkeptError dmoved vkeys vfirsts vends vvalues vinferred vgone vmade fkeys fdays famounts fversions fcount rkeys rdays rvalues rcount ((dh27, dk28, dm29), (fk30, fd31, fa32, fv33, fc34)) g36) (cwV 0 hts gX5_makeChanges_X5_pointFacts rfl rfl rfl hs_X5_pointFacts ⟨Nat.le_of_ble_eq_true rfl, Nat.le_of_ble_eq_true rfl⟩) (preV_ (ci := 7) (q0 := 0) hPc hK hDc rfl rfl rfl rfl) rfl rfl hl.1 rfl (lv_room (Nat.le_of_ble_eq_true rfl)) dX5_makeChanges_84 ⟨Nat.le_of_ble_eq_true rfl, Nat.le_of_ble_eq_true rfl⟩) hS (fun q _ h => hFc q h) hFc (fun u t H37 locs ht hvm hw hB hz1 hk1 hS => ?_)
          obtain ⟨hP, hD⟩ := aft_ (Wr := wV_ b0 b_keys b_firsts b_ends b_values b_inferred b_gone cI cZ bkeys bfirsts bends bvalues binferred bgone bmade) (Wc' := wD_ d0 s0 z0 b0 q0 t0 dh27 dk28 dm29 ++ wS_ s0 v0 f0 r0 ++ wV_ v0 v_keys v_firsts v_ends v_values v_inferred v_gone cI cZ vkeys vfirsts vends vvalues vinferred vgone vmade ++ wF_ f0 f_keys f_days f_amounts f_versions cI fk30 fd31 fa32 fv33 fc34 ++ wR_ r0 r_keys r_days r_values cI rkeys rdays rvalues rcount) (W2 := wD_ d0 s0 z0 b0 q0 t0 dh27 dk28 dm29 ++ wS_ s0 v0 f0 r0 ++ wV_ v0 v_keys v_firsts v_ends v_values v_inferred v_gone cI cZ vkeys vfirsts vends vvalues vinferred vgone vmade ++ wF_ f0 f_keys f_days f_amounts f_versions cI fk30 fd31 fa32 fv33 fc34 ++ wR_ r0 r_keys r_days r_values cI rkeys rdays rvalues rcount ++ wV_ b0 b_keys b_firsts b_ends b_values b_inferred b_gone cI cZ bkeys bfirsts bends bvalues binferred bgone bmade) hP hD [0, 1, 2, 3, 4, 5, 6, 7, 8, 9, 10, 11, 12, 13, 14, 15, 16, 17] [18, 19, 20, 21, 22, 23, 24] [7, 8, 9, 10, 11, 12, 13, 14, 15, 16, 17, 18, 19, 20, 21, 22, 23, 24, 0, 1, 2, 3, 4, 5, 6] rfl rfl (by decide) (by decide) (by decide) hk1 hFc hB ht rfl
          refine lv_iconst (v := 1) hx hb dX5_makeChanges_87 (by decide) ?_
          have hR := Option.some.inj hf
          subst hR
          exact W.zret (v := (1 : Int32)) hx hb hr (by decide) (fun t ht hW => ⟨⟨(1 : Int32), (), rfl, rfl, by rw [ht]; exact hP, va_K.moved hW.alike hK, hD⟩, hS.F ht⟩) hS.2.2 dX5_makeChanges_88
        · have hf := ite_F c26 hf
          refine lv_aload_n hx hb dX5_makeChanges_29 rfl (lv_at hl 1 rfl) ?_
          refine va_get (D := (dC, dI)) (ci := 7) (v := .ref s0) (C := RX5) (T := TX5) (N := 8) hx hb hts inX5_ hown hK hP 0 rfl rfl 0 (by decide) fl10_ (fun _ h9 => h9) rfl dX5_makeChanges_30 ?_
          refine va_get (D := (dC, dI)) (ci := 4) (v := .ref v0) (C := RX2) (T := TX2) (N := 3) hx hb hts inX2_ hown hK hP 1 rfl rfl 0 (by decide) fl51_ (fun _ h9 => h9) rfl dX5_makeChanges_33 ?_
          refine lv_aload_n hx hb dX5_makeChanges_36 rfl (lv_at hl 2 rfl) ?_
          refine va_get (D := (dC, dI)) (ci := 3) (v := .ref r_keys) (C := RX1) (T := TX1) (N := 4) hx hb hts inX1_ hown hK hP 14 rfl rfl 0 (by decide) fl219_ (fun _ h9 => h9) rfl dX5_makeChanges_37 ?_
          refine lv_iload_n hx hb dX5_makeChanges_40 rfl (lv_at hl 0 rfl) ?_
          obtain ⟨h39, hf⟩ := gd_T hf
          refine va_iald hx hb hK hP 15 0 rfl rfl h39 dX5_makeChanges_41 ?_
          refine lv_aload_n hx hb dX5_makeChanges_42 rfl (lv_at hl 2 rfl) ?_
          refine va_get (D := (dC, dI)) (ci := 3) (v := .ref r_days) (C := RX1) (T := TX1) (N := 4) hx hb hts inX1_ hown hK hP 14 rfl rfl 1 (by decide) fl220_ (fun _ h9 => h9) rfl dX5_makeChanges_43 ?_
          refine lv_iload_n hx hb dX5_makeChanges_46 rfl (lv_at hl 0 rfl) ?_
          obtain ⟨h40, hf⟩ := gd_T hf
          refine va_iald hx hb hK hP 16 0 rfl rfl h40 dX5_makeChanges_47 ?_
          refine lv_aload_n hx hb dX5_makeChanges_48 rfl (lv_at hl 2 rfl) ?_
          refine va_get (D := (dC, dI)) (ci := 3) (v := .ref r_values) (C := RX1) (T := TX1) (N := 4) hx hb hts inX1_ hown hK hP 14 rfl rfl 2 (by decide) fl221_ (fun _ h9 => h9) rfl dX5_makeChanges_49 ?_
          refine lv_iload_n hx hb dX5_makeChanges_52 rfl (lv_at hl 0 rfl) ?_
          obtain ⟨h41, hf⟩ := gd_T hf
          refine va_iald hx hb hK hP 17 0 rfl rfl h41 dX5_makeChanges_53 ?_
          obtain ⟨R50, g51, hf⟩ := bd_B hf
          obtain ⟨r42, ⟨vk43, vf44, ve45, vv46, vi47, vg48, vm49⟩⟩ := R50
          dsimp only at hf
          have hPc := hP.sub (ws' := wV_ v0 v_keys v_firsts v_ends v_values v_inferred v_gone cI cZ vkeys vfirsts vends vvalues vinferred vgone vmade) [2, 3, 4, 5, 6, 7, 8] rfl
          have hDc := hD.sub (ws' := wV_ v0 v_keys v_firsts v_ends v_values v_inferred v_gone cI cZ vkeys vfirsts vends vvalues vinferred vgone vmade) [2, 3, 4, 5, 6, 7, 8] (by decide) rfl
          have hFc := va_free (wc := wV_ v0 v_keys v_firsts v_ends v_values v_inferred v_gone cI cZ vkeys vfirsts vends vvalues vinferred vgone vmade) hD hS hA [2, 3, 4, 5, 6, 7, 8] rfl
          refine va_calli (va_runV (As := [.int (rkeys l3.toNatClampNeg), .int (rdays l3.toNatClampNeg), .int (rvalues l3.toNatClampNeg)]) (rest := []) ⟨hx, hb, hml, hown, hts⟩ (c_X4_put l dC dI cI cZ cC cJ cD v0 v_keys v_firsts v_ends v_values v_inferred v_gone H12.size vkeys vfirsts vends vvalues vinferred vgone vmade (rkeys l3.toNatClampNeg) (rdays l3.toNatClampNeg) (rvalues l3.toNatClampNeg) (r42, (vk43, vf44, ve45, vv46, vi47, vg48, vm49)) g51) (cwV 3 hts gX5_makeChanges_X4_put rfl rfl rfl hs_X4_put ⟨Nat.le_of_ble_eq_true rfl, Nat.le_of_ble_eq_true rfl⟩) (preV_ (ci := 6) (q0 := 0) hPc hK hDc rfl rfl rfl rfl) rfl rfl hl.1 rfl (lv_room (Nat.le_of_ble_eq_true rfl)) dX5_makeChanges_54 ⟨Nat.le_of_ble_eq_true rfl, Nat.le_of_ble_eq_true rfl⟩) hS (fun q _ h => hFc q h) hFc (fun z53 u t H52 locs ht hvm hw hB hz1 hk1 hS => ?_)
          have hw : r42 = z53 := hw.symm
          subst hw
          obtain ⟨hP, hD⟩ := aft_ (Wr := wD_ d0 s0 z0 b0 q0 t0 dhasSaved dkeptError dmoved ++ wS_ s0 v0 f0 r0 ++ wF_ f0 f_keys f_days f_amounts f_versions cI fkeys fdays famounts fversions fcount ++ wR_ r0 r_keys r_days r_values cI rkeys rdays rvalues rcount ++ wV_ b0 b_keys b_firsts b_ends b_values b_inferred b_gone cI cZ bkeys bfirsts bends bvalues binferred bgone bmade) (Wc' := wV_ v0 v_keys v_firsts v_ends v_values v_inferred v_gone cI cZ vk43 vf44 ve45 vv46 vi47 vg48 vm49) (W2 := wD_ d0 s0 z0 b0 q0 t0 dhasSaved dkeptError dmoved ++ wS_ s0 v0 f0 r0 ++ wV_ v0 v_keys v_firsts v_ends v_values v_inferred v_gone cI cZ vk43 vf44 ve45 vv46 vi47 vg48 vm49 ++ wF_ f0 f_keys f_days f_amounts f_versions cI fkeys fdays famounts fversions fcount ++ wR_ r0 r_keys r_days r_values cI rkeys rdays rvalues rcount ++ wV_ b0 b_keys b_firsts b_ends b_values b_inferred b_gone cI cZ bkeys bfirsts bends bvalues binferred bgone bmade) hP hD [2, 3, 4, 5, 6, 7, 8] [0, 1, 9, 10, 11, 12, 13, 14, 15, 16, 17, 18, 19, 20, 21, 22, 23, 24] [0, 1, 18, 19, 20, 21, 22, 23, 24, 2, 3, 4, 5, 6, 7, 8, 9, 10, 11, 12, 13, 14, 15, 16, 17] rfl rfl (by decide) (by decide) (by decide) hk1 hFc hB ht rfl
          refine lv_iconst (v := (-1)) hx hb dX5_makeChanges_57 (by decide) ?_
          refine lv_icmp_ne (tgt := 77) hx hb dX5_makeChanges_58 (by decide) (fun c54 => ?_) (fun c54 => ?_)
          · have hf := ite_F c54 hf
            refine lv_iinc (v := l3 + 1) (lv' := [(3, .int (l3 + 1)), (0, .ref d0), (1, .ref r0), (2, .int l2)]) hx hb dX5_makeChanges_77 hl (k := 0) rfl (by first | rfl | decide) (by decide) rfl (fun ls hl => ?_)
            refine lv_goto (tgt := 16) hx hb dX5_makeChanges_80 (by decide) ?_
            exact ih (l3 + 1) l2 dhasSaved dkeptError dmoved vk43 vf44 ve45 vv46 vi47 vg48 vm49 fkeys fdays famounts fversions fcount rkeys rdays rvalues rcount bkeys bfirsts bends bvalues binferred bgone bmade _ _ _ hf hP hD hS (lv_sub hl [0, 1, 2, 3] rfl)
          · have hf := ite_T c54 hf
            refine lv_aload_n hx hb dX5_makeChanges_61 rfl (lv_at hl 1 rfl) ?_
            refine va_get (D := (dC, dI)) (ci := 7) (v := .ref s0) (C := RX5) (T := TX5) (N := 8) hx hb hts inX5_ hown hK hP 0 rfl rfl 0 (by decide) fl10_ (fun _ h9 => h9) rfl dX5_makeChanges_62 ?_
            refine va_get (D := (dC, dI)) (ci := 4) (v := .ref v0) (C := RX2) (T := TX2) (N := 3) hx hb hts inX2_ hown hK hP 1 rfl rfl 0 (by decide) fl51_ (fun _ h9 => h9) rfl dX5_makeChanges_65 ?_
            refine lv_aload_n hx hb dX5_makeChanges_68 rfl (lv_at hl 1 rfl) ?_
            refine va_get (D := (dC, dI)) (ci := 7) (v := .ref b0) (C := RX5) (T := TX5) (N := 8) hx hb hts inX5_ hown hK hP 0 rfl rfl 2 (by decide) fl22_ (fun _ h9 => h9) rfl dX5_makeChanges_69 ?_
            obtain ⟨R62, g63, hf⟩ := bd_B hf
            obtain ⟨vk55, vf56, ve57, vv58, vi59, vg60, vm61⟩ := R62
            dsimp only at hf
            have hPc := hP.sub (ws' := wV_ v0 v_keys v_firsts v_ends v_values v_inferred v_gone cI cZ vk43 vf44 ve45 vv46 vi47 vg48 vm49 ++ wV_ b0 b_keys b_firsts b_ends b_values b_inferred b_gone cI cZ bkeys bfirsts bends bvalues binferred bgone bmade) [2, 3, 4, 5, 6, 7, 8, 18, 19, 20, 21, 22, 23, 24] rfl
            have hDc := hD.sub (ws' := wV_ v0 v_keys v_firsts v_ends v_values v_inferred v_gone cI cZ vk43 vf44 ve45 vv46 vi47 vg48 vm49 ++ wV_ b0 b_keys b_firsts b_ends b_values b_inferred b_gone cI cZ bkeys bfirsts bends bvalues binferred bgone bmade) [2, 3, 4, 5, 6, 7, 8, 18, 19, 20, 21, 22, 23, 24] (by decide) rfl
            have hFc := va_free (wc := wV_ v0 v_keys v_firsts v_ends v_values v_inferred v_gone cI cZ vk43 vf44 ve45 vv46 vi47 vg48 vm49 ++ wV_ b0 b_keys b_firsts b_ends b_values b_inferred b_gone cI cZ bkeys bfirsts bends bvalues binferred bgone bmade) hD hS hA [2, 3, 4, 5, 6, 7, 8, 18, 19, 20, 21, 22, 23, 24] rfl
            refine va_callv (va_runV (As := [.ref b0]) (rest := []) ⟨hx, hb, hml, hown, hts⟩ (c_X4_copy l dC dI cI cZ cC cJ cD v0 v_keys v_firsts v_ends v_values v_inferred v_gone b0 b_keys b_firsts b_ends b_values b_inferred b_gone H52.size vk43 vf44 ve45 vv46 vi47 vg48 vm49 bkeys bfirsts bends bvalues binferred bgone bmade (vk55, vf56, ve57, vv58, vi59, vg60, vm61) g63) (cwV 1 hts gX5_makeChanges_X4_copy rfl rfl rfl hs_X4_copy ⟨Nat.le_of_ble_eq_true rfl, Nat.le_of_ble_eq_true rfl⟩) (preV_ (ci := 6) (q0 := 0) hPc hK hDc rfl rfl rfl rfl) rfl rfl hl.1 rfl (lv_room (Nat.le_of_ble_eq_true rfl)) dX5_makeChanges_72 ⟨Nat.le_of_ble_eq_true rfl, Nat.le_of_ble_eq_true rfl⟩) hS (fun q _ h => hFc q h) hFc (fun u t H64 locs ht hvm hw hB hz1 hk1 hS => ?_)
            obtain ⟨hP, hD⟩ := aft_ (Wr := wD_ d0 s0 z0 b0 q0 t0 dhasSaved dkeptError dmoved ++ wS_ s0 v0 f0 r0 ++ wF_ f0 f_keys f_days f_amounts f_versions cI fkeys fdays famounts fversions fcount ++ wR_ r0 r_keys r_days r_values cI rkeys rdays rvalues rcount) (Wc' := wV_ v0 v_keys v_firsts v_ends v_values v_inferred v_gone cI cZ vk55 vf56 ve57 vv58 vi59 vg60 vm61 ++ wV_ b0 b_keys b_firsts b_ends b_values b_inferred b_gone cI cZ bkeys bfirsts bends bvalues binferred bgone bmade) (W2 := wD_ d0 s0 z0 b0 q0 t0 dhasSaved dkeptError dmoved ++ wS_ s0 v0 f0 r0 ++ wV_ v0 v_keys v_firsts v_ends v_values v_inferred v_gone cI cZ vk55 vf56 ve57 vv58 vi59 vg60 vm61 ++ wF_ f0 f_keys f_days f_amounts f_versions cI fkeys fdays famounts fversions fcount ++ wR_ r0 r_keys r_days r_values cI rkeys rdays rvalues rcount ++ wV_ b0 b_keys b_firsts b_ends b_values b_inferred b_gone cI cZ bkeys bfirsts bends bvalues binferred bgone bmade) hP hD [2, 3, 4, 5, 6, 7, 8, 18, 19, 20, 21, 22, 23, 24] [0, 1, 9, 10, 11, 12, 13, 14, 15, 16, 17] [0, 1, 11, 12, 13, 14, 15, 16, 17, 2, 3, 4, 5, 6, 7, 8, 9, 10, 18, 19, 20, 21, 22, 23, 24] rfl rfl (by decide) (by decide) (by decide) hk1 hFc hB ht rfl
            refine lv_iconst (v := 0) hx hb dX5_makeChanges_75 (by decide) ?_
            have hR := Option.some.inj hf
            subst hR
            exact W.zret (v := (0 : Int32)) hx hb hr (by decide) (fun t ht hW => ⟨⟨(0 : Int32), (), rfl, rfl, by rw [ht]; exact hP, va_K.moved hW.alike hK, hD⟩, hS.F ht⟩) hS.2.2 dX5_makeChanges_76
  exact lp16 fu_ (0 : Int32) a2 dhasSaved dkeptError dmoved vkeys vfirsts vends vvalues vinferred vgone vmade fkeys fdays famounts fversions fcount rkeys rdays rvalues rcount bk1 bf2 be3 bv4 bi5 bg6 bm7 _ _ _ hf hP hD hS hl
theorem hs_X5_makeChanges : yX5_makeChanges.cls = RX5 ∧ yX5_makeChanges.cls ≠ "java/lang/invoke/MethodHandle" ∧ yX5_makeChanges.cls ≠ "java/lang/invoke/VarHandle" ∧ (parseMethodDescriptor yX5_makeChanges.desc).map (fun d => d.parameters.length) = some 2 := by decide +kernel
