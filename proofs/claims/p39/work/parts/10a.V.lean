set_option maxRecDepth 20000 in
theorem in_X4_has_X4 : ∀ w ∈ wsX40, w ∈ wsX4_has := by decide +kernel
def f_X4_has (a1 : Int32) (V_ : tV_) : Option (Int32) :=
match V_ with
| (vkeys, vfirsts, vends, vvalues, vinferred, vgone, vmade) =>
if a1 < 0 then
some (0 : Int32)
else
if vmade ≤ a1 then
some (0 : Int32)
else
gd_ a1 60 (
if (vgone a1.toNatClampNeg) = 0 then
some (1 : Int32)
else
some (0 : Int32))
abbrev rm_X4_has : Room := { frames := 0, cells := 0, slots := 0, locals := 0 }
set_option maxHeartbeats 4000000 in
set_option maxRecDepth 100000 in
theorem c_X4_has (l : Launch) (dC : Nat → ClassId) (dI : Nat → Nat → Nat) (cI cZ cC cJ cD : ClassId) (v0 v_keys v_firsts v_ends v_values v_inferred v_gone : Nat) (sz : Nat) (vkeys : Nat → Int32) (vfirsts : Nat → Int32) (vends : Nat → Int32) (vvalues : Nat → Int32) (vinferred : Nat → Int32) (vgone : Nat → Int32) (vmade : Int32) (a1 : Int32) (R : Int32) (hf : f_X4_has a1 (vkeys, vfirsts, vends, vvalues, vinferred, vgone, vmade) = some R) : Met l yX4_has wsX4_has rm_X4_has (Pc_ (dC, dI) (ty_ cI cZ cC cJ cD) (wV_ v0 v_keys v_firsts v_ends v_values v_inferred v_gone cI cZ vkeys vfirsts vends vvalues vinferred vgone vmade) sz [.ref v0, .int a1]) (Qi_ (dC, dI) (ty_ cI cZ cC cJ cD) R (wV_ v0 v_keys v_firsts v_ends v_values v_inferred v_gone cI cZ vkeys vfirsts vends vvalues vinferred vgone vmade) (va_A (wV_ v0 v_keys v_firsts v_ends v_values v_inferred v_gone cI cZ vkeys vfirsts vends vvalues vinferred vgone vmade) sz)) 0 0 (va_A (wV_ v0 v_keys v_firsts v_ends v_values v_inferred v_gone cI cZ vkeys vfirsts vends vvalues vinferred vgone vmade) sz) := by
  refine met_ (cc := cX4_has) (maxL := 2) (ret := (some .boolean)) (Qcf := fun A => Qi_ (dC, dI) (ty_ cI cZ cC cJ cD) R (wV_ v0 v_keys v_firsts v_ends v_values v_inferred v_gone cI cZ vkeys vfirsts vends vvalues vinferred vgone vmade) A) (by decide) rfl (Nat.le_of_ble_eq_true rfl) ?_
  intro p e s m args below meth c A ls hx hb hr hts hown hlocks hml hA hP hK hD hl
  have hown : s.vm.findClass RX4 = some m.cls := hown
  have hl : lv_has ls 2 [(0, .ref v0), (1, .int a1)] := hl
  have hS : va_S A s.heap s.heap [] := va_S.rf
  have fl28_ : (Cond.fieldLink RX4 28 "DimensionLoader$Versions" "gone" "[Z").before args s = true := hts _ (List.mem_of_getElem? (i := 2) rfl)
  have fl31_ : (Cond.fieldLink RX4 31 "DimensionLoader$Versions" "made" "I").before args s = true := hts _ (List.mem_of_getElem? (i := 1) rfl)
  have inX4_ : ∀ w ∈ wsX40, w ∈ wsX4_has := in_X4_has_X4
  unfold f_X4_has at hf
  dsimp only at hf
  refine lv_iload_n hx hb dX4_has_0 rfl (lv_at hl 1 rfl) ?_
  refine lv_if_lt (tgt := 25) hx hb dX4_has_1 (by decide) (fun c1 => ?_) (fun c1 => ?_)
  · have hf := ite_T c1 hf
    refine lv_iconst (v := 0) hx hb dX4_has_25 (by decide) ?_
    have hR := Option.some.inj hf
    subst hR
    exact W.zret (v := (0 : Int32)) hx hb hr (by decide) (fun t ht hW => ⟨⟨(0 : Int32), (), rfl, rfl, by rw [ht]; exact hP, va_K.moved hW.alike hK, hD⟩, hS.F ht⟩) hS.2.2 dX4_has_26
  · have hf := ite_F c1 hf
    refine lv_iload_n hx hb dX4_has_4 rfl (lv_at hl 1 rfl) ?_
    refine lv_aload_n hx hb dX4_has_5 rfl (lv_at hl 0 rfl) ?_
    refine va_get (D := (dC, dI)) (ci := 6) (v := .int vmade) (C := RX4) (T := TX4) (N := 7) hx hb hts inX4_ hown hK hP 0 rfl rfl 6 (by decide) fl31_ (fun _ h9 => h9) rfl dX4_has_6 ?_
    refine lv_icmp_ge (tgt := 25) hx hb dX4_has_9 (by decide) (fun c2 => ?_) (fun c2 => ?_)
    · have hf := ite_T c2 hf
      refine lv_iconst (v := 0) hx hb dX4_has_25 (by decide) ?_
      have hR := Option.some.inj hf
      subst hR
      exact W.zret (v := (0 : Int32)) hx hb hr (by decide) (fun t ht hW => ⟨⟨(0 : Int32), (), rfl, rfl, by rw [ht]; exact hP, va_K.moved hW.alike hK, hD⟩, hS.F ht⟩) hS.2.2 dX4_has_26
    · have hf := ite_F c2 hf
      refine lv_aload_n hx hb dX4_has_12 rfl (lv_at hl 0 rfl) ?_
      refine va_get (D := (dC, dI)) (ci := 6) (v := .ref v_gone) (C := RX4) (T := TX4) (N := 7) hx hb hts inX4_ hown hK hP 0 rfl rfl 5 (by decide) fl28_ (fun _ h9 => h9) rfl dX4_has_13 ?_
      refine lv_iload_n hx hb dX4_has_16 rfl (lv_at hl 1 rfl) ?_
      obtain ⟨h3, hf⟩ := gd_T hf
      refine va_zald hx hb hK hP 6 1 rfl rfl h3 dX4_has_17 ?_
      refine lv_if_ne (tgt := 25) hx hb dX4_has_18 (by decide) (fun c4 => ?_) (fun c4 => ?_)
      · have hf := ite_F c4 hf
        refine lv_iconst (v := 0) hx hb dX4_has_25 (by decide) ?_
        have hR := Option.some.inj hf
        subst hR
        exact W.zret (v := (0 : Int32)) hx hb hr (by decide) (fun t ht hW => ⟨⟨(0 : Int32), (), rfl, rfl, by rw [ht]; exact hP, va_K.moved hW.alike hK, hD⟩, hS.F ht⟩) hS.2.2 dX4_has_26
      · have hf := ite_T c4 hf
        refine lv_iconst (v := 1) hx hb dX4_has_21 (by decide) ?_
        refine lv_goto (tgt := 26) hx hb dX4_has_22 (by decide) ?_
        have hR := Option.some.inj hf
        subst hR
        exact W.zret (v := (1 : Int32)) hx hb hr (by decide) (fun t ht hW => ⟨⟨(1 : Int32), (), rfl, rfl, by rw [ht]; exact hP, va_K.moved hW.alike hK, hD⟩, hS.F ht⟩) hS.2.2 dX4_has_26
theorem hs_X4_has : yX4_has.cls = RX4 ∧ yX4_has.cls ≠ "java/lang/invoke/MethodHandle" ∧ yX4_has.cls ≠ "java/lang/invoke/VarHandle" ∧ (parseMethodDescriptor yX4_has.desc).map (fun d => d.parameters.length) = some 1 := by decide +kernel
set_option maxRecDepth 20000 in
theorem in_X4_isOf_X4 : ∀ w ∈ wsX40, w ∈ wsX4_isOf := by decide +kernel
def f_X4_isOf (a1 : Int32) (a2 : Int32) (V_ : tV_) : Option (Int32) :=
match V_ with
| (vkeys, vfirsts, vends, vvalues, vinferred, vgone, vmade) =>
bd_ (f_X4_has a1 (vkeys, vfirsts, vends, vvalues, vinferred, vgone, vmade)) (fun r1 =>
if r1 = 0 then
some (0 : Int32)
else
gd_ a1 60 (
if (vkeys a1.toNatClampNeg) = a2 then
some (1 : Int32)
else
some (0 : Int32)))
abbrev rm_X4_isOf : Room := { frames := 1, cells := 0, slots := 0, locals := 21 }
set_option maxHeartbeats 4000000 in
set_option maxRecDepth 100000 in
theorem c_X4_isOf (l : Launch) (dC : Nat → ClassId) (dI : Nat → Nat → Nat) (cI cZ cC cJ cD : ClassId) (v0 v_keys v_firsts v_ends v_values v_inferred v_gone : Nat) (sz : Nat) (vkeys : Nat → Int32) (vfirsts : Nat → Int32) (vends : Nat → Int32) (vvalues : Nat → Int32) (vinferred : Nat → Int32) (vgone : Nat → Int32) (vmade : Int32) (a1 : Int32) (a2 : Int32) (R : Int32) (hf : f_X4_isOf a1 a2 (vkeys, vfirsts, vends, vvalues, vinferred, vgone, vmade) = some R) : Met l yX4_isOf wsX4_isOf rm_X4_isOf (Pc_ (dC, dI) (ty_ cI cZ cC cJ cD) (wV_ v0 v_keys v_firsts v_ends v_values v_inferred v_gone cI cZ vkeys vfirsts vends vvalues vinferred vgone vmade) sz [.ref v0, .int a1, .int a2]) (Qi_ (dC, dI) (ty_ cI cZ cC cJ cD) R (wV_ v0 v_keys v_firsts v_ends v_values v_inferred v_gone cI cZ vkeys vfirsts vends vvalues vinferred vgone vmade) (va_A (wV_ v0 v_keys v_firsts v_ends v_values v_inferred v_gone cI cZ vkeys vfirsts vends vvalues vinferred vgone vmade) sz)) 0 0 (va_A (wV_ v0 v_keys v_firsts v_ends v_values v_inferred v_gone cI cZ vkeys vfirsts vends vvalues vinferred vgone vmade) sz) := by
  refine met_ (cc := cX4_isOf) (maxL := 3) (ret := (some .boolean)) (Qcf := fun A => Qi_ (dC, dI) (ty_ cI cZ cC cJ cD) R (wV_ v0 v_keys v_firsts v_ends v_values v_inferred v_gone cI cZ vkeys vfirsts vends vvalues vinferred vgone vmade) A) (by decide) rfl (Nat.le_of_ble_eq_true rfl) ?_
  intro p e s m args below meth c A ls hx hb hr hts hown hlocks hml hA hP hK hD hl
  have hown : s.vm.findClass RX4 = some m.cls := hown
  have hl : lv_has ls 3 [(0, .ref v0), (1, .int a1), (2, .int a2)] := hl
  have hS : va_S A s.heap s.heap [] := va_S.rf
  have fl9_ : (Cond.fieldLink RX4 9 "DimensionLoader$Versions" "keys" "[I").before args s = true := hts _ (List.mem_of_getElem? (i := 1) rfl)
  have inX4_ : ∀ w ∈ wsX40, w ∈ wsX4_isOf := in_X4_isOf_X4
  unfold f_X4_isOf at hf
  dsimp only at hf
  refine lv_aload_n hx hb dX4_isOf_0 rfl (lv_at hl 0 rfl) ?_
  refine lv_iload_n hx hb dX4_isOf_1 rfl (lv_at hl 1 rfl) ?_
  obtain ⟨R2, g3, hf⟩ := bd_B hf
  obtain ⟨r1, rfl⟩ : ∃ z, z = R2 := ⟨_, rfl⟩
  have hPc := hP
  have hDc := hD
  have hFc := va_free (wc := wV_ v0 v_keys v_firsts v_ends v_values v_inferred v_gone cI cZ vkeys vfirsts vends vvalues vinferred vgone vmade) hD hS hA [0, 1, 2, 3, 4, 5, 6] rfl
  refine va_calli (va_runV (As := [.int a1]) (rest := []) ⟨hx, hb, hml, hown, hts⟩ (c_X4_has l dC dI cI cZ cC cJ cD v0 v_keys v_firsts v_ends v_values v_inferred v_gone s.heap.size vkeys vfirsts vends vvalues vinferred vgone vmade a1 r1 g3) (cwV 1 hts gX4_isOf_X4_has rfl rfl rfl hs_X4_has ⟨Nat.le_of_ble_eq_true rfl, Nat.le_of_ble_eq_true rfl⟩) (preV_ (ci := 6) (q0 := 0) hPc hK hDc rfl rfl rfl rfl) rfl rfl hl.1 rfl (lv_room (Nat.le_of_ble_eq_true rfl)) dX4_isOf_2 ⟨Nat.le_of_ble_eq_true rfl, Nat.le_of_ble_eq_true rfl⟩) hS (fun q _ h => hFc q h) hFc (fun z5 u t H4 locs ht hvm hw hB hz1 hk1 hS => ?_)
  have hw : r1 = z5 := hw.symm
  subst hw
  obtain ⟨hP, hD⟩ := aft_ (Wr := []) (Wc' := wV_ v0 v_keys v_firsts v_ends v_values v_inferred v_gone cI cZ vkeys vfirsts vends vvalues vinferred vgone vmade) (W2 := wV_ v0 v_keys v_firsts v_ends v_values v_inferred v_gone cI cZ vkeys vfirsts vends vvalues vinferred vgone vmade) hP hD [0, 1, 2, 3, 4, 5, 6] [] [0, 1, 2, 3, 4, 5, 6] rfl rfl (by decide) (by decide) (by decide) hk1 hFc hB ht rfl
  refine lv_if_eq (tgt := 22) hx hb dX4_isOf_5 (by decide) (fun c6 => ?_) (fun c6 => ?_)
  · have hf := ite_T c6 hf
    refine lv_iconst (v := 0) hx hb dX4_isOf_22 (by decide) ?_
    have hR := Option.some.inj hf
    subst hR
    exact W.zret (v := (0 : Int32)) hx hb hr (by decide) (fun t ht hW => ⟨⟨(0 : Int32), (), rfl, rfl, by rw [ht]; exact hP, va_K.moved hW.alike hK, hD⟩, hS.F ht⟩) hS.2.2 dX4_isOf_23
  · have hf := ite_F c6 hf
    refine lv_aload_n hx hb dX4_isOf_8 rfl (lv_at hl 0 rfl) ?_
    refine va_get (D := (dC, dI)) (ci := 6) (v := .ref v_keys) (C := RX4) (T := TX4) (N := 7) hx hb hts inX4_ hown hK hP 0 rfl rfl 0 (by decide) fl9_ (fun _ h9 => h9) rfl dX4_isOf_9 ?_
    refine lv_iload_n hx hb dX4_isOf_12 rfl (lv_at hl 1 rfl) ?_
    obtain ⟨h7, hf⟩ := gd_T hf
    refine va_iald hx hb hK hP 1 0 rfl rfl h7 dX4_isOf_13 ?_
    refine lv_iload_n hx hb dX4_isOf_14 rfl (lv_at hl 2 rfl) ?_
    refine lv_icmp_ne (tgt := 22) hx hb dX4_isOf_15 (by decide) (fun c8 => ?_) (fun c8 => ?_)
    · have hf := ite_F c8 hf
      refine lv_iconst (v := 0) hx hb dX4_isOf_22 (by decide) ?_
      have hR := Option.some.inj hf
      subst hR
      exact W.zret (v := (0 : Int32)) hx hb hr (by decide) (fun t ht hW => ⟨⟨(0 : Int32), (), rfl, rfl, by rw [ht]; exact hP, va_K.moved hW.alike hK, hD⟩, hS.F ht⟩) hS.2.2 dX4_isOf_23
    · have hf := ite_T c8 hf
      refine lv_iconst (v := 1) hx hb dX4_isOf_18 (by decide) ?_
      refine lv_goto (tgt := 23) hx hb dX4_isOf_19 (by decide) ?_
      have hR := Option.some.inj hf
      subst hR
      exact W.zret (v := (1 : Int32)) hx hb hr (by decide) (fun t ht hW => ⟨⟨(1 : Int32), (), rfl, rfl, by rw [ht]; exact hP, va_K.moved hW.alike hK, hD⟩, hS.F ht⟩) hS.2.2 dX4_isOf_23
theorem hs_X4_isOf : yX4_isOf.cls = RX4 ∧ yX4_isOf.cls ≠ "java/lang/invoke/MethodHandle" ∧ yX4_isOf.cls ≠ "java/lang/invoke/VarHandle" ∧ (parseMethodDescriptor yX4_isOf.desc).map (fun d => d.parameters.length) = some 2 := by decide +kernel
set_option maxRecDepth 20000 in
theorem in_X4_valueOf_X4 : ∀ w ∈ wsX40, w ∈ wsX4_valueOf := by decide +kernel
def f_X4_valueOf (a1 : Int32) (V_ : tV_) : Option (Int32) :=
match V_ with
| (vkeys, vfirsts, vends, vvalues, vinferred, vgone, vmade) =>
bd_ (f_X4_has a1 (vkeys, vfirsts, vends, vvalues, vinferred, vgone, vmade)) (fun r1 =>
if r1 = 0 then
some (0 : Int32)
else
gd_ a1 60 (
some (vvalues a1.toNatClampNeg)))
abbrev rm_X4_valueOf : Room := { frames := 1, cells := 0, slots := 0, locals := 21 }
set_option maxHeartbeats 4000000 in
set_option maxRecDepth 100000 in
theorem c_X4_valueOf (l : Launch) (dC : Nat → ClassId) (dI : Nat → Nat → Nat) (cI cZ cC cJ cD : ClassId) (v0 v_keys v_firsts v_ends v_values v_inferred v_gone : Nat) (sz : Nat) (vkeys : Nat → Int32) (vfirsts : Nat → Int32) (vends : Nat → Int32) (vvalues : Nat → Int32) (vinferred : Nat → Int32) (vgone : Nat → Int32) (vmade : Int32) (a1 : Int32) (R : Int32) (hf : f_X4_valueOf a1 (vkeys, vfirsts, vends, vvalues, vinferred, vgone, vmade) = some R) : Met l yX4_valueOf wsX4_valueOf rm_X4_valueOf (Pc_ (dC, dI) (ty_ cI cZ cC cJ cD) (wV_ v0 v_keys v_firsts v_ends v_values v_inferred v_gone cI cZ vkeys vfirsts vends vvalues vinferred vgone vmade) sz [.ref v0, .int a1]) (Qi_ (dC, dI) (ty_ cI cZ cC cJ cD) R (wV_ v0 v_keys v_firsts v_ends v_values v_inferred v_gone cI cZ vkeys vfirsts vends vvalues vinferred vgone vmade) (va_A (wV_ v0 v_keys v_firsts v_ends v_values v_inferred v_gone cI cZ vkeys vfirsts vends vvalues vinferred vgone vmade) sz)) 0 0 (va_A (wV_ v0 v_keys v_firsts v_ends v_values v_inferred v_gone cI cZ vkeys vfirsts vends vvalues vinferred vgone vmade) sz) := by
  refine met_ (cc := cX4_valueOf) (maxL := 2) (ret := (some .int)) (Qcf := fun A => Qi_ (dC, dI) (ty_ cI cZ cC cJ cD) R (wV_ v0 v_keys v_firsts v_ends v_values v_inferred v_gone cI cZ vkeys vfirsts vends vvalues vinferred vgone vmade) A) (by decide) rfl (Nat.le_of_ble_eq_true rfl) ?_
  intro p e s m args below meth c A ls hx hb hr hts hown hlocks hml hA hP hK hD hl
  have hown : s.vm.findClass RX4 = some m.cls := hown
  have hl : lv_has ls 2 [(0, .ref v0), (1, .int a1)] := hl
  have hS : va_S A s.heap s.heap [] := va_S.rf
  have fl21_ : (Cond.fieldLink RX4 21 "DimensionLoader$Versions" "values" "[I").before args s = true := hts _ (List.mem_of_getElem? (i := 1) rfl)
  have inX4_ : ∀ w ∈ wsX40, w ∈ wsX4_valueOf := in_X4_valueOf_X4
  unfold f_X4_valueOf at hf
  dsimp only at hf
  refine lv_aload_n hx hb dX4_valueOf_0 rfl (lv_at hl 0 rfl) ?_
  refine lv_iload_n hx hb dX4_valueOf_1 rfl (lv_at hl 1 rfl) ?_
  obtain ⟨R2, g3, hf⟩ := bd_B hf
  obtain ⟨r1, rfl⟩ : ∃ z, z = R2 := ⟨_, rfl⟩
  have hPc := hP
  have hDc := hD
  have hFc := va_free (wc := wV_ v0 v_keys v_firsts v_ends v_values v_inferred v_gone cI cZ vkeys vfirsts vends vvalues vinferred vgone vmade) hD hS hA [0, 1, 2, 3, 4, 5, 6] rfl
  refine va_calli (va_runV (As := [.int a1]) (rest := []) ⟨hx, hb, hml, hown, hts⟩ (c_X4_has l dC dI cI cZ cC cJ cD v0 v_keys v_firsts v_ends v_values v_inferred v_gone s.heap.size vkeys vfirsts vends vvalues vinferred vgone vmade a1 r1 g3) (cwV 1 hts gX4_valueOf_X4_has rfl rfl rfl hs_X4_has ⟨Nat.le_of_ble_eq_true rfl, Nat.le_of_ble_eq_true rfl⟩) (preV_ (ci := 6) (q0 := 0) hPc hK hDc rfl rfl rfl rfl) rfl rfl hl.1 rfl (lv_room (Nat.le_of_ble_eq_true rfl)) dX4_valueOf_2 ⟨Nat.le_of_ble_eq_true rfl, Nat.le_of_ble_eq_true rfl⟩) hS (fun q _ h => hFc q h) hFc (fun z5 u t H4 locs ht hvm hw hB hz1 hk1 hS => ?_)
  have hw : r1 = z5 := hw.symm
  subst hw
  obtain ⟨hP, hD⟩ := aft_ (Wr := []) (Wc' := wV_ v0 v_keys v_firsts v_ends v_values v_inferred v_gone cI cZ vkeys vfirsts vends vvalues vinferred vgone vmade) (W2 := wV_ v0 v_keys v_firsts v_ends v_values v_inferred v_gone cI cZ vkeys vfirsts vends vvalues vinferred vgone vmade) hP hD [0, 1, 2, 3, 4, 5, 6] [] [0, 1, 2, 3, 4, 5, 6] rfl rfl (by decide) (by decide) (by decide) hk1 hFc hB ht rfl
  refine lv_if_eq (tgt := 17) hx hb dX4_valueOf_5 (by decide) (fun c6 => ?_) (fun c6 => ?_)
  · have hf := ite_T c6 hf
    refine lv_iconst (v := 0) hx hb dX4_valueOf_17 (by decide) ?_
    have hR := Option.some.inj hf
    subst hR
    exact W.iret (v := (0 : Int32)) hx hb hr (fun t ht hW => ⟨⟨(0 : Int32), (), rfl, rfl, by rw [ht]; exact hP, va_K.moved hW.alike hK, hD⟩, hS.F ht⟩) hS.2.2 dX4_valueOf_18
  · have hf := ite_F c6 hf
    refine lv_aload_n hx hb dX4_valueOf_8 rfl (lv_at hl 0 rfl) ?_
    refine va_get (D := (dC, dI)) (ci := 6) (v := .ref v_values) (C := RX4) (T := TX4) (N := 7) hx hb hts inX4_ hown hK hP 0 rfl rfl 3 (by decide) fl21_ (fun _ h9 => h9) rfl dX4_valueOf_9 ?_
    refine lv_iload_n hx hb dX4_valueOf_12 rfl (lv_at hl 1 rfl) ?_
    obtain ⟨h7, hf⟩ := gd_T hf
    refine va_iald hx hb hK hP 4 0 rfl rfl h7 dX4_valueOf_13 ?_
    refine lv_goto (tgt := 18) hx hb dX4_valueOf_14 (by decide) ?_
    have hR := Option.some.inj hf
    subst hR
    exact W.iret (v := vvalues a1.toNatClampNeg) hx hb hr (fun t ht hW => ⟨⟨vvalues a1.toNatClampNeg, (), rfl, rfl, by rw [ht]; exact hP, va_K.moved hW.alike hK, hD⟩, hS.F ht⟩) hS.2.2 dX4_valueOf_18
theorem hs_X4_valueOf : yX4_valueOf.cls = RX4 ∧ yX4_valueOf.cls ≠ "java/lang/invoke/MethodHandle" ∧ yX4_valueOf.cls ≠ "java/lang/invoke/VarHandle" ∧ (parseMethodDescriptor yX4_valueOf.desc).map (fun d => d.parameters.length) = some 1 := by decide +kernel
set_option maxRecDepth 20000 in
theorem in_X4_days_X4 : ∀ w ∈ wsX40, w ∈ wsX4_days := by decide +kernel
def f_X4_days (a1 : Int32) (V_ : tV_) : Option (Int32) :=
match V_ with
| (vkeys, vfirsts, vends, vvalues, vinferred, vgone, vmade) =>
bd_ (f_X4_has a1 (vkeys, vfirsts, vends, vvalues, vinferred, vgone, vmade)) (fun r1 =>
if r1 = 0 then
some (0 : Int32)
else
gd_ a1 60 (
gd_ a1 60 (
some ((vends a1.toNatClampNeg) - (vfirsts a1.toNatClampNeg)))))
abbrev rm_X4_days : Room := { frames := 1, cells := 0, slots := 0, locals := 21 }
set_option maxHeartbeats 4000000 in
set_option maxRecDepth 100000 in
theorem c_X4_days (l : Launch) (dC : Nat → ClassId) (dI : Nat → Nat → Nat) (cI cZ cC cJ cD : ClassId) (v0 v_keys v_firsts v_ends v_values v_inferred v_gone : Nat) (sz : Nat) (vkeys : Nat → Int32) (vfirsts : Nat → Int32) (vends : Nat → Int32) (vvalues : Nat → Int32) (vinferred : Nat → Int32) (vgone : Nat → Int32) (vmade : Int32) (a1 : Int32) (R : Int32) (hf : f_X4_days a1 (vkeys, vfirsts, vends, vvalues, vinferred, vgone, vmade) = some R) : Met l yX4_days wsX4_days rm_X4_days (Pc_ (dC, dI) (ty_ cI cZ cC cJ cD) (wV_ v0 v_keys v_firsts v_ends v_values v_inferred v_gone cI cZ vkeys vfirsts vends vvalues vinferred vgone vmade) sz [.ref v0, .int a1]) (Qi_ (dC, dI) (ty_ cI cZ cC cJ cD) R (wV_ v0 v_keys v_firsts v_ends v_values v_inferred v_gone cI cZ vkeys vfirsts vends vvalues vinferred vgone vmade) (va_A (wV_ v0 v_keys v_firsts v_ends v_values v_inferred v_gone cI cZ vkeys vfirsts vends vvalues vinferred vgone vmade) sz)) 0 0 (va_A (wV_ v0 v_keys v_firsts v_ends v_values v_inferred v_gone cI cZ vkeys vfirsts vends vvalues vinferred vgone vmade) sz) := by
  refine met_ (cc := cX4_days) (maxL := 2) (ret := (some .int)) (Qcf := fun A => Qi_ (dC, dI) (ty_ cI cZ cC cJ cD) R (wV_ v0 v_keys v_firsts v_ends v_values v_inferred v_gone cI cZ vkeys vfirsts vends vvalues vinferred vgone vmade) A) (by decide) rfl (Nat.le_of_ble_eq_true rfl) ?_
  intro p e s m args below meth c A ls hx hb hr hts hown hlocks hml hA hP hK hD hl
  have hown : s.vm.findClass RX4 = some m.cls := hown
  have hl : lv_has ls 2 [(0, .ref v0), (1, .int a1)] := hl
  have hS : va_S A s.heap s.heap [] := va_S.rf
  have fl15_ : (Cond.fieldLink RX4 15 "DimensionLoader$Versions" "firsts" "[I").before args s = true := hts _ (List.mem_of_getElem? (i := 2) rfl)
  have fl18_ : (Cond.fieldLink RX4 18 "DimensionLoader$Versions" "ends" "[I").before args s = true := hts _ (List.mem_of_getElem? (i := 1) rfl)
  have inX4_ : ∀ w ∈ wsX40, w ∈ wsX4_days := in_X4_days_X4
  unfold f_X4_days at hf
  dsimp only at hf
  refine lv_aload_n hx hb dX4_days_0 rfl (lv_at hl 0 rfl) ?_
  refine lv_iload_n hx hb dX4_days_1 rfl (lv_at hl 1 rfl) ?_
  obtain ⟨R2, g3, hf⟩ := bd_B hf
  obtain ⟨r1, rfl⟩ : ∃ z, z = R2 := ⟨_, rfl⟩
  have hPc := hP
  have hDc := hD
  have hFc := va_free (wc := wV_ v0 v_keys v_firsts v_ends v_values v_inferred v_gone cI cZ vkeys vfirsts vends vvalues vinferred vgone vmade) hD hS hA [0, 1, 2, 3, 4, 5, 6] rfl
  refine va_calli (va_runV (As := [.int a1]) (rest := []) ⟨hx, hb, hml, hown, hts⟩ (c_X4_has l dC dI cI cZ cC cJ cD v0 v_keys v_firsts v_ends v_values v_inferred v_gone s.heap.size vkeys vfirsts vends vvalues vinferred vgone vmade a1 r1 g3) (cwV 1 hts gX4_days_X4_has rfl rfl rfl hs_X4_has ⟨Nat.le_of_ble_eq_true rfl, Nat.le_of_ble_eq_true rfl⟩) (preV_ (ci := 6) (q0 := 0) hPc hK hDc rfl rfl rfl rfl) rfl rfl hl.1 rfl (lv_room (Nat.le_of_ble_eq_true rfl)) dX4_days_2 ⟨Nat.le_of_ble_eq_true rfl, Nat.le_of_ble_eq_true rfl⟩) hS (fun q _ h => hFc q h) hFc (fun z5 u t H4 locs ht hvm hw hB hz1 hk1 hS => ?_)
  have hw : r1 = z5 := hw.symm
  subst hw
  obtain ⟨hP, hD⟩ := aft_ (Wr := []) (Wc' := wV_ v0 v_keys v_firsts v_ends v_values v_inferred v_gone cI cZ vkeys vfirsts vends vvalues vinferred vgone vmade) (W2 := wV_ v0 v_keys v_firsts v_ends v_values v_inferred v_gone cI cZ vkeys vfirsts vends vvalues vinferred vgone vmade) hP hD [0, 1, 2, 3, 4, 5, 6] [] [0, 1, 2, 3, 4, 5, 6] rfl rfl (by decide) (by decide) (by decide) hk1 hFc hB ht rfl
  refine lv_if_eq (tgt := 24) hx hb dX4_days_5 (by decide) (fun c6 => ?_) (fun c6 => ?_)
  · have hf := ite_T c6 hf
    refine lv_iconst (v := 0) hx hb dX4_days_24 (by decide) ?_
    have hR := Option.some.inj hf
    subst hR
    exact W.iret (v := (0 : Int32)) hx hb hr (fun t ht hW => ⟨⟨(0 : Int32), (), rfl, rfl, by rw [ht]; exact hP, va_K.moved hW.alike hK, hD⟩, hS.F ht⟩) hS.2.2 dX4_days_25
  · have hf := ite_F c6 hf
    refine lv_aload_n hx hb dX4_days_8 rfl (lv_at hl 0 rfl) ?_
    refine va_get (D := (dC, dI)) (ci := 6) (v := .ref v_ends) (C := RX4) (T := TX4) (N := 7) hx hb hts inX4_ hown hK hP 0 rfl rfl 2 (by decide) fl18_ (fun _ h9 => h9) rfl dX4_days_9 ?_
    refine lv_iload_n hx hb dX4_days_12 rfl (lv_at hl 1 rfl) ?_
    obtain ⟨h7, hf⟩ := gd_T hf
    refine va_iald hx hb hK hP 3 0 rfl rfl h7 dX4_days_13 ?_
    refine lv_aload_n hx hb dX4_days_14 rfl (lv_at hl 0 rfl) ?_
    refine va_get (D := (dC, dI)) (ci := 6) (v := .ref v_firsts) (C := RX4) (T := TX4) (N := 7) hx hb hts inX4_ hown hK hP 0 rfl rfl 1 (by decide) fl15_ (fun _ h9 => h9) rfl dX4_days_15 ?_
    refine lv_iload_n hx hb dX4_days_18 rfl (lv_at hl 1 rfl) ?_
    obtain ⟨h8, hf⟩ := gd_T hf
    refine va_iald hx hb hK hP 2 0 rfl rfl h8 dX4_days_19 ?_
    refine lv_isub hx hb dX4_days_20 ?_
    refine lv_goto (tgt := 25) hx hb dX4_days_21 (by decide) ?_
    have hR := Option.some.inj hf
    subst hR
    exact W.iret (v := (vends a1.toNatClampNeg) - (vfirsts a1.toNatClampNeg)) hx hb hr (fun t ht hW => ⟨⟨(vends a1.toNatClampNeg) - (vfirsts a1.toNatClampNeg), (), rfl, rfl, by rw [ht]; exact hP, va_K.moved hW.alike hK, hD⟩, hS.F ht⟩) hS.2.2 dX4_days_25
theorem hs_X4_days : yX4_days.cls = RX4 ∧ yX4_days.cls ≠ "java/lang/invoke/MethodHandle" ∧ yX4_days.cls ≠ "java/lang/invoke/VarHandle" ∧ (parseMethodDescriptor yX4_days.desc).map (fun d => d.parameters.length) = some 1 := by decide +kernel
set_option maxRecDepth 20000 in
theorem in_X4_onDay_X4 : ∀ w ∈ wsX40, w ∈ wsX4_onDay := by decide +kernel
def f_X4_onDay_S2 (k_ : Int32 → Int32 → Int32 → tV_ → Option (Int32)) (l3 : Int32) (l1 : Int32) (l2 : Int32) (V_ : tV_) : Option (Int32) :=
match V_ with
| (vkeys, vfirsts, vends, vvalues, vinferred, vgone, vmade) =>
if vmade ≤ l3 then
some (-1 : Int32)
else
bd_ (f_X4_isOf l3 l1 (vkeys, vfirsts, vends, vvalues, vinferred, vgone, vmade)) (fun r3 =>
if r3 = 0 then
k_ (l3 + 1) l1 l2 (vkeys, vfirsts, vends, vvalues, vinferred, vgone, vmade)
else
gd_ l3 60 (
if l2 < (vfirsts l3.toNatClampNeg) then
k_ (l3 + 1) l1 l2 (vkeys, vfirsts, vends, vvalues, vinferred, vgone, vmade)
else
gd_ l3 60 (
if (vends l3.toNatClampNeg) ≤ l2 then
k_ (l3 + 1) l1 l2 (vkeys, vfirsts, vends, vvalues, vinferred, vgone, vmade)
else
some l3)))
def f_X4_onDay_L2 : Nat → Int32 → Int32 → Int32 → tV_ → Option (Int32)
  | 0 => fun _ _ _ _ => none
  | n + 1 => fun l3 l1 l2 V_ => f_X4_onDay_S2 (f_X4_onDay_L2 n) l3 l1 l2 V_
def f_X4_onDay (a1 : Int32) (a2 : Int32) (V_ : tV_) : Option (Int32) :=
match V_ with
| (vkeys, vfirsts, vends, vvalues, vinferred, vgone, vmade) =>
f_X4_onDay_L2 fu_ (0 : Int32) a1 a2 (vkeys, vfirsts, vends, vvalues, vinferred, vgone, vmade)
abbrev rm_X4_onDay : Room := { frames := 2, cells := 0, slots := 0, locals := 43 }
set_option maxHeartbeats 4000000 in
set_option maxRecDepth 100000 in
theorem c_X4_onDay (l : Launch) (dC : Nat → ClassId) (dI : Nat → Nat → Nat) (cI cZ cC cJ cD : ClassId) (v0 v_keys v_firsts v_ends v_values v_inferred v_gone : Nat) (sz : Nat) (vkeys : Nat → Int32) (vfirsts : Nat → Int32) (vends : Nat → Int32) (vvalues : Nat → Int32) (vinferred : Nat → Int32) (vgone : Nat → Int32) (vmade : Int32) (a1 : Int32) (a2 : Int32) (R : Int32) (hf : f_X4_onDay a1 a2 (vkeys, vfirsts, vends, vvalues, vinferred, vgone, vmade) = some R) : Met l yX4_onDay wsX4_onDay rm_X4_onDay (Pc_ (dC, dI) (ty_ cI cZ cC cJ cD) (wV_ v0 v_keys v_firsts v_ends v_values v_inferred v_gone cI cZ vkeys vfirsts vends vvalues vinferred vgone vmade) sz [.ref v0, .int a1, .int a2]) (Qi_ (dC, dI) (ty_ cI cZ cC cJ cD) R (wV_ v0 v_keys v_firsts v_ends v_values v_inferred v_gone cI cZ vkeys vfirsts vends vvalues vinferred vgone vmade) (va_A (wV_ v0 v_keys v_firsts v_ends v_values v_inferred v_gone cI cZ vkeys vfirsts vends vvalues vinferred vgone vmade) sz)) 0 0 (va_A (wV_ v0 v_keys v_firsts v_ends v_values v_inferred v_gone cI cZ vkeys vfirsts vends vvalues vinferred vgone vmade) sz) := by
  refine met_ (cc := cX4_onDay) (maxL := 4) (ret := (some .int)) (Qcf := fun A => Qi_ (dC, dI) (ty_ cI cZ cC cJ cD) R (wV_ v0 v_keys v_firsts v_ends v_values v_inferred v_gone cI cZ vkeys vfirsts vends vvalues vinferred vgone vmade) A) (by decide) rfl (Nat.le_of_ble_eq_true rfl) ?_
  intro p e s m args below meth c A ls hx hb hr hts hown hlocks hml hA hP hK hD hl
  have hown : s.vm.findClass RX4 = some m.cls := hown
  have hl : lv_has ls 4 [(0, .ref v0), (1, .int a1), (2, .int a2)] := hl
  have hS : va_S A s.heap s.heap [] := va_S.rf
  have fl15_ : (Cond.fieldLink RX4 15 "DimensionLoader$Versions" "firsts" "[I").before args s = true := hts _ (List.mem_of_getElem? (i := 2) rfl)
  have fl18_ : (Cond.fieldLink RX4 18 "DimensionLoader$Versions" "ends" "[I").before args s = true := hts _ (List.mem_of_getElem? (i := 3) rfl)
  have fl31_ : (Cond.fieldLink RX4 31 "DimensionLoader$Versions" "made" "I").before args s = true := hts _ (List.mem_of_getElem? (i := 1) rfl)
  have inX4_ : ∀ w ∈ wsX40, w ∈ wsX4_onDay := in_X4_onDay_X4
  unfold f_X4_onDay at hf
  dsimp only at hf
  refine lv_iconst (v := 0) hx hb dX4_onDay_0 (by decide) ?_
  refine lv_istore_n (lv' := [(3, .int 0), (0, .ref v0), (1, .int a1), (2, .int a2)]) hx hb dX4_onDay_1 rfl hl (by decide) rfl (fun ls hl => ?_)
  have lp2 : ∀ (n : Nat) (l3 : Int32) (l1 : Int32) (l2 : Int32) (vkeys : Nat → Int32) (vfirsts : Nat → Int32) (vends : Nat → Int32) (vvalues : Nat → Int32) (vinferred : Nat → Int32) (vgone : Nat → Int32) (vmade : Int32) (H1 : Heap) (locs : List Loc) (ls : Array Slot), f_X4_onDay_L2 n l3 l1 l2 (vkeys, vfirsts, vends, vvalues, vinferred, vgone, vmade) = some R → va_P (dC, dI) vwCl (wV_ v0 v_keys v_firsts v_ends v_values v_inferred v_gone cI cZ vkeys vfirsts vends vvalues vinferred vgone vmade) H1 → va_D A (wV_ v0 v_keys v_firsts v_ends v_values v_inferred v_gone cI cZ vkeys vfirsts vends vvalues vinferred vgone vmade) → va_S A s.heap H1 locs → lv_has ls 4 [(3, .int l3), (0, .ref v0), (1, .int l1), (2, .int l2)] → W p l e (headSpec wsX4_onDay rm_X4_onDay).room s m args below meth c H1 locs 0 0 (MQ below (Qi_ (dC, dI) (ty_ cI cZ cC cJ cD) R (wV_ v0 v_keys v_firsts v_ends v_values v_inferred v_gone cI cZ vkeys vfirsts vends vvalues vinferred vgone vmade) A) args s 0 0 A) (F0 m 2 ls []) := by
    intro n
    induction n with
    | zero => intro l3 l1 l2 vkeys vfirsts vends vvalues vinferred vgone vmade H1 locs ls hf hP hD hS hl; exact absurd hf (by simp [f_X4_onDay_L2])
    | succ n ih =>
      intro l3 l1 l2 vkeys vfirsts vends vvalues vinferred vgone vmade H1 locs ls hf hP hD hS hl
      have hf : f_X4_onDay_S2 (f_X4_onDay_L2 n) l3 l1 l2 (vkeys, vfirsts, vends, vvalues, vinferred, vgone, vmade) = some R := hf
      unfold f_X4_onDay_S2 at hf
      dsimp only at hf
      refine lv_iload_n hx hb dX4_onDay_2 rfl (lv_at hl 0 rfl) ?_
      refine lv_aload_n hx hb dX4_onDay_3 rfl (lv_at hl 1 rfl) ?_
      refine va_get (D := (dC, dI)) (ci := 6) (v := .int vmade) (C := RX4) (T := TX4) (N := 7) hx hb hts inX4_ hown hK hP 0 rfl rfl 6 (by decide) fl31_ (fun _ h9 => h9) rfl dX4_onDay_4 ?_
      refine lv_icmp_ge (tgt := 47) hx hb dX4_onDay_7 (by decide) (fun c2 => ?_) (fun c2 => ?_)
      · have hf := ite_T c2 hf
        refine lv_iconst (v := (-1)) hx hb dX4_onDay_47 (by decide) ?_
        have hR := Option.some.inj hf
        subst hR
        exact W.iret (v := (-1 : Int32)) hx hb hr (fun t ht hW => ⟨⟨(-1 : Int32), (), rfl, rfl, by rw [ht]; exact hP, va_K.moved hW.alike hK, hD⟩, hS.F ht⟩) hS.2.2 dX4_onDay_48
      · have hf := ite_F c2 hf
        refine lv_aload_n hx hb dX4_onDay_10 rfl (lv_at hl 1 rfl) ?_
        refine lv_iload_n hx hb dX4_onDay_11 rfl (lv_at hl 0 rfl) ?_
        refine lv_iload_n hx hb dX4_onDay_12 rfl (lv_at hl 2 rfl) ?_
        obtain ⟨R4, g5, hf⟩ := bd_B hf
        obtain ⟨r3, rfl⟩ : ∃ z, z = R4 := ⟨_, rfl⟩
        have hPc := hP
        have hDc := hD
        have hFc := va_free (wc := wV_ v0 v_keys v_firsts v_ends v_values v_inferred v_gone cI cZ vkeys vfirsts vends vvalues vinferred vgone vmade) hD hS hA [0, 1, 2, 3, 4, 5, 6] rfl
        refine va_calli (va_runV (As := [.int l3, .int l1]) (rest := []) ⟨hx, hb, hml, hown, hts⟩ (c_X4_isOf l dC dI cI cZ cC cJ cD v0 v_keys v_firsts v_ends v_values v_inferred v_gone H1.size vkeys vfirsts vends vvalues vinferred vgone vmade l3 l1 r3 g5) (cwV 2 hts gX4_onDay_X4_isOf rfl rfl rfl hs_X4_isOf ⟨Nat.le_of_ble_eq_true rfl, Nat.le_of_ble_eq_true rfl⟩) (preV_ (ci := 6) (q0 := 0) hPc hK hDc rfl rfl rfl rfl) rfl rfl hl.1 rfl (lv_room (Nat.le_of_ble_eq_true rfl)) dX4_onDay_13 ⟨Nat.le_of_ble_eq_true rfl, Nat.le_of_ble_eq_true rfl⟩) hS (fun q _ h => hFc q h) hFc (fun z7 u t H6 locs ht hvm hw hB hz1 hk1 hS => ?_)
        have hw : r3 = z7 := hw.symm
        subst hw
        obtain ⟨hP, hD⟩ := aft_ (Wr := []) (Wc' := wV_ v0 v_keys v_firsts v_ends v_values v_inferred v_gone cI cZ vkeys vfirsts vends vvalues vinferred vgone vmade) (W2 := wV_ v0 v_keys v_firsts v_ends v_values v_inferred v_gone cI cZ vkeys vfirsts vends vvalues vinferred vgone vmade) hP hD [0, 1, 2, 3, 4, 5, 6] [] [0, 1, 2, 3, 4, 5, 6] rfl rfl (by decide) (by decide) (by decide) hk1 hFc hB ht rfl
        refine lv_if_eq (tgt := 41) hx hb dX4_onDay_16 (by decide) (fun c8 => ?_) (fun c8 => ?_)
        · have hf := ite_T c8 hf
          refine lv_iinc (v := l3 + 1) (lv' := [(3, .int (l3 + 1)), (0, .ref v0), (1, .int l1), (2, .int l2)]) hx hb dX4_onDay_41 hl (k := 0) rfl (by first | rfl | decide) (by decide) rfl (fun ls hl => ?_)
          refine lv_goto (tgt := 2) hx hb dX4_onDay_44 (by decide) ?_
          exact ih (l3 + 1) l1 l2 vkeys vfirsts vends vvalues vinferred vgone vmade _ _ _ hf hP hD hS (lv_sub hl [0, 1, 2, 3] rfl)
        · have hf := ite_F c8 hf
          refine lv_aload_n hx hb dX4_onDay_19 rfl (lv_at hl 1 rfl) ?_
          refine va_get (D := (dC, dI)) (ci := 6) (v := .ref v_firsts) (C := RX4) (T := TX4) (N := 7) hx hb hts inX4_ hown hK hP 0 rfl rfl 1 (by decide) fl15_ (fun _ h9 => h9) rfl dX4_onDay_20 ?_
          refine lv_iload_n hx hb dX4_onDay_23 rfl (lv_at hl 0 rfl) ?_
          obtain ⟨h9, hf⟩ := gd_T hf
          refine va_iald hx hb hK hP 2 0 rfl rfl h9 dX4_onDay_24 ?_
          refine lv_iload_n hx hb dX4_onDay_25 rfl (lv_at hl 3 rfl) ?_
          refine lv_icmp_gt (tgt := 41) hx hb dX4_onDay_26 (by decide) (fun c10 => ?_) (fun c10 => ?_)
          · have hf := ite_T c10 hf
            refine lv_iinc (v := l3 + 1) (lv' := [(3, .int (l3 + 1)), (0, .ref v0), (1, .int l1), (2, .int l2)]) hx hb dX4_onDay_41 hl (k := 0) rfl (by first | rfl | decide) (by decide) rfl (fun ls hl => ?_)
            refine lv_goto (tgt := 2) hx hb dX4_onDay_44 (by decide) ?_
            exact ih (l3 + 1) l1 l2 vkeys vfirsts vends vvalues vinferred vgone vmade _ _ _ hf hP hD hS (lv_sub hl [0, 1, 2, 3] rfl)
          · have hf := ite_F c10 hf
            refine lv_iload_n hx hb dX4_onDay_29 rfl (lv_at hl 3 rfl) ?_
            refine lv_aload_n hx hb dX4_onDay_30 rfl (lv_at hl 1 rfl) ?_
            refine va_get (D := (dC, dI)) (ci := 6) (v := .ref v_ends) (C := RX4) (T := TX4) (N := 7) hx hb hts inX4_ hown hK hP 0 rfl rfl 2 (by decide) fl18_ (fun _ h9 => h9) rfl dX4_onDay_31 ?_
            refine lv_iload_n hx hb dX4_onDay_34 rfl (lv_at hl 0 rfl) ?_
            obtain ⟨h11, hf⟩ := gd_T hf
            refine va_iald hx hb hK hP 3 0 rfl rfl h11 dX4_onDay_35 ?_
            refine lv_icmp_ge (tgt := 41) hx hb dX4_onDay_36 (by decide) (fun c12 => ?_) (fun c12 => ?_)
            · have hf := ite_T c12 hf
              refine lv_iinc (v := l3 + 1) (lv' := [(3, .int (l3 + 1)), (0, .ref v0), (1, .int l1), (2, .int l2)]) hx hb dX4_onDay_41 hl (k := 0) rfl (by first | rfl | decide) (by decide) rfl (fun ls hl => ?_)
              refine lv_goto (tgt := 2) hx hb dX4_onDay_44 (by decide) ?_
              exact ih (l3 + 1) l1 l2 vkeys vfirsts vends vvalues vinferred vgone vmade _ _ _ hf hP hD hS (lv_sub hl [0, 1, 2, 3] rfl)
            · have hf := ite_F c12 hf
              refine lv_iload_n hx hb dX4_onDay_39 rfl (lv_at hl 0 rfl) ?_
              have hR := Option.some.inj hf
              subst hR
              exact W.iret (v := l3) hx hb hr (fun t ht hW => ⟨⟨l3, (), rfl, rfl, by rw [ht]; exact hP, va_K.moved hW.alike hK, hD⟩, hS.F ht⟩) hS.2.2 dX4_onDay_40
  exact lp2 fu_ (0 : Int32) a1 a2 vkeys vfirsts vends vvalues vinferred vgone vmade _ _ _ hf hP hD hS hl
theorem hs_X4_onDay : yX4_onDay.cls = RX4 ∧ yX4_onDay.cls ≠ "java/lang/invoke/MethodHandle" ∧ yX4_onDay.cls ≠ "java/lang/invoke/VarHandle" ∧ (parseMethodDescriptor yX4_onDay.desc).map (fun d => d.parameters.length) = some 2 := by decide +kernel
set_option maxRecDepth 20000 in
theorem in_X4_next_X4 : ∀ w ∈ wsX40, w ∈ wsX4_next := by decide +kernel
def f_X4_next_S5 (k_ : Int32 → Int32 → Int32 → Int32 → tV_ → Option (Int32)) (l4 : Int32) (l3 : Int32) (l1 : Int32) (l2 : Int32) (V_ : tV_) : Option (Int32) :=
match V_ with
| (vkeys, vfirsts, vends, vvalues, vinferred, vgone, vmade) =>
if vmade ≤ l4 then
some l3
else
bd_ (f_X4_isOf l4 l1 (vkeys, vfirsts, vends, vvalues, vinferred, vgone, vmade)) (fun r3 =>
if r3 = 0 then
k_ (l4 + 1) l3 l1 l2 (vkeys, vfirsts, vends, vvalues, vinferred, vgone, vmade)
else
gd_ l4 60 (
if (vfirsts l4.toNatClampNeg) ≤ l2 then
k_ (l4 + 1) l3 l1 l2 (vkeys, vfirsts, vends, vvalues, vinferred, vgone, vmade)
else
if l3 = (-1) then
k_ (l4 + 1) l4 l1 l2 (vkeys, vfirsts, vends, vvalues, vinferred, vgone, vmade)
else
gd_ l4 60 (
gd_ l3 60 (
if (vfirsts l3.toNatClampNeg) ≤ (vfirsts l4.toNatClampNeg) then
k_ (l4 + 1) l3 l1 l2 (vkeys, vfirsts, vends, vvalues, vinferred, vgone, vmade)
else
k_ (l4 + 1) l4 l1 l2 (vkeys, vfirsts, vends, vvalues, vinferred, vgone, vmade)))))
def f_X4_next_L5 : Nat → Int32 → Int32 → Int32 → Int32 → tV_ → Option (Int32)
  | 0 => fun _ _ _ _ _ => none
  | n + 1 => fun l4 l3 l1 l2 V_ => f_X4_next_S5 (f_X4_next_L5 n) l4 l3 l1 l2 V_
def f_X4_next (a1 : Int32) (a2 : Int32) (V_ : tV_) : Option (Int32) :=
match V_ with
| (vkeys, vfirsts, vends, vvalues, vinferred, vgone, vmade) =>
f_X4_next_L5 fu_ (0 : Int32) (-1 : Int32) a1 a2 (vkeys, vfirsts, vends, vvalues, vinferred, vgone, vmade)
abbrev rm_X4_next : Room := { frames := 2, cells := 0, slots := 0, locals := 43 }
set_option maxHeartbeats 4000000 in
set_option maxRecDepth 100000 in
theorem c_X4_next (l : Launch) (dC : Nat → ClassId) (dI : Nat → Nat → Nat) (cI cZ cC cJ cD : ClassId) (v0 v_keys v_firsts v_ends v_values v_inferred v_gone : Nat) (sz : Nat) (vkeys : Nat → Int32) (vfirsts : Nat → Int32) (vends : Nat → Int32) (vvalues : Nat → Int32) (vinferred : Nat → Int32) (vgone : Nat → Int32) (vmade : Int32) (a1 : Int32) (a2 : Int32) (R : Int32) (hf : f_X4_next a1 a2 (vkeys, vfirsts, vends, vvalues, vinferred, vgone, vmade) = some R) : Met l yX4_next wsX4_next rm_X4_next (Pc_ (dC, dI) (ty_ cI cZ cC cJ cD) (wV_ v0 v_keys v_firsts v_ends v_values v_inferred v_gone cI cZ vkeys vfirsts vends vvalues vinferred vgone vmade) sz [.ref v0, .int a1, .int a2]) (Qi_ (dC, dI) (ty_ cI cZ cC cJ cD) R (wV_ v0 v_keys v_firsts v_ends v_values v_inferred v_gone cI cZ vkeys vfirsts vends vvalues vinferred vgone vmade) (va_A (wV_ v0 v_keys v_firsts v_ends v_values v_inferred v_gone cI cZ vkeys vfirsts vends vvalues vinferred vgone vmade) sz)) 0 0 (va_A (wV_ v0 v_keys v_firsts v_ends v_values v_inferred v_gone cI cZ vkeys vfirsts vends vvalues vinferred vgone vmade) sz) := by
  refine met_ (cc := cX4_next) (maxL := 5) (ret := (some .int)) (Qcf := fun A => Qi_ (dC, dI) (ty_ cI cZ cC cJ cD) R (wV_ v0 v_keys v_firsts v_ends v_values v_inferred v_gone cI cZ vkeys vfirsts vends vvalues vinferred vgone vmade) A) (by decide) rfl (Nat.le_of_ble_eq_true rfl) ?_
  intro p e s m args below meth c A ls hx hb hr hts hown hlocks hml hA hP hK hD hl
  have hown : s.vm.findClass RX4 = some m.cls := hown
  have hl : lv_has ls 5 [(0, .ref v0), (1, .int a1), (2, .int a2)] := hl
  have hS : va_S A s.heap s.heap [] := va_S.rf
  have fl15_ : (Cond.fieldLink RX4 15 "DimensionLoader$Versions" "firsts" "[I").before args s = true := hts _ (List.mem_of_getElem? (i := 2) rfl)
  have fl31_ : (Cond.fieldLink RX4 31 "DimensionLoader$Versions" "made" "I").before args s = true := hts _ (List.mem_of_getElem? (i := 1) rfl)
  have inX4_ : ∀ w ∈ wsX40, w ∈ wsX4_next := in_X4_next_X4
  unfold f_X4_next at hf
  dsimp only at hf
  refine lv_iconst (v := (-1)) hx hb dX4_next_0 (by decide) ?_
  refine lv_istore_n (lv' := [(3, .int (-1)), (0, .ref v0), (1, .int a1), (2, .int a2)]) hx hb dX4_next_1 rfl hl (by decide) rfl (fun ls hl => ?_)
  refine lv_iconst (v := 0) hx hb dX4_next_2 (by decide) ?_
  refine lv_istore (lv' := [(4, .int 0), (3, .int (-1)), (0, .ref v0), (1, .int a1), (2, .int a2)]) hx hb dX4_next_3 hl (by decide) rfl (fun ls hl => ?_)
  have lp5 : ∀ (n : Nat) (l4 : Int32) (l3 : Int32) (l1 : Int32) (l2 : Int32) (vkeys : Nat → Int32) (vfirsts : Nat → Int32) (vends : Nat → Int32) (vvalues : Nat → Int32) (vinferred : Nat → Int32) (vgone : Nat → Int32) (vmade : Int32) (H1 : Heap) (locs : List Loc) (ls : Array Slot), f_X4_next_L5 n l4 l3 l1 l2 (vkeys, vfirsts, vends, vvalues, vinferred, vgone, vmade) = some R → va_P (dC, dI) vwCl (wV_ v0 v_keys v_firsts v_ends v_values v_inferred v_gone cI cZ vkeys vfirsts vends vvalues vinferred vgone vmade) H1 → va_D A (wV_ v0 v_keys v_firsts v_ends v_values v_inferred v_gone cI cZ vkeys vfirsts vends vvalues vinferred vgone vmade) → va_S A s.heap H1 locs → lv_has ls 5 [(4, .int l4), (3, .int l3), (0, .ref v0), (1, .int l1), (2, .int l2)] → W p l e (headSpec wsX4_next rm_X4_next).room s m args below meth c H1 locs 0 0 (MQ below (Qi_ (dC, dI) (ty_ cI cZ cC cJ cD) R (wV_ v0 v_keys v_firsts v_ends v_values v_inferred v_gone cI cZ vkeys vfirsts vends vvalues vinferred vgone vmade) A) args s 0 0 A) (F0 m 5 ls []) := by
    intro n
    induction n with
    | zero => intro l4 l3 l1 l2 vkeys vfirsts vends vvalues vinferred vgone vmade H1 locs ls hf hP hD hS hl; exact absurd hf (by simp [f_X4_next_L5])
    | succ n ih =>
      intro l4 l3 l1 l2 vkeys vfirsts vends vvalues vinferred vgone vmade H1 locs ls hf hP hD hS hl
      have hf : f_X4_next_S5 (f_X4_next_L5 n) l4 l3 l1 l2 (vkeys, vfirsts, vends, vvalues, vinferred, vgone, vmade) = some R := hf
      unfold f_X4_next_S5 at hf
      dsimp only at hf
      refine lv_iload hx hb dX4_next_5 (lv_at hl 0 rfl) ?_
      refine lv_aload_n hx hb dX4_next_7 rfl (lv_at hl 2 rfl) ?_
      refine va_get (D := (dC, dI)) (ci := 6) (v := .int vmade) (C := RX4) (T := TX4) (N := 7) hx hb hts inX4_ hown hK hP 0 rfl rfl 6 (by decide) fl31_ (fun _ h9 => h9) rfl dX4_next_8 ?_
      refine lv_icmp_ge (tgt := 65) hx hb dX4_next_11 (by decide) (fun c2 => ?_) (fun c2 => ?_)
      · have hf := ite_T c2 hf
        refine lv_iload_n hx hb dX4_next_65 rfl (lv_at hl 1 rfl) ?_
        have hR := Option.some.inj hf
        subst hR
        exact W.iret (v := l3) hx hb hr (fun t ht hW => ⟨⟨l3, (), rfl, rfl, by rw [ht]; exact hP, va_K.moved hW.alike hK, hD⟩, hS.F ht⟩) hS.2.2 dX4_next_66
      · have hf := ite_F c2 hf
        refine lv_aload_n hx hb dX4_next_14 rfl (lv_at hl 2 rfl) ?_
        refine lv_iload hx hb dX4_next_15 (lv_at hl 0 rfl) ?_
        refine lv_iload_n hx hb dX4_next_17 rfl (lv_at hl 3 rfl) ?_
        obtain ⟨R4, g5, hf⟩ := bd_B hf
        obtain ⟨r3, rfl⟩ : ∃ z, z = R4 := ⟨_, rfl⟩
        have hPc := hP
        have hDc := hD
        have hFc := va_free (wc := wV_ v0 v_keys v_firsts v_ends v_values v_inferred v_gone cI cZ vkeys vfirsts vends vvalues vinferred vgone vmade) hD hS hA [0, 1, 2, 3, 4, 5, 6] rfl
        refine va_calli (va_runV (As := [.int l4, .int l1]) (rest := []) ⟨hx, hb, hml, hown, hts⟩ (c_X4_isOf l dC dI cI cZ cC cJ cD v0 v_keys v_firsts v_ends v_values v_inferred v_gone H1.size vkeys vfirsts vends vvalues vinferred vgone vmade l4 l1 r3 g5) (cwV 2 hts gX4_next_X4_isOf rfl rfl rfl hs_X4_isOf ⟨Nat.le_of_ble_eq_true rfl, Nat.le_of_ble_eq_true rfl⟩) (preV_ (ci := 6) (q0 := 0) hPc hK hDc rfl rfl rfl rfl) rfl rfl hl.1 rfl (lv_room (Nat.le_of_ble_eq_true rfl)) dX4_next_18 ⟨Nat.le_of_ble_eq_true rfl, Nat.le_of_ble_eq_true rfl⟩) hS (fun q _ h => hFc q h) hFc (fun z7 u t H6 locs ht hvm hw hB hz1 hk1 hS => ?_)
        have hw : r3 = z7 := hw.symm
        subst hw
        obtain ⟨hP, hD⟩ := aft_ (Wr := []) (Wc' := wV_ v0 v_keys v_firsts v_ends v_values v_inferred v_gone cI cZ vkeys vfirsts vends vvalues vinferred vgone vmade) (W2 := wV_ v0 v_keys v_firsts v_ends v_values v_inferred v_gone cI cZ vkeys vfirsts vends vvalues vinferred vgone vmade) hP hD [0, 1, 2, 3, 4, 5, 6] [] [0, 1, 2, 3, 4, 5, 6] rfl rfl (by decide) (by decide) (by decide) hk1 hFc hB ht rfl
        refine lv_if_eq (tgt := 59) hx hb dX4_next_21 (by decide) (fun c8 => ?_) (fun c8 => ?_)
        · have hf := ite_T c8 hf
          refine lv_iinc (v := l4 + 1) (lv' := [(4, .int (l4 + 1)), (3, .int l3), (0, .ref v0), (1, .int l1), (2, .int l2)]) hx hb dX4_next_59 hl (k := 0) rfl (by first | rfl | decide) (by decide) rfl (fun ls hl => ?_)
          refine lv_goto (tgt := 5) hx hb dX4_next_62 (by decide) ?_
          exact ih (l4 + 1) l3 l1 l2 vkeys vfirsts vends vvalues vinferred vgone vmade _ _ _ hf hP hD hS (lv_sub hl [0, 1, 2, 3, 4] rfl)
        · have hf := ite_F c8 hf
          refine lv_aload_n hx hb dX4_next_24 rfl (lv_at hl 2 rfl) ?_
          refine va_get (D := (dC, dI)) (ci := 6) (v := .ref v_firsts) (C := RX4) (T := TX4) (N := 7) hx hb hts inX4_ hown hK hP 0 rfl rfl 1 (by decide) fl15_ (fun _ h9 => h9) rfl dX4_next_25 ?_
          refine lv_iload hx hb dX4_next_28 (lv_at hl 0 rfl) ?_
          obtain ⟨h9, hf⟩ := gd_T hf
          refine va_iald hx hb hK hP 2 0 rfl rfl h9 dX4_next_30 ?_
          refine lv_iload_n hx hb dX4_next_31 rfl (lv_at hl 4 rfl) ?_
          refine lv_icmp_le (tgt := 59) hx hb dX4_next_32 (by decide) (fun c10 => ?_) (fun c10 => ?_)
          · have hf := ite_T c10 hf
            refine lv_iinc (v := l4 + 1) (lv' := [(4, .int (l4 + 1)), (3, .int l3), (0, .ref v0), (1, .int l1), (2, .int l2)]) hx hb dX4_next_59 hl (k := 0) rfl (by first | rfl | decide) (by decide) rfl (fun ls hl => ?_)
            refine lv_goto (tgt := 5) hx hb dX4_next_62 (by decide) ?_
            exact ih (l4 + 1) l3 l1 l2 vkeys vfirsts vends vvalues vinferred vgone vmade _ _ _ hf hP hD hS (lv_sub hl [0, 1, 2, 3, 4] rfl)
          · have hf := ite_F c10 hf
            refine lv_iload_n hx hb dX4_next_35 rfl (lv_at hl 1 rfl) ?_
            refine lv_iconst (v := (-1)) hx hb dX4_next_36 (by decide) ?_
            refine lv_icmp_eq (tgt := 56) hx hb dX4_next_37 (by decide) (fun c11 => ?_) (fun c11 => ?_)
            · have hf := ite_T c11 hf
              refine lv_iload hx hb dX4_next_56 (lv_at hl 0 rfl) ?_
              refine lv_istore_n (lv' := [(3, .int l4), (4, .int l4), (0, .ref v0), (1, .int l1), (2, .int l2)]) hx hb dX4_next_58 rfl hl (by decide) rfl (fun ls hl => ?_)
              refine lv_iinc (v := l4 + 1) (lv' := [(4, .int (l4 + 1)), (3, .int l4), (0, .ref v0), (1, .int l1), (2, .int l2)]) hx hb dX4_next_59 hl (k := 1) rfl (by first | rfl | decide) (by decide) rfl (fun ls hl => ?_)
              refine lv_goto (tgt := 5) hx hb dX4_next_62 (by decide) ?_
              exact ih (l4 + 1) l4 l1 l2 vkeys vfirsts vends vvalues vinferred vgone vmade _ _ _ hf hP hD hS (lv_sub hl [0, 1, 2, 3, 4] rfl)
            · have hf := ite_F c11 hf
              refine lv_aload_n hx hb dX4_next_40 rfl (lv_at hl 2 rfl) ?_
              refine va_get (D := (dC, dI)) (ci := 6) (v := .ref v_firsts) (C := RX4) (T := TX4) (N := 7) hx hb hts inX4_ hown hK hP 0 rfl rfl 1 (by decide) fl15_ (fun _ h9 => h9) rfl dX4_next_41 ?_
              refine lv_iload hx hb dX4_next_44 (lv_at hl 0 rfl) ?_
              obtain ⟨h12, hf⟩ := gd_T hf
              refine va_iald hx hb hK hP 2 0 rfl rfl h12 dX4_next_46 ?_
              refine lv_aload_n hx hb dX4_next_47 rfl (lv_at hl 2 rfl) ?_
              refine va_get (D := (dC, dI)) (ci := 6) (v := .ref v_firsts) (C := RX4) (T := TX4) (N := 7) hx hb hts inX4_ hown hK hP 0 rfl rfl 1 (by decide) fl15_ (fun _ h9 => h9) rfl dX4_next_48 ?_
              refine lv_iload_n hx hb dX4_next_51 rfl (lv_at hl 1 rfl) ?_
              obtain ⟨h13, hf⟩ := gd_T hf
              refine va_iald hx hb hK hP 2 0 rfl rfl h13 dX4_next_52 ?_
              refine lv_icmp_ge (tgt := 59) hx hb dX4_next_53 (by decide) (fun c14 => ?_) (fun c14 => ?_)
              · have hf := ite_T c14 hf
                refine lv_iinc (v := l4 + 1) (lv' := [(4, .int (l4 + 1)), (3, .int l3), (0, .ref v0), (1, .int l1), (2, .int l2)]) hx hb dX4_next_59 hl (k := 0) rfl (by first | rfl | decide) (by decide) rfl (fun ls hl => ?_)
                refine lv_goto (tgt := 5) hx hb dX4_next_62 (by decide) ?_
                exact ih (l4 + 1) l3 l1 l2 vkeys vfirsts vends vvalues vinferred vgone vmade _ _ _ hf hP hD hS (lv_sub hl [0, 1, 2, 3, 4] rfl)
              · have hf := ite_F c14 hf
                refine lv_iload hx hb dX4_next_56 (lv_at hl 0 rfl) ?_
                refine lv_istore_n (lv' := [(3, .int l4), (4, .int l4), (0, .ref v0), (1, .int l1), (2, .int l2)]) hx hb dX4_next_58 rfl hl (by decide) rfl (fun ls hl => ?_)
                refine lv_iinc (v := l4 + 1) (lv' := [(4, .int (l4 + 1)), (3, .int l4), (0, .ref v0), (1, .int l1), (2, .int l2)]) hx hb dX4_next_59 hl (k := 1) rfl (by first | rfl | decide) (by decide) rfl (fun ls hl => ?_)
                refine lv_goto (tgt := 5) hx hb dX4_next_62 (by decide) ?_
                exact ih (l4 + 1) l4 l1 l2 vkeys vfirsts vends vvalues vinferred vgone vmade _ _ _ hf hP hD hS (lv_sub hl [0, 1, 2, 3, 4] rfl)
  exact lp5 fu_ (0 : Int32) (-1 : Int32) a1 a2 vkeys vfirsts vends vvalues vinferred vgone vmade _ _ _ hf hP hD hS hl
theorem hs_X4_next : yX4_next.cls = RX4 ∧ yX4_next.cls ≠ "java/lang/invoke/MethodHandle" ∧ yX4_next.cls ≠ "java/lang/invoke/VarHandle" ∧ (parseMethodDescriptor yX4_next.desc).map (fun d => d.parameters.length) = some 2 := by decide +kernel
set_option maxRecDepth 20000 in
theorem in_X4_nextFirst_X4 : ∀ w ∈ wsX40, w ∈ wsX4_nextFirst := by decide +kernel
def f_X4_nextFirst (a1 : Int32) (a2 : Int32) (V_ : tV_) : Option (Int32) :=
match V_ with
| (vkeys, vfirsts, vends, vvalues, vinferred, vgone, vmade) =>
bd_ (f_X4_next a1 a2 (vkeys, vfirsts, vends, vvalues, vinferred, vgone, vmade)) (fun r1 =>
if r1 = (-1) then
some (1000 : Int32)
else
gd_ r1 60 (
some (vfirsts r1.toNatClampNeg)))
abbrev rm_X4_nextFirst : Room := { frames := 3, cells := 0, slots := 0, locals := 67 }
set_option maxHeartbeats 4000000 in
set_option maxRecDepth 100000 in
theorem c_X4_nextFirst (l : Launch) (dC : Nat → ClassId) (dI : Nat → Nat → Nat) (cI cZ cC cJ cD : ClassId) (v0 v_keys v_firsts v_ends v_values v_inferred v_gone : Nat) (sz : Nat) (vkeys : Nat → Int32) (vfirsts : Nat → Int32) (vends : Nat → Int32) (vvalues : Nat → Int32) (vinferred : Nat → Int32) (vgone : Nat → Int32) (vmade : Int32) (a1 : Int32) (a2 : Int32) (R : Int32) (hf : f_X4_nextFirst a1 a2 (vkeys, vfirsts, vends, vvalues, vinferred, vgone, vmade) = some R) : Met l yX4_nextFirst wsX4_nextFirst rm_X4_nextFirst (Pc_ (dC, dI) (ty_ cI cZ cC cJ cD) (wV_ v0 v_keys v_firsts v_ends v_values v_inferred v_gone cI cZ vkeys vfirsts vends vvalues vinferred vgone vmade) sz [.ref v0, .int a1, .int a2]) (Qi_ (dC, dI) (ty_ cI cZ cC cJ cD) R (wV_ v0 v_keys v_firsts v_ends v_values v_inferred v_gone cI cZ vkeys vfirsts vends vvalues vinferred vgone vmade) (va_A (wV_ v0 v_keys v_firsts v_ends v_values v_inferred v_gone cI cZ vkeys vfirsts vends vvalues vinferred vgone vmade) sz)) 0 0 (va_A (wV_ v0 v_keys v_firsts v_ends v_values v_inferred v_gone cI cZ vkeys vfirsts vends vvalues vinferred vgone vmade) sz) := by
  refine met_ (cc := cX4_nextFirst) (maxL := 4) (ret := (some .int)) (Qcf := fun A => Qi_ (dC, dI) (ty_ cI cZ cC cJ cD) R (wV_ v0 v_keys v_firsts v_ends v_values v_inferred v_gone cI cZ vkeys vfirsts vends vvalues vinferred vgone vmade) A) (by decide) rfl (Nat.le_of_ble_eq_true rfl) ?_
  intro p e s m args below meth c A ls hx hb hr hts hown hlocks hml hA hP hK hD hl
  have hown : s.vm.findClass RX4 = some m.cls := hown
  have hl : lv_has ls 4 [(0, .ref v0), (1, .int a1), (2, .int a2)] := hl
  have hS : va_S A s.heap s.heap [] := va_S.rf
  have fl15_ : (Cond.fieldLink RX4 15 "DimensionLoader$Versions" "firsts" "[I").before args s = true := hts _ (List.mem_of_getElem? (i := 1) rfl)
  have inX4_ : ∀ w ∈ wsX40, w ∈ wsX4_nextFirst := in_X4_nextFirst_X4
  unfold f_X4_nextFirst at hf
  dsimp only at hf
  refine lv_aload_n hx hb dX4_nextFirst_0 rfl (lv_at hl 0 rfl) ?_
  refine lv_iload_n hx hb dX4_nextFirst_1 rfl (lv_at hl 1 rfl) ?_
  refine lv_iload_n hx hb dX4_nextFirst_2 rfl (lv_at hl 2 rfl) ?_
  obtain ⟨R2, g3, hf⟩ := bd_B hf
  obtain ⟨r1, rfl⟩ : ∃ z, z = R2 := ⟨_, rfl⟩
  have hPc := hP
  have hDc := hD
  have hFc := va_free (wc := wV_ v0 v_keys v_firsts v_ends v_values v_inferred v_gone cI cZ vkeys vfirsts vends vvalues vinferred vgone vmade) hD hS hA [0, 1, 2, 3, 4, 5, 6] rfl
  refine va_calli (va_runV (As := [.int a1, .int a2]) (rest := []) ⟨hx, hb, hml, hown, hts⟩ (c_X4_next l dC dI cI cZ cC cJ cD v0 v_keys v_firsts v_ends v_values v_inferred v_gone s.heap.size vkeys vfirsts vends vvalues vinferred vgone vmade a1 a2 r1 g3) (cwV 2 hts gX4_nextFirst_X4_next rfl rfl rfl hs_X4_next ⟨Nat.le_of_ble_eq_true rfl, Nat.le_of_ble_eq_true rfl⟩) (preV_ (ci := 6) (q0 := 0) hPc hK hDc rfl rfl rfl rfl) rfl rfl hl.1 rfl (lv_room (Nat.le_of_ble_eq_true rfl)) dX4_nextFirst_3 ⟨Nat.le_of_ble_eq_true rfl, Nat.le_of_ble_eq_true rfl⟩) hS (fun q _ h => hFc q h) hFc (fun z5 u t H4 locs ht hvm hw hB hz1 hk1 hS => ?_)
  have hw : r1 = z5 := hw.symm
  subst hw
  obtain ⟨hP, hD⟩ := aft_ (Wr := []) (Wc' := wV_ v0 v_keys v_firsts v_ends v_values v_inferred v_gone cI cZ vkeys vfirsts vends vvalues vinferred vgone vmade) (W2 := wV_ v0 v_keys v_firsts v_ends v_values v_inferred v_gone cI cZ vkeys vfirsts vends vvalues vinferred vgone vmade) hP hD [0, 1, 2, 3, 4, 5, 6] [] [0, 1, 2, 3, 4, 5, 6] rfl rfl (by decide) (by decide) (by decide) hk1 hFc hB ht rfl
  refine lv_istore_n (lv' := [(3, .int r1), (0, .ref v0), (1, .int a1), (2, .int a2)]) hx hb dX4_nextFirst_6 rfl hl (by decide) rfl (fun ls hl => ?_)
  refine lv_iload_n hx hb dX4_nextFirst_7 rfl (lv_at hl 0 rfl) ?_
  refine lv_iconst (v := (-1)) hx hb dX4_nextFirst_8 (by decide) ?_
  refine lv_icmp_ne (tgt := 18) hx hb dX4_nextFirst_9 (by decide) (fun c6 => ?_) (fun c6 => ?_)
  · have hf := ite_F c6 hf
    refine lv_aload_n hx hb dX4_nextFirst_18 rfl (lv_at hl 1 rfl) ?_
    refine va_get (D := (dC, dI)) (ci := 6) (v := .ref v_firsts) (C := RX4) (T := TX4) (N := 7) hx hb hts inX4_ hown hK hP 0 rfl rfl 1 (by decide) fl15_ (fun _ h9 => h9) rfl dX4_nextFirst_19 ?_
    refine lv_iload_n hx hb dX4_nextFirst_22 rfl (lv_at hl 0 rfl) ?_
    obtain ⟨h7, hf⟩ := gd_T hf
    refine va_iald hx hb hK hP 2 0 rfl rfl h7 dX4_nextFirst_23 ?_
    have hR := Option.some.inj hf
    subst hR
    exact W.iret (v := vfirsts r1.toNatClampNeg) hx hb hr (fun t ht hW => ⟨⟨vfirsts r1.toNatClampNeg, (), rfl, rfl, by rw [ht]; exact hP, va_K.moved hW.alike hK, hD⟩, hS.F ht⟩) hS.2.2 dX4_nextFirst_24
  · have hf := ite_T c6 hf
    refine lv_sipush (v := 1000) hx hb dX4_nextFirst_12 (by decide) ?_
    refine lv_goto (tgt := 24) hx hb dX4_nextFirst_15 (by decide) ?_
    have hR := Option.some.inj hf
    subst hR
    exact W.iret (v := (1000 : Int32)) hx hb hr (fun t ht hW => ⟨⟨(1000 : Int32), (), rfl, rfl, by rw [ht]; exact hP, va_K.moved hW.alike hK, hD⟩, hS.F ht⟩) hS.2.2 dX4_nextFirst_24
theorem hs_X4_nextFirst : yX4_nextFirst.cls = RX4 ∧ yX4_nextFirst.cls ≠ "java/lang/invoke/MethodHandle" ∧ yX4_nextFirst.cls ≠ "java/lang/invoke/VarHandle" ∧ (parseMethodDescriptor yX4_nextFirst.desc).map (fun d => d.parameters.length) = some 2 := by decide +kernel
set_option maxRecDepth 20000 in
theorem in_X4_make_X4 : ∀ w ∈ wsX40, w ∈ wsX4_make := by decide +kernel
def f_X4_make (a1 : Int32) (a2 : Int32) (a3 : Int32) (V_ : tV_) : Option (Int32 × tV_) :=
match V_ with
| (vkeys, vfirsts, vends, vvalues, vinferred, vgone, vmade) =>
if vmade < 60 then
gd_ vmade 60 (nm_ (upd vkeys vmade.toNatClampNeg a1) (fun u5 =>
gd_ vmade 60 (nm_ (upd vfirsts vmade.toNatClampNeg a2) (fun u9 =>
gd_ vmade 60 (nm_ (upd vends vmade.toNatClampNeg a3) (fun u13 =>
gd_ vmade 60 (nm_ (upd vvalues vmade.toNatClampNeg (0 : Int32)) (fun u17 =>
gd_ vmade 60 (nm_ (upd vinferred vmade.toNatClampNeg (vp_nar .boolean (1 : Int32))) (fun u21 =>
gd_ vmade 60 (nm_ (upd vgone vmade.toNatClampNeg (vp_nar .boolean (0 : Int32))) (fun u25 =>
some (vmade, (u5, u9, u13, u17, u21, u25, vmade + 1))))))))))))))
else
some ((-1 : Int32), (vkeys, vfirsts, vends, vvalues, vinferred, vgone, vmade))
abbrev rm_X4_make : Room := { frames := 0, cells := 0, slots := 0, locals := 0 }
set_option maxHeartbeats 4000000 in
set_option maxRecDepth 100000 in
theorem c_X4_make (l : Launch) (dC : Nat → ClassId) (dI : Nat → Nat → Nat) (cI cZ cC cJ cD : ClassId) (v0 v_keys v_firsts v_ends v_values v_inferred v_gone : Nat) (sz : Nat) (vkeys : Nat → Int32) (vfirsts : Nat → Int32) (vends : Nat → Int32) (vvalues : Nat → Int32) (vinferred : Nat → Int32) (vgone : Nat → Int32) (vmade : Int32) (a1 : Int32) (a2 : Int32) (a3 : Int32) (R : Int32 × tV_) (hf : f_X4_make a1 a2 a3 (vkeys, vfirsts, vends, vvalues, vinferred, vgone, vmade) = some R) : Met l yX4_make wsX4_make rm_X4_make (Pc_ (dC, dI) (ty_ cI cZ cC cJ cD) (wV_ v0 v_keys v_firsts v_ends v_values v_inferred v_gone cI cZ vkeys vfirsts vends vvalues vinferred vgone vmade) sz [.ref v0, .int a1, .int a2, .int a3]) (Qi_ (dC, dI) (ty_ cI cZ cC cJ cD) R.1 (wV_ v0 v_keys v_firsts v_ends v_values v_inferred v_gone cI cZ R.2.1 R.2.2.1 R.2.2.2.1 R.2.2.2.2.1 R.2.2.2.2.2.1 R.2.2.2.2.2.2.1 R.2.2.2.2.2.2.2) (va_A (wV_ v0 v_keys v_firsts v_ends v_values v_inferred v_gone cI cZ vkeys vfirsts vends vvalues vinferred vgone vmade) sz)) 0 0 (va_A (wV_ v0 v_keys v_firsts v_ends v_values v_inferred v_gone cI cZ vkeys vfirsts vends vvalues vinferred vgone vmade) sz) := by
  refine met_ (cc := cX4_make) (maxL := 5) (ret := (some .int)) (Qcf := fun A => Qi_ (dC, dI) (ty_ cI cZ cC cJ cD) R.1 (wV_ v0 v_keys v_firsts v_ends v_values v_inferred v_gone cI cZ R.2.1 R.2.2.1 R.2.2.2.1 R.2.2.2.2.1 R.2.2.2.2.2.1 R.2.2.2.2.2.2.1 R.2.2.2.2.2.2.2) A) (by decide) rfl (Nat.le_of_ble_eq_true rfl) ?_
  intro p e s m args below meth c A ls hx hb hr hts hown hlocks hml hA hP hK hD hl
  have hown : s.vm.findClass RX4 = some m.cls := hown
  have hl : lv_has ls 5 [(0, .ref v0), (1, .int a1), (2, .int a2), (3, .int a3)] := hl
  have hS : va_S A s.heap s.heap [] := va_S.rf
  have fl9_ : (Cond.fieldLink RX4 9 "DimensionLoader$Versions" "keys" "[I").before args s = true := hts _ (List.mem_of_getElem? (i := 2) rfl)
  have fl15_ : (Cond.fieldLink RX4 15 "DimensionLoader$Versions" "firsts" "[I").before args s = true := hts _ (List.mem_of_getElem? (i := 3) rfl)
  have fl18_ : (Cond.fieldLink RX4 18 "DimensionLoader$Versions" "ends" "[I").before args s = true := hts _ (List.mem_of_getElem? (i := 4) rfl)
  have fl21_ : (Cond.fieldLink RX4 21 "DimensionLoader$Versions" "values" "[I").before args s = true := hts _ (List.mem_of_getElem? (i := 5) rfl)
  have fl24_ : (Cond.fieldLink RX4 24 "DimensionLoader$Versions" "inferred" "[Z").before args s = true := hts _ (List.mem_of_getElem? (i := 6) rfl)
  have fl28_ : (Cond.fieldLink RX4 28 "DimensionLoader$Versions" "gone" "[Z").before args s = true := hts _ (List.mem_of_getElem? (i := 7) rfl)
  have fl31_ : (Cond.fieldLink RX4 31 "DimensionLoader$Versions" "made" "I").before args s = true := hts _ (List.mem_of_getElem? (i := 1) rfl)
  have inX4_ : ∀ w ∈ wsX40, w ∈ wsX4_make := in_X4_make_X4
  unfold f_X4_make at hf
  dsimp only at hf
  refine lv_aload_n hx hb dX4_make_0 rfl (lv_at hl 0 rfl) ?_
  refine va_get (D := (dC, dI)) (ci := 6) (v := .int vmade) (C := RX4) (T := TX4) (N := 7) hx hb hts inX4_ hown hK hP 0 rfl rfl 6 (by decide) fl31_ (fun _ h9 => h9) rfl dX4_make_1 ?_
  refine lv_bipush (v := 60) hx hb dX4_make_4 (by decide) ?_
  refine lv_icmp_lt (tgt := 11) hx hb dX4_make_6 (by decide) (fun c1 => ?_) (fun c1 => ?_)
  · have hf := ite_T c1 hf
    refine lv_aload_n hx hb dX4_make_11 rfl (lv_at hl 0 rfl) ?_
    refine va_get (D := (dC, dI)) (ci := 6) (v := .int vmade) (C := RX4) (T := TX4) (N := 7) hx hb hts inX4_ hown hK hP 0 rfl rfl 6 (by decide) fl31_ (fun _ h9 => h9) rfl dX4_make_12 ?_
    refine lv_istore (lv' := [(4, .int vmade), (0, .ref v0), (1, .int a1), (2, .int a2), (3, .int a3)]) hx hb dX4_make_15 hl (by decide) rfl (fun ls hl => ?_)
    refine lv_aload_n hx hb dX4_make_17 rfl (lv_at hl 1 rfl) ?_
    refine lv_dup hx hb dX4_make_18 rfl ?_
    refine va_get (D := (dC, dI)) (ci := 6) (v := .int vmade) (C := RX4) (T := TX4) (N := 7) hx hb hts inX4_ hown hK hP 0 rfl rfl 6 (by decide) fl31_ (fun _ h9 => h9) rfl dX4_make_19 ?_
    refine lv_iconst (v := 1) hx hb dX4_make_22 (by decide) ?_
    refine lv_iadd hx hb dX4_make_23 ?_
    refine va_put (D := (dC, dI)) (ci := 6) (v := .int (vmade + 1)) (ty := .int) (C := RX4) (T := TX4) (N := 7) hx hb hts inX4_ tyX4 tyX4_ok nmX4 hown hK hP hD hS 0 rfl rfl 6 (by decide) fl31_ (fun _ h9 => h9) rfl (by decide +kernel) (by first | rfl | decide) (by first | rfl | decide) (Nat.le_of_ble_eq_true rfl) dX4_make_24 (fun H2 locs hP hD hS => ?_)
    have hP : va_P (dC, dI) vwCl (wV_ v0 v_keys v_firsts v_ends v_values v_inferred v_gone cI cZ vkeys vfirsts vends vvalues vinferred vgone (vmade + 1)) H2 := hP
    have hD : va_D A (wV_ v0 v_keys v_firsts v_ends v_values v_inferred v_gone cI cZ vkeys vfirsts vends vvalues vinferred vgone (vmade + 1)) := hD
    refine lv_aload_n hx hb dX4_make_27 rfl (lv_at hl 1 rfl) ?_
    refine va_get (D := (dC, dI)) (ci := 6) (v := .ref v_keys) (C := RX4) (T := TX4) (N := 7) hx hb hts inX4_ hown hK hP 0 rfl rfl 0 (by decide) fl9_ (fun _ h9 => h9) rfl dX4_make_28 ?_
    refine lv_iload hx hb dX4_make_31 (lv_at hl 0 rfl) ?_
    refine lv_iload_n hx hb dX4_make_33 rfl (lv_at hl 2 rfl) ?_
    obtain ⟨h3, hf⟩ := gd_T hf
    refine va_iast hx hb hK hP hD hS 1 0 rfl rfl h3 dX4_make_34 (fun H4 locs hP hD hS => ?_)
    have hP : va_P (dC, dI) vwCl (wV_ v0 v_keys v_firsts v_ends v_values v_inferred v_gone cI cZ (upd vkeys vmade.toNatClampNeg a1) vfirsts vends vvalues vinferred vgone (vmade + 1)) H4 := hP
    have hD : va_D A (wV_ v0 v_keys v_firsts v_ends v_values v_inferred v_gone cI cZ (upd vkeys vmade.toNatClampNeg a1) vfirsts vends vvalues vinferred vgone (vmade + 1)) := hD
    obtain ⟨u5, e6, hf⟩ := nm_T hf
    rw [← e6] at hP hD
    refine lv_aload_n hx hb dX4_make_35 rfl (lv_at hl 1 rfl) ?_
    refine va_get (D := (dC, dI)) (ci := 6) (v := .ref v_firsts) (C := RX4) (T := TX4) (N := 7) hx hb hts inX4_ hown hK hP 0 rfl rfl 1 (by decide) fl15_ (fun _ h9 => h9) rfl dX4_make_36 ?_
    refine lv_iload hx hb dX4_make_39 (lv_at hl 0 rfl) ?_
    refine lv_iload_n hx hb dX4_make_41 rfl (lv_at hl 3 rfl) ?_
    obtain ⟨h7, hf⟩ := gd_T hf
    refine va_iast hx hb hK hP hD hS 2 0 rfl rfl h7 dX4_make_42 (fun H8 locs hP hD hS => ?_)
    have hP : va_P (dC, dI) vwCl (wV_ v0 v_keys v_firsts v_ends v_values v_inferred v_gone cI cZ u5 (upd vfirsts vmade.toNatClampNeg a2) vends vvalues vinferred vgone (vmade + 1)) H8 := hP
    have hD : va_D A (wV_ v0 v_keys v_firsts v_ends v_values v_inferred v_gone cI cZ u5 (upd vfirsts vmade.toNatClampNeg a2) vends vvalues vinferred vgone (vmade + 1)) := hD
    obtain ⟨u9, e10, hf⟩ := nm_T hf
    rw [← e10] at hP hD
    refine lv_aload_n hx hb dX4_make_43 rfl (lv_at hl 1 rfl) ?_
    refine va_get (D := (dC, dI)) (ci := 6) (v := .ref v_ends) (C := RX4) (T := TX4) (N := 7) hx hb hts inX4_ hown hK hP 0 rfl rfl 2 (by decide) fl18_ (fun _ h9 => h9) rfl dX4_make_44 ?_
    refine lv_iload hx hb dX4_make_47 (lv_at hl 0 rfl) ?_
    refine lv_iload_n hx hb dX4_make_49 rfl (lv_at hl 4 rfl) ?_
    obtain ⟨h11, hf⟩ := gd_T hf
    refine va_iast hx hb hK hP hD hS 3 0 rfl rfl h11 dX4_make_50 (fun H12 locs hP hD hS => ?_)
    have hP : va_P (dC, dI) vwCl (wV_ v0 v_keys v_firsts v_ends v_values v_inferred v_gone cI cZ u5 u9 (upd vends vmade.toNatClampNeg a3) vvalues vinferred vgone (vmade + 1)) H12 := hP
    have hD : va_D A (wV_ v0 v_keys v_firsts v_ends v_values v_inferred v_gone cI cZ u5 u9 (upd vends vmade.toNatClampNeg a3) vvalues vinferred vgone (vmade + 1)) := hD
    obtain ⟨u13, e14, hf⟩ := nm_T hf
    rw [← e14] at hP hD
    refine lv_aload_n hx hb dX4_make_51 rfl (lv_at hl 1 rfl) ?_
    refine va_get (D := (dC, dI)) (ci := 6) (v := .ref v_values) (C := RX4) (T := TX4) (N := 7) hx hb hts inX4_ hown hK hP 0 rfl rfl 3 (by decide) fl21_ (fun _ h9 => h9) rfl dX4_make_52 ?_
    refine lv_iload hx hb dX4_make_55 (lv_at hl 0 rfl) ?_
    refine lv_iconst (v := 0) hx hb dX4_make_57 (by decide) ?_
    obtain ⟨h15, hf⟩ := gd_T hf
    refine va_iast hx hb hK hP hD hS 4 0 rfl rfl h15 dX4_make_58 (fun H16 locs hP hD hS => ?_)
    have hP : va_P (dC, dI) vwCl (wV_ v0 v_keys v_firsts v_ends v_values v_inferred v_gone cI cZ u5 u9 u13 (upd vvalues vmade.toNatClampNeg (0 : Int32)) vinferred vgone (vmade + 1)) H16 := hP
    have hD : va_D A (wV_ v0 v_keys v_firsts v_ends v_values v_inferred v_gone cI cZ u5 u9 u13 (upd vvalues vmade.toNatClampNeg (0 : Int32)) vinferred vgone (vmade + 1)) := hD
    obtain ⟨u17, e18, hf⟩ := nm_T hf
    rw [← e18] at hP hD
    refine lv_aload_n hx hb dX4_make_59 rfl (lv_at hl 1 rfl) ?_
    refine va_get (D := (dC, dI)) (ci := 6) (v := .ref v_inferred) (C := RX4) (T := TX4) (N := 7) hx hb hts inX4_ hown hK hP 0 rfl rfl 4 (by decide) fl24_ (fun _ h9 => h9) rfl dX4_make_60 ?_
    refine lv_iload hx hb dX4_make_63 (lv_at hl 0 rfl) ?_
    refine lv_iconst (v := 1) hx hb dX4_make_65 (by decide) ?_
    obtain ⟨h19, hf⟩ := gd_T hf
    refine va_zast hx hb hK hP hD hS 5 1 rfl rfl h19 dX4_make_66 (fun H20 locs hP hD hS => ?_)
    have hP : va_P (dC, dI) vwCl (wV_ v0 v_keys v_firsts v_ends v_values v_inferred v_gone cI cZ u5 u9 u13 u17 (upd vinferred vmade.toNatClampNeg (vp_nar .boolean (1 : Int32))) vgone (vmade + 1)) H20 := hP
    have hD : va_D A (wV_ v0 v_keys v_firsts v_ends v_values v_inferred v_gone cI cZ u5 u9 u13 u17 (upd vinferred vmade.toNatClampNeg (vp_nar .boolean (1 : Int32))) vgone (vmade + 1)) := hD
    obtain ⟨u21, e22, hf⟩ := nm_T hf
    rw [← e22] at hP hD
    refine lv_aload_n hx hb dX4_make_67 rfl (lv_at hl 1 rfl) ?_
    refine va_get (D := (dC, dI)) (ci := 6) (v := .ref v_gone) (C := RX4) (T := TX4) (N := 7) hx hb hts inX4_ hown hK hP 0 rfl rfl 5 (by decide) fl28_ (fun _ h9 => h9) rfl dX4_make_68 ?_
    refine lv_iload hx hb dX4_make_71 (lv_at hl 0 rfl) ?_
    refine lv_iconst (v := 0) hx hb dX4_make_73 (by decide) ?_
    obtain ⟨h23, hf⟩ := gd_T hf
    refine va_zast hx hb hK hP hD hS 6 1 rfl rfl h23 dX4_make_74 (fun H24 locs hP hD hS => ?_)
    have hP : va_P (dC, dI) vwCl (wV_ v0 v_keys v_firsts v_ends v_values v_inferred v_gone cI cZ u5 u9 u13 u17 u21 (upd vgone vmade.toNatClampNeg (vp_nar .boolean (0 : Int32))) (vmade + 1)) H24 := hP
    have hD : va_D A (wV_ v0 v_keys v_firsts v_ends v_values v_inferred v_gone cI cZ u5 u9 u13 u17 u21 (upd vgone vmade.toNatClampNeg (vp_nar .boolean (0 : Int32))) (vmade + 1)) := hD
    obtain ⟨u25, e26, hf⟩ := nm_T hf
    rw [← e26] at hP hD
    refine lv_iload hx hb dX4_make_75 (lv_at hl 0 rfl) ?_
    have hR := Option.some.inj hf
    subst hR
    exact W.iret (v := vmade) hx hb hr (fun t ht hW => ⟨⟨vmade, (), rfl, rfl, by rw [ht]; exact hP, va_K.moved hW.alike hK, hD⟩, hS.F ht⟩) hS.2.2 dX4_make_77
  · have hf := ite_F c1 hf
    refine lv_iconst (v := (-1)) hx hb dX4_make_9 (by decide) ?_
    have hR := Option.some.inj hf
    subst hR
    exact W.iret (v := (-1 : Int32)) hx hb hr (fun t ht hW => ⟨⟨(-1 : Int32), (), rfl, rfl, by rw [ht]; exact hP, va_K.moved hW.alike hK, hD⟩, hS.F ht⟩) hS.2.2 dX4_make_10
theorem hs_X4_make : yX4_make.cls = RX4 ∧ yX4_make.cls ≠ "java/lang/invoke/MethodHandle" ∧ yX4_make.cls ≠ "java/lang/invoke/VarHandle" ∧ (parseMethodDescriptor yX4_make.desc).map (fun d => d.parameters.length) = some 3 := by decide +kernel
set_option maxRecDepth 20000 in
theorem in_X4_cover_X4 : ∀ w ∈ wsX40, w ∈ wsX4_cover := by decide +kernel
def f_X4_cover (a1 : Int32) (a2 : Int32) (V_ : tV_) : Option (Int32 × tV_) :=
match V_ with
| (vkeys, vfirsts, vends, vvalues, vinferred, vgone, vmade) =>
bd_ (f_X4_onDay a1 a2 (vkeys, vfirsts, vends, vvalues, vinferred, vgone, vmade)) (fun r1 =>
if r1 = (-1) then
bd_ (f_X4_next a1 a2 (vkeys, vfirsts, vends, vvalues, vinferred, vgone, vmade)) (fun r7 =>
if r7 = (-1) then
if r7 = (-1) then
bd_ (f_X4_make a1 a2 (1000 : Int32) (vkeys, vfirsts, vends, vvalues, vinferred, vgone, vmade)) (fun (r27, (vk28, vf29, ve30, vv31, vi32, vg33, vm34)) =>
some (r27, (vk28, vf29, ve30, vv31, vi32, vg33, vm34)))
else
gd_ r7 60 (
bd_ (f_X4_make a1 a2 (vfirsts r7.toNatClampNeg) (vkeys, vfirsts, vends, vvalues, vinferred, vgone, vmade)) (fun (r15, (vk16, vf17, ve18, vv19, vi20, vg21, vm22)) =>
some (r15, (vk16, vf17, ve18, vv19, vi20, vg21, vm22))))
else
gd_ r7 60 (
if (vinferred r7.toNatClampNeg) = 0 then
if r7 = (-1) then
bd_ (f_X4_make a1 a2 (1000 : Int32) (vkeys, vfirsts, vends, vvalues, vinferred, vgone, vmade)) (fun (r55, (vk56, vf57, ve58, vv59, vi60, vg61, vm62)) =>
some (r55, (vk56, vf57, ve58, vv59, vi60, vg61, vm62)))
else
gd_ r7 60 (
bd_ (f_X4_make a1 a2 (vfirsts r7.toNatClampNeg) (vkeys, vfirsts, vends, vvalues, vinferred, vgone, vmade)) (fun (r43, (vk44, vf45, ve46, vv47, vi48, vg49, vm50)) =>
some (r43, (vk44, vf45, ve46, vv47, vi48, vg49, vm50))))
else
gd_ r7 60 (nm_ (upd vfirsts r7.toNatClampNeg a2) (fun u69 =>
some (r7, (vkeys, u69, vends, vvalues, vinferred, vgone, vmade))))))
else
some (r1, (vkeys, vfirsts, vends, vvalues, vinferred, vgone, vmade)))
abbrev rm_X4_cover : Room := { frames := 3, cells := 0, slots := 0, locals := 67 }
set_option maxHeartbeats 4000000 in
set_option maxRecDepth 100000 in
theorem c_X4_cover (l : Launch) (dC : Nat → ClassId) (dI : Nat → Nat → Nat) (cI cZ cC cJ cD : ClassId) (v0 v_keys v_firsts v_ends v_values v_inferred v_gone : Nat) (sz : Nat) (vkeys : Nat → Int32) (vfirsts : Nat → Int32) (vends : Nat → Int32) (vvalues : Nat → Int32) (vinferred : Nat → Int32) (vgone : Nat → Int32) (vmade : Int32) (a1 : Int32) (a2 : Int32) (R : Int32 × tV_) (hf : f_X4_cover a1 a2 (vkeys, vfirsts, vends, vvalues, vinferred, vgone, vmade) = some R) : Met l yX4_cover wsX4_cover rm_X4_cover (Pc_ (dC, dI) (ty_ cI cZ cC cJ cD) (wV_ v0 v_keys v_firsts v_ends v_values v_inferred v_gone cI cZ vkeys vfirsts vends vvalues vinferred vgone vmade) sz [.ref v0, .int a1, .int a2]) (Qi_ (dC, dI) (ty_ cI cZ cC cJ cD) R.1 (wV_ v0 v_keys v_firsts v_ends v_values v_inferred v_gone cI cZ R.2.1 R.2.2.1 R.2.2.2.1 R.2.2.2.2.1 R.2.2.2.2.2.1 R.2.2.2.2.2.2.1 R.2.2.2.2.2.2.2) (va_A (wV_ v0 v_keys v_firsts v_ends v_values v_inferred v_gone cI cZ vkeys vfirsts vends vvalues vinferred vgone vmade) sz)) 0 0 (va_A (wV_ v0 v_keys v_firsts v_ends v_values v_inferred v_gone cI cZ vkeys vfirsts vends vvalues vinferred vgone vmade) sz) := by
  refine met_ (cc := cX4_cover) (maxL := 5) (ret := (some .int)) (Qcf := fun A => Qi_ (dC, dI) (ty_ cI cZ cC cJ cD) R.1 (wV_ v0 v_keys v_firsts v_ends v_values v_inferred v_gone cI cZ R.2.1 R.2.2.1 R.2.2.2.1 R.2.2.2.2.1 R.2.2.2.2.2.1 R.2.2.2.2.2.2.1 R.2.2.2.2.2.2.2) A) (by decide) rfl (Nat.le_of_ble_eq_true rfl) ?_
  intro p e s m args below meth c A ls hx hb hr hts hown hlocks hml hA hP hK hD hl
  have hown : s.vm.findClass RX4 = some m.cls := hown
  have hl : lv_has ls 5 [(0, .ref v0), (1, .int a1), (2, .int a2)] := hl
  have hS : va_S A s.heap s.heap [] := va_S.rf
  have fl15_ : (Cond.fieldLink RX4 15 "DimensionLoader$Versions" "firsts" "[I").before args s = true := hts _ (List.mem_of_getElem? (i := 2) rfl)
  have fl24_ : (Cond.fieldLink RX4 24 "DimensionLoader$Versions" "inferred" "[Z").before args s = true := hts _ (List.mem_of_getElem? (i := 1) rfl)
  have inX4_ : ∀ w ∈ wsX40, w ∈ wsX4_cover := in_X4_cover_X4
  unfold f_X4_cover at hf
  dsimp only at hf
  refine lv_aload_n hx hb dX4_cover_0 rfl (lv_at hl 0 rfl) ?_
  refine lv_iload_n hx hb dX4_cover_1 rfl (lv_at hl 1 rfl) ?_
  refine lv_iload_n hx hb dX4_cover_2 rfl (lv_at hl 2 rfl) ?_
  obtain ⟨R2, g3, hf⟩ := bd_B hf
  obtain ⟨r1, rfl⟩ : ∃ z, z = R2 := ⟨_, rfl⟩
  have hPc := hP
  have hDc := hD
  have hFc := va_free (wc := wV_ v0 v_keys v_firsts v_ends v_values v_inferred v_gone cI cZ vkeys vfirsts vends vvalues vinferred vgone vmade) hD hS hA [0, 1, 2, 3, 4, 5, 6] rfl
  refine va_calli (va_runV (As := [.int a1, .int a2]) (rest := []) ⟨hx, hb, hml, hown, hts⟩ (c_X4_onDay l dC dI cI cZ cC cJ cD v0 v_keys v_firsts v_ends v_values v_inferred v_gone s.heap.size vkeys vfirsts vends vvalues vinferred vgone vmade a1 a2 r1 g3) (cwV 2 hts gX4_cover_X4_onDay rfl rfl rfl hs_X4_onDay ⟨Nat.le_of_ble_eq_true rfl, Nat.le_of_ble_eq_true rfl⟩) (preV_ (ci := 6) (q0 := 0) hPc hK hDc rfl rfl rfl rfl) rfl rfl hl.1 rfl (lv_room (Nat.le_of_ble_eq_true rfl)) dX4_cover_3 ⟨Nat.le_of_ble_eq_true rfl, Nat.le_of_ble_eq_true rfl⟩) hS (fun q _ h => hFc q h) hFc (fun z5 u t H4 locs ht hvm hw hB hz1 hk1 hS => ?_)
  have hw : r1 = z5 := hw.symm
  subst hw
  obtain ⟨hP, hD⟩ := aft_ (Wr := []) (Wc' := wV_ v0 v_keys v_firsts v_ends v_values v_inferred v_gone cI cZ vkeys vfirsts vends vvalues vinferred vgone vmade) (W2 := wV_ v0 v_keys v_firsts v_ends v_values v_inferred v_gone cI cZ vkeys vfirsts vends vvalues vinferred vgone vmade) hP hD [0, 1, 2, 3, 4, 5, 6] [] [0, 1, 2, 3, 4, 5, 6] rfl rfl (by decide) (by decide) (by decide) hk1 hFc hB ht rfl
  refine lv_istore_n (lv' := [(3, .int r1), (0, .ref v0), (1, .int a1), (2, .int a2)]) hx hb dX4_cover_6 rfl hl (by decide) rfl (fun ls hl => ?_)
  refine lv_iload_n hx hb dX4_cover_7 rfl (lv_at hl 0 rfl) ?_
  refine lv_iconst (v := (-1)) hx hb dX4_cover_8 (by decide) ?_
  refine lv_icmp_eq (tgt := 14) hx hb dX4_cover_9 (by decide) (fun c6 => ?_) (fun c6 => ?_)
  · have hf := ite_T c6 hf
    refine lv_aload_n hx hb dX4_cover_14 rfl (lv_at hl 1 rfl) ?_
    refine lv_iload_n hx hb dX4_cover_15 rfl (lv_at hl 2 rfl) ?_
    refine lv_iload_n hx hb dX4_cover_16 rfl (lv_at hl 3 rfl) ?_
    obtain ⟨R8, g9, hf⟩ := bd_B hf
    obtain ⟨r7, rfl⟩ : ∃ z, z = R8 := ⟨_, rfl⟩
    have hPc := hP
    have hDc := hD
    have hFc := va_free (wc := wV_ v0 v_keys v_firsts v_ends v_values v_inferred v_gone cI cZ vkeys vfirsts vends vvalues vinferred vgone vmade) hD hS hA [0, 1, 2, 3, 4, 5, 6] rfl
    refine va_calli (va_runV (As := [.int a1, .int a2]) (rest := []) ⟨hx, hb, hml, hown, hts⟩ (c_X4_next l dC dI cI cZ cC cJ cD v0 v_keys v_firsts v_ends v_values v_inferred v_gone H4.size vkeys vfirsts vends vvalues vinferred vgone vmade a1 a2 r7 g9) (cwV 2 hts gX4_cover_X4_next rfl rfl rfl hs_X4_next ⟨Nat.le_of_ble_eq_true rfl, Nat.le_of_ble_eq_true rfl⟩) (preV_ (ci := 6) (q0 := 0) hPc hK hDc rfl rfl rfl rfl) rfl rfl hl.1 rfl (lv_room (Nat.le_of_ble_eq_true rfl)) dX4_cover_17 ⟨Nat.le_of_ble_eq_true rfl, Nat.le_of_ble_eq_true rfl⟩) hS (fun q _ h => hFc q h) hFc (fun z11 u t H10 locs ht hvm hw hB hz1 hk1 hS => ?_)
    have hw : r7 = z11 := hw.symm
    subst hw
    obtain ⟨hP, hD⟩ := aft_ (Wr := []) (Wc' := wV_ v0 v_keys v_firsts v_ends v_values v_inferred v_gone cI cZ vkeys vfirsts vends vvalues vinferred vgone vmade) (W2 := wV_ v0 v_keys v_firsts v_ends v_values v_inferred v_gone cI cZ vkeys vfirsts vends vvalues vinferred vgone vmade) hP hD [0, 1, 2, 3, 4, 5, 6] [] [0, 1, 2, 3, 4, 5, 6] rfl rfl (by decide) (by decide) (by decide) hk1 hFc hB ht rfl
    refine lv_istore (lv' := [(4, .int r7), (3, .int r1), (0, .ref v0), (1, .int a1), (2, .int a2)]) hx hb dX4_cover_20 hl (by decide) rfl (fun ls hl => ?_)
    refine lv_iload hx hb dX4_cover_22 (lv_at hl 0 rfl) ?_
    refine lv_iconst (v := (-1)) hx hb dX4_cover_24 (by decide) ?_
    refine lv_icmp_eq (tgt := 49) hx hb dX4_cover_25 (by decide) (fun c12 => ?_) (fun c12 => ?_)
    · have hf := ite_T c12 hf
      refine lv_aload_n hx hb dX4_cover_49 rfl (lv_at hl 2 rfl) ?_
      refine lv_iload_n hx hb dX4_cover_50 rfl (lv_at hl 3 rfl) ?_
      refine lv_iload_n hx hb dX4_cover_51 rfl (lv_at hl 4 rfl) ?_
      refine lv_iload hx hb dX4_cover_52 (lv_at hl 0 rfl) ?_
      refine lv_iconst (v := (-1)) hx hb dX4_cover_54 (by decide) ?_
      refine lv_icmp_ne (tgt := 64) hx hb dX4_cover_55 (by decide) (fun c13 => ?_) (fun c13 => ?_)
      · have hf := ite_F c13 hf
        refine lv_aload_n hx hb dX4_cover_64 rfl (lv_at hl 2 rfl) ?_
        refine va_get (D := (dC, dI)) (ci := 6) (v := .ref v_firsts) (C := RX4) (T := TX4) (N := 7) hx hb hts inX4_ hown hK hP 0 rfl rfl 1 (by decide) fl15_ (fun _ h9 => h9) rfl dX4_cover_65 ?_
        refine lv_iload hx hb dX4_cover_68 (lv_at hl 0 rfl) ?_
        obtain ⟨h14, hf⟩ := gd_T hf
        refine va_iald hx hb hK hP 2 0 rfl rfl h14 dX4_cover_70 ?_
        obtain ⟨R23, g24, hf⟩ := bd_B hf
        obtain ⟨r15, ⟨vk16, vf17, ve18, vv19, vi20, vg21, vm22⟩⟩ := R23
        dsimp only at hf
        have hPc := hP
        have hDc := hD
        have hFc := va_free (wc := wV_ v0 v_keys v_firsts v_ends v_values v_inferred v_gone cI cZ vkeys vfirsts vends vvalues vinferred vgone vmade) hD hS hA [0, 1, 2, 3, 4, 5, 6] rfl
        refine va_calli (va_runV (As := [.int a1, .int a2, .int (vfirsts r7.toNatClampNeg)]) (rest := []) ⟨hx, hb, hml, hown, hts⟩ (c_X4_make l dC dI cI cZ cC cJ cD v0 v_keys v_firsts v_ends v_values v_inferred v_gone H10.size vkeys vfirsts vends vvalues vinferred vgone vmade a1 a2 (vfirsts r7.toNatClampNeg) (r15, (vk16, vf17, ve18, vv19, vi20, vg21, vm22)) g24) (cwV 3 hts gX4_cover_X4_make rfl rfl rfl hs_X4_make ⟨Nat.le_of_ble_eq_true rfl, Nat.le_of_ble_eq_true rfl⟩) (preV_ (ci := 6) (q0 := 0) hPc hK hDc rfl rfl rfl rfl) rfl rfl hl.1 rfl (lv_room (Nat.le_of_ble_eq_true rfl)) dX4_cover_71 ⟨Nat.le_of_ble_eq_true rfl, Nat.le_of_ble_eq_true rfl⟩) hS (fun q _ h => hFc q h) hFc (fun z26 u t H25 locs ht hvm hw hB hz1 hk1 hS => ?_)
        have hw : r15 = z26 := hw.symm
        subst hw
        obtain ⟨hP, hD⟩ := aft_ (Wr := []) (Wc' := wV_ v0 v_keys v_firsts v_ends v_values v_inferred v_gone cI cZ vk16 vf17 ve18 vv19 vi20 vg21 vm22) (W2 := wV_ v0 v_keys v_firsts v_ends v_values v_inferred v_gone cI cZ vk16 vf17 ve18 vv19 vi20 vg21 vm22) hP hD [0, 1, 2, 3, 4, 5, 6] [] [0, 1, 2, 3, 4, 5, 6] rfl rfl (by decide) (by decide) (by decide) hk1 hFc hB ht rfl
        have hR := Option.some.inj hf
        subst hR
        exact W.iret (v := r15) hx hb hr (fun t ht hW => ⟨⟨r15, (), rfl, rfl, by rw [ht]; exact hP, va_K.moved hW.alike hK, hD⟩, hS.F ht⟩) hS.2.2 dX4_cover_74
      · have hf := ite_T c13 hf
        refine lv_sipush (v := 1000) hx hb dX4_cover_58 (by decide) ?_
        refine lv_goto (tgt := 71) hx hb dX4_cover_61 (by decide) ?_
        obtain ⟨R35, g36, hf⟩ := bd_B hf
        obtain ⟨r27, ⟨vk28, vf29, ve30, vv31, vi32, vg33, vm34⟩⟩ := R35
        dsimp only at hf
        have hPc := hP
        have hDc := hD
        have hFc := va_free (wc := wV_ v0 v_keys v_firsts v_ends v_values v_inferred v_gone cI cZ vkeys vfirsts vends vvalues vinferred vgone vmade) hD hS hA [0, 1, 2, 3, 4, 5, 6] rfl
        refine va_calli (va_runV (As := [.int a1, .int a2, .int 1000]) (rest := []) ⟨hx, hb, hml, hown, hts⟩ (c_X4_make l dC dI cI cZ cC cJ cD v0 v_keys v_firsts v_ends v_values v_inferred v_gone H10.size vkeys vfirsts vends vvalues vinferred vgone vmade a1 a2 (1000 : Int32) (r27, (vk28, vf29, ve30, vv31, vi32, vg33, vm34)) g36) (cwV 3 hts gX4_cover_X4_make rfl rfl rfl hs_X4_make ⟨Nat.le_of_ble_eq_true rfl, Nat.le_of_ble_eq_true rfl⟩) (preV_ (ci := 6) (q0 := 0) hPc hK hDc rfl rfl rfl rfl) rfl rfl hl.1 rfl (lv_room (Nat.le_of_ble_eq_true rfl)) dX4_cover_71 ⟨Nat.le_of_ble_eq_true rfl, Nat.le_of_ble_eq_true rfl⟩) hS (fun q _ h => hFc q h) hFc (fun z38 u t H37 locs ht hvm hw hB hz1 hk1 hS => ?_)
        have hw : r27 = z38 := hw.symm
        subst hw
        obtain ⟨hP, hD⟩ := aft_ (Wr := []) (Wc' := wV_ v0 v_keys v_firsts v_ends v_values v_inferred v_gone cI cZ vk28 vf29 ve30 vv31 vi32 vg33 vm34) (W2 := wV_ v0 v_keys v_firsts v_ends v_values v_inferred v_gone cI cZ vk28 vf29 ve30 vv31 vi32 vg33 vm34) hP hD [0, 1, 2, 3, 4, 5, 6] [] [0, 1, 2, 3, 4, 5, 6] rfl rfl (by decide) (by decide) (by decide) hk1 hFc hB ht rfl
        have hR := Option.some.inj hf
        subst hR
        exact W.iret (v := r27) hx hb hr (fun t ht hW => ⟨⟨r27, (), rfl, rfl, by rw [ht]; exact hP, va_K.moved hW.alike hK, hD⟩, hS.F ht⟩) hS.2.2 dX4_cover_74
    · have hf := ite_F c12 hf
      refine lv_aload_n hx hb dX4_cover_28 rfl (lv_at hl 2 rfl) ?_
      refine va_get (D := (dC, dI)) (ci := 6) (v := .ref v_inferred) (C := RX4) (T := TX4) (N := 7) hx hb hts inX4_ hown hK hP 0 rfl rfl 4 (by decide) fl24_ (fun _ h9 => h9) rfl dX4_cover_29 ?_
      refine lv_iload hx hb dX4_cover_32 (lv_at hl 0 rfl) ?_
      obtain ⟨h39, hf⟩ := gd_T hf
      refine va_zald hx hb hK hP 5 1 rfl rfl h39 dX4_cover_34 ?_
      refine lv_if_eq (tgt := 49) hx hb dX4_cover_35 (by decide) (fun c40 => ?_) (fun c40 => ?_)
      · have hf := ite_T c40 hf
        refine lv_aload_n hx hb dX4_cover_49 rfl (lv_at hl 2 rfl) ?_
        refine lv_iload_n hx hb dX4_cover_50 rfl (lv_at hl 3 rfl) ?_
        refine lv_iload_n hx hb dX4_cover_51 rfl (lv_at hl 4 rfl) ?_
        refine lv_iload hx hb dX4_cover_52 (lv_at hl 0 rfl) ?_
        refine lv_iconst (v := (-1)) hx hb dX4_cover_54 (by decide) ?_
        refine lv_icmp_ne (tgt := 64) hx hb dX4_cover_55 (by decide) (fun c41 => ?_) (fun c41 => ?_)
        · have hf := ite_F c41 hf
          refine lv_aload_n hx hb dX4_cover_64 rfl (lv_at hl 2 rfl) ?_
          refine va_get (D := (dC, dI)) (ci := 6) (v := .ref v_firsts) (C := RX4) (T := TX4) (N := 7) hx hb hts inX4_ hown hK hP 0 rfl rfl 1 (by decide) fl15_ (fun _ h9 => h9) rfl dX4_cover_65 ?_
          refine lv_iload hx hb dX4_cover_68 (lv_at hl 0 rfl) ?_
          obtain ⟨h42, hf⟩ := gd_T hf
          refine va_iald hx hb hK hP 2 0 rfl rfl h42 dX4_cover_70 ?_
          obtain ⟨R51, g52, hf⟩ := bd_B hf
          obtain ⟨r43, ⟨vk44, vf45, ve46, vv47, vi48, vg49, vm50⟩⟩ := R51
          dsimp only at hf
          have hPc := hP
          have hDc := hD
          have hFc := va_free (wc := wV_ v0 v_keys v_firsts v_ends v_values v_inferred v_gone cI cZ vkeys vfirsts vends vvalues vinferred vgone vmade) hD hS hA [0, 1, 2, 3, 4, 5, 6] rfl
          refine va_calli (va_runV (As := [.int a1, .int a2, .int (vfirsts r7.toNatClampNeg)]) (rest := []) ⟨hx, hb, hml, hown, hts⟩ (c_X4_make l dC dI cI cZ cC cJ cD v0 v_keys v_firsts v_ends v_values v_inferred v_gone H10.size vkeys vfirsts vends vvalues vinferred vgone vmade a1 a2 (vfirsts r7.toNatClampNeg) (r43, (vk44, vf45, ve46, vv47, vi48, vg49, vm50)) g52) (cwV 3 hts gX4_cover_X4_make rfl rfl rfl hs_X4_make ⟨Nat.le_of_ble_eq_true rfl, Nat.le_of_ble_eq_true rfl⟩) (preV_ (ci := 6) (q0 := 0) hPc hK hDc rfl rfl rfl rfl) rfl rfl hl.1 rfl (lv_room (Nat.le_of_ble_eq_true rfl)) dX4_cover_71 ⟨Nat.le_of_ble_eq_true rfl, Nat.le_of_ble_eq_true rfl⟩) hS (fun q _ h => hFc q h) hFc (fun z54 u t H53 locs ht hvm hw hB hz1 hk1 hS => ?_)
          have hw : r43 = z54 := hw.symm
          subst hw
          obtain ⟨hP, hD⟩ := aft_ (Wr := []) (Wc' := wV_ v0 v_keys v_firsts v_ends v_values v_inferred v_gone cI cZ vk44 vf45 ve46 vv47 vi48 vg49 vm50) (W2 := wV_ v0 v_keys v_firsts v_ends v_values v_inferred v_gone cI cZ vk44 vf45 ve46 vv47 vi48 vg49 vm50) hP hD [0, 1, 2, 3, 4, 5, 6] [] [0, 1, 2, 3, 4, 5, 6] rfl rfl (by decide) (by decide) (by decide) hk1 hFc hB ht rfl
          have hR := Option.some.inj hf
          subst hR
          exact W.iret (v := r43) hx hb hr (fun t ht hW => ⟨⟨r43, (), rfl, rfl, by rw [ht]; exact hP, va_K.moved hW.alike hK, hD⟩, hS.F ht⟩) hS.2.2 dX4_cover_74
        · have hf := ite_T c41 hf
          refine lv_sipush (v := 1000) hx hb dX4_cover_58 (by decide) ?_
          refine lv_goto (tgt := 71) hx hb dX4_cover_61 (by decide) ?_
          obtain ⟨R63, g64, hf⟩ := bd_B hf
          obtain ⟨r55, ⟨vk56, vf57, ve58, vv59, vi60, vg61, vm62⟩⟩ := R63
          dsimp only at hf
          have hPc := hP
          have hDc := hD
          have hFc := va_free (wc := wV_ v0 v_keys v_firsts v_ends v_values v_inferred v_gone cI cZ vkeys vfirsts vends vvalues vinferred vgone vmade) hD hS hA [0, 1, 2, 3, 4, 5, 6] rfl
          refine va_calli (va_runV (As := [.int a1, .int a2, .int 1000]) (rest := []) ⟨hx, hb, hml, hown, hts⟩ (c_X4_make l dC dI cI cZ cC cJ cD v0 v_keys v_firsts v_ends v_values v_inferred v_gone H10.size vkeys vfirsts vends vvalues vinferred vgone vmade a1 a2 (1000 : Int32) (r55, (vk56, vf57, ve58, vv59, vi60, vg61, vm62)) g64) (cwV 3 hts gX4_cover_X4_make rfl rfl rfl hs_X4_make ⟨Nat.le_of_ble_eq_true rfl, Nat.le_of_ble_eq_true rfl⟩) (preV_ (ci := 6) (q0 := 0) hPc hK hDc rfl rfl rfl rfl) rfl rfl hl.1 rfl (lv_room (Nat.le_of_ble_eq_true rfl)) dX4_cover_71 ⟨Nat.le_of_ble_eq_true rfl, Nat.le_of_ble_eq_true rfl⟩) hS (fun q _ h => hFc q h) hFc (fun z66 u t H65 locs ht hvm hw hB hz1 hk1 hS => ?_)
          have hw : r55 = z66 := hw.symm
          subst hw
          obtain ⟨hP, hD⟩ := aft_ (Wr := []) (Wc' := wV_ v0 v_keys v_firsts v_ends v_values v_inferred v_gone cI cZ vk56 vf57 ve58 vv59 vi60 vg61 vm62) (W2 := wV_ v0 v_keys v_firsts v_ends v_values v_inferred v_gone cI cZ vk56 vf57 ve58 vv59 vi60 vg61 vm62) hP hD [0, 1, 2, 3, 4, 5, 6] [] [0, 1, 2, 3, 4, 5, 6] rfl rfl (by decide) (by decide) (by decide) hk1 hFc hB ht rfl
          have hR := Option.some.inj hf
          subst hR
          exact W.iret (v := r55) hx hb hr (fun t ht hW => ⟨⟨r55, (), rfl, rfl, by rw [ht]; exact hP, va_K.moved hW.alike hK, hD⟩, hS.F ht⟩) hS.2.2 dX4_cover_74
      · have hf := ite_F c40 hf
        refine lv_aload_n hx hb dX4_cover_38 rfl (lv_at hl 2 rfl) ?_
        refine va_get (D := (dC, dI)) (ci := 6) (v := .ref v_firsts) (C := RX4) (T := TX4) (N := 7) hx hb hts inX4_ hown hK hP 0 rfl rfl 1 (by decide) fl15_ (fun _ h9 => h9) rfl dX4_cover_39 ?_
        refine lv_iload hx hb dX4_cover_42 (lv_at hl 0 rfl) ?_
        refine lv_iload_n hx hb dX4_cover_44 rfl (lv_at hl 4 rfl) ?_
        obtain ⟨h67, hf⟩ := gd_T hf
        refine va_iast hx hb hK hP hD hS 2 0 rfl rfl h67 dX4_cover_45 (fun H68 locs hP hD hS => ?_)
        have hP : va_P (dC, dI) vwCl (wV_ v0 v_keys v_firsts v_ends v_values v_inferred v_gone cI cZ vkeys (upd vfirsts r7.toNatClampNeg a2) vends vvalues vinferred vgone vmade) H68 := hP
        have hD : va_D A (wV_ v0 v_keys v_firsts v_ends v_values v_inferred v_gone cI cZ vkeys (upd vfirsts r7.toNatClampNeg a2) vends vvalues vinferred vgone vmade) := hD
        obtain ⟨u69, e70, hf⟩ := nm_T hf
        rw [← e70] at hP hD
        refine lv_iload hx hb dX4_cover_46 (lv_at hl 0 rfl) ?_
        have hR := Option.some.inj hf
        subst hR
        exact W.iret (v := r7) hx hb hr (fun t ht hW => ⟨⟨r7, (), rfl, rfl, by rw [ht]; exact hP, va_K.moved hW.alike hK, hD⟩, hS.F ht⟩) hS.2.2 dX4_cover_48
  · have hf := ite_F c6 hf
    refine lv_iload_n hx hb dX4_cover_12 rfl (lv_at hl 0 rfl) ?_
    have hR := Option.some.inj hf
    subst hR
    exact W.iret (v := r1) hx hb hr (fun t ht hW => ⟨⟨r1, (), rfl, rfl, by rw [ht]; exact hP, va_K.moved hW.alike hK, hD⟩, hS.F ht⟩) hS.2.2 dX4_cover_13
theorem hs_X4_cover : yX4_cover.cls = RX4 ∧ yX4_cover.cls ≠ "java/lang/invoke/MethodHandle" ∧ yX4_cover.cls ≠ "java/lang/invoke/VarHandle" ∧ (parseMethodDescriptor yX4_cover.desc).map (fun d => d.parameters.length) = some 2 := by decide +kernel
set_option maxRecDepth 20000 in
theorem in_X4_split_X4 : ∀ w ∈ wsX40, w ∈ wsX4_split := by decide +kernel
def f_X4_split (a1 : Int32) (a2 : Int32) (V_ : tV_) : Option (Int32 × tV_) :=
match V_ with
| (vkeys, vfirsts, vends, vvalues, vinferred, vgone, vmade) =>
gd_ a1 60 (
gd_ a1 60 (
bd_ (f_X4_make (vkeys a1.toNatClampNeg) a2 (vends a1.toNatClampNeg) (vkeys, vfirsts, vends, vvalues, vinferred, vgone, vmade)) (fun (r3, (vk4, vf5, ve6, vv7, vi8, vg9, vm10)) =>
if r3 = (-1) then
some (r3, (vk4, vf5, ve6, vv7, vi8, vg9, vm10))
else
gd_ a1 60 (nm_ (upd ve6 a1.toNatClampNeg a2) (fun u18 =>
some (r3, (vk4, vf5, u18, vv7, vi8, vg9, vm10)))))))
abbrev rm_X4_split : Room := { frames := 1, cells := 0, slots := 0, locals := 24 }
set_option maxHeartbeats 4000000 in
set_option maxRecDepth 100000 in
theorem c_X4_split (l : Launch) (dC : Nat → ClassId) (dI : Nat → Nat → Nat) (cI cZ cC cJ cD : ClassId) (v0 v_keys v_firsts v_ends v_values v_inferred v_gone : Nat) (sz : Nat) (vkeys : Nat → Int32) (vfirsts : Nat → Int32) (vends : Nat → Int32) (vvalues : Nat → Int32) (vinferred : Nat → Int32) (vgone : Nat → Int32) (vmade : Int32) (a1 : Int32) (a2 : Int32) (R : Int32 × tV_) (hf : f_X4_split a1 a2 (vkeys, vfirsts, vends, vvalues, vinferred, vgone, vmade) = some R) : Met l yX4_split wsX4_split rm_X4_split (Pc_ (dC, dI) (ty_ cI cZ cC cJ cD) (wV_ v0 v_keys v_firsts v_ends v_values v_inferred v_gone cI cZ vkeys vfirsts vends vvalues vinferred vgone vmade) sz [.ref v0, .int a1, .int a2]) (Qi_ (dC, dI) (ty_ cI cZ cC cJ cD) R.1 (wV_ v0 v_keys v_firsts v_ends v_values v_inferred v_gone cI cZ R.2.1 R.2.2.1 R.2.2.2.1 R.2.2.2.2.1 R.2.2.2.2.2.1 R.2.2.2.2.2.2.1 R.2.2.2.2.2.2.2) (va_A (wV_ v0 v_keys v_firsts v_ends v_values v_inferred v_gone cI cZ vkeys vfirsts vends vvalues vinferred vgone vmade) sz)) 0 0 (va_A (wV_ v0 v_keys v_firsts v_ends v_values v_inferred v_gone cI cZ vkeys vfirsts vends vvalues vinferred vgone vmade) sz) := by
  refine met_ (cc := cX4_split) (maxL := 4) (ret := (some .int)) (Qcf := fun A => Qi_ (dC, dI) (ty_ cI cZ cC cJ cD) R.1 (wV_ v0 v_keys v_firsts v_ends v_values v_inferred v_gone cI cZ R.2.1 R.2.2.1 R.2.2.2.1 R.2.2.2.2.1 R.2.2.2.2.2.1 R.2.2.2.2.2.2.1 R.2.2.2.2.2.2.2) A) (by decide) rfl (Nat.le_of_ble_eq_true rfl) ?_
  intro p e s m args below meth c A ls hx hb hr hts hown hlocks hml hA hP hK hD hl
  have hown : s.vm.findClass RX4 = some m.cls := hown
  have hl : lv_has ls 4 [(0, .ref v0), (1, .int a1), (2, .int a2)] := hl
  have hS : va_S A s.heap s.heap [] := va_S.rf
  have fl9_ : (Cond.fieldLink RX4 9 "DimensionLoader$Versions" "keys" "[I").before args s = true := hts _ (List.mem_of_getElem? (i := 1) rfl)
  have fl18_ : (Cond.fieldLink RX4 18 "DimensionLoader$Versions" "ends" "[I").before args s = true := hts _ (List.mem_of_getElem? (i := 2) rfl)
  have inX4_ : ∀ w ∈ wsX40, w ∈ wsX4_split := in_X4_split_X4
  unfold f_X4_split at hf
  dsimp only at hf
  refine lv_aload_n hx hb dX4_split_0 rfl (lv_at hl 0 rfl) ?_
  refine lv_aload_n hx hb dX4_split_1 rfl (lv_at hl 0 rfl) ?_
  refine va_get (D := (dC, dI)) (ci := 6) (v := .ref v_keys) (C := RX4) (T := TX4) (N := 7) hx hb hts inX4_ hown hK hP 0 rfl rfl 0 (by decide) fl9_ (fun _ h9 => h9) rfl dX4_split_2 ?_
  refine lv_iload_n hx hb dX4_split_5 rfl (lv_at hl 1 rfl) ?_
  obtain ⟨h1, hf⟩ := gd_T hf
  refine va_iald hx hb hK hP 1 0 rfl rfl h1 dX4_split_6 ?_
  refine lv_iload_n hx hb dX4_split_7 rfl (lv_at hl 2 rfl) ?_
  refine lv_aload_n hx hb dX4_split_8 rfl (lv_at hl 0 rfl) ?_
  refine va_get (D := (dC, dI)) (ci := 6) (v := .ref v_ends) (C := RX4) (T := TX4) (N := 7) hx hb hts inX4_ hown hK hP 0 rfl rfl 2 (by decide) fl18_ (fun _ h9 => h9) rfl dX4_split_9 ?_
  refine lv_iload_n hx hb dX4_split_12 rfl (lv_at hl 1 rfl) ?_
  obtain ⟨h2, hf⟩ := gd_T hf
  refine va_iald hx hb hK hP 3 0 rfl rfl h2 dX4_split_13 ?_
  obtain ⟨R11, g12, hf⟩ := bd_B hf
  obtain ⟨r3, ⟨vk4, vf5, ve6, vv7, vi8, vg9, vm10⟩⟩ := R11
  dsimp only at hf
  have hPc := hP
  have hDc := hD
  have hFc := va_free (wc := wV_ v0 v_keys v_firsts v_ends v_values v_inferred v_gone cI cZ vkeys vfirsts vends vvalues vinferred vgone vmade) hD hS hA [0, 1, 2, 3, 4, 5, 6] rfl
  refine va_calli (va_runV (As := [.int (vkeys a1.toNatClampNeg), .int a2, .int (vends a1.toNatClampNeg)]) (rest := []) ⟨hx, hb, hml, hown, hts⟩ (c_X4_make l dC dI cI cZ cC cJ cD v0 v_keys v_firsts v_ends v_values v_inferred v_gone s.heap.size vkeys vfirsts vends vvalues vinferred vgone vmade (vkeys a1.toNatClampNeg) a2 (vends a1.toNatClampNeg) (r3, (vk4, vf5, ve6, vv7, vi8, vg9, vm10)) g12) (cwV 3 hts gX4_split_X4_make rfl rfl rfl hs_X4_make ⟨Nat.le_of_ble_eq_true rfl, Nat.le_of_ble_eq_true rfl⟩) (preV_ (ci := 6) (q0 := 0) hPc hK hDc rfl rfl rfl rfl) rfl rfl hl.1 rfl (lv_room (Nat.le_of_ble_eq_true rfl)) dX4_split_14 ⟨Nat.le_of_ble_eq_true rfl, Nat.le_of_ble_eq_true rfl⟩) hS (fun q _ h => hFc q h) hFc (fun z14 u t H13 locs ht hvm hw hB hz1 hk1 hS => ?_)
  have hw : r3 = z14 := hw.symm
  subst hw
  obtain ⟨hP, hD⟩ := aft_ (Wr := []) (Wc' := wV_ v0 v_keys v_firsts v_ends v_values v_inferred v_gone cI cZ vk4 vf5 ve6 vv7 vi8 vg9 vm10) (W2 := wV_ v0 v_keys v_firsts v_ends v_values v_inferred v_gone cI cZ vk4 vf5 ve6 vv7 vi8 vg9 vm10) hP hD [0, 1, 2, 3, 4, 5, 6] [] [0, 1, 2, 3, 4, 5, 6] rfl rfl (by decide) (by decide) (by decide) hk1 hFc hB ht rfl
  refine lv_istore_n (lv' := [(3, .int r3), (0, .ref v0), (1, .int a1), (2, .int a2)]) hx hb dX4_split_17 rfl hl (by decide) rfl (fun ls hl => ?_)
  refine lv_iload_n hx hb dX4_split_18 rfl (lv_at hl 0 rfl) ?_
  refine lv_iconst (v := (-1)) hx hb dX4_split_19 (by decide) ?_
  refine lv_icmp_eq (tgt := 30) hx hb dX4_split_20 (by decide) (fun c15 => ?_) (fun c15 => ?_)
  · have hf := ite_T c15 hf
    refine lv_iload_n hx hb dX4_split_30 rfl (lv_at hl 0 rfl) ?_
    have hR := Option.some.inj hf
    subst hR
    exact W.iret (v := r3) hx hb hr (fun t ht hW => ⟨⟨r3, (), rfl, rfl, by rw [ht]; exact hP, va_K.moved hW.alike hK, hD⟩, hS.F ht⟩) hS.2.2 dX4_split_31
  · have hf := ite_F c15 hf
    refine lv_aload_n hx hb dX4_split_23 rfl (lv_at hl 1 rfl) ?_
    refine va_get (D := (dC, dI)) (ci := 6) (v := .ref v_ends) (C := RX4) (T := TX4) (N := 7) hx hb hts inX4_ hown hK hP 0 rfl rfl 2 (by decide) fl18_ (fun _ h9 => h9) rfl dX4_split_24 ?_
    refine lv_iload_n hx hb dX4_split_27 rfl (lv_at hl 2 rfl) ?_
    refine lv_iload_n hx hb dX4_split_28 rfl (lv_at hl 3 rfl) ?_
    obtain ⟨h16, hf⟩ := gd_T hf
    refine va_iast hx hb hK hP hD hS 3 0 rfl rfl h16 dX4_split_29 (fun H17 locs hP hD hS => ?_)
    have hP : va_P (dC, dI) vwCl (wV_ v0 v_keys v_firsts v_ends v_values v_inferred v_gone cI cZ vk4 vf5 (upd ve6 a1.toNatClampNeg a2) vv7 vi8 vg9 vm10) H17 := hP
    have hD : va_D A (wV_ v0 v_keys v_firsts v_ends v_values v_inferred v_gone cI cZ vk4 vf5 (upd ve6 a1.toNatClampNeg a2) vv7 vi8 vg9 vm10) := hD
    obtain ⟨u18, e19, hf⟩ := nm_T hf
    rw [← e19] at hP hD
    refine lv_iload_n hx hb dX4_split_30 rfl (lv_at hl 0 rfl) ?_
    have hR := Option.some.inj hf
    subst hR
    exact W.iret (v := r3) hx hb hr (fun t ht hW => ⟨⟨r3, (), rfl, rfl, by rw [ht]; exact hP, va_K.moved hW.alike hK, hD⟩, hS.F ht⟩) hS.2.2 dX4_split_31
theorem hs_X4_split : yX4_split.cls = RX4 ∧ yX4_split.cls ≠ "java/lang/invoke/MethodHandle" ∧ yX4_split.cls ≠ "java/lang/invoke/VarHandle" ∧ (parseMethodDescriptor yX4_split.desc).map (fun d => d.parameters.length) = some 2 := by decide +kernel
set_option maxRecDepth 20000 in
theorem in_X4_settle_X4 : ∀ w ∈ wsX40, w ∈ wsX4_settle := by decide +kernel
def f_X4_settle (a1 : Int32) (a2 : Int32) (V_ : tV_) : Option (tV_) :=
match V_ with
| (vkeys, vfirsts, vends, vvalues, vinferred, vgone, vmade) =>
bd_ (f_X4_has a1 (vkeys, vfirsts, vends, vvalues, vinferred, vgone, vmade)) (fun r1 =>
if r1 = 0 then
some (vkeys, vfirsts, vends, vvalues, vinferred, vgone, vmade)
else
gd_ a1 60 (nm_ (upd vvalues a1.toNatClampNeg a2) (fun u9 =>
gd_ a1 60 (nm_ (upd vinferred a1.toNatClampNeg (vp_nar .boolean (0 : Int32))) (fun u13 =>
some (vkeys, vfirsts, vends, u9, u13, vgone, vmade))))))
abbrev rm_X4_settle : Room := { frames := 1, cells := 0, slots := 0, locals := 21 }
set_option maxHeartbeats 4000000 in
set_option maxRecDepth 100000 in
theorem c_X4_settle (l : Launch) (dC : Nat → ClassId) (dI : Nat → Nat → Nat) (cI cZ cC cJ cD : ClassId) (v0 v_keys v_firsts v_ends v_values v_inferred v_gone : Nat) (sz : Nat) (vkeys : Nat → Int32) (vfirsts : Nat → Int32) (vends : Nat → Int32) (vvalues : Nat → Int32) (vinferred : Nat → Int32) (vgone : Nat → Int32) (vmade : Int32) (a1 : Int32) (a2 : Int32) (R : tV_) (hf : f_X4_settle a1 a2 (vkeys, vfirsts, vends, vvalues, vinferred, vgone, vmade) = some R) : Met l yX4_settle wsX4_settle rm_X4_settle (Pc_ (dC, dI) (ty_ cI cZ cC cJ cD) (wV_ v0 v_keys v_firsts v_ends v_values v_inferred v_gone cI cZ vkeys vfirsts vends vvalues vinferred vgone vmade) sz [.ref v0, .int a1, .int a2]) (Qv_ (dC, dI) (ty_ cI cZ cC cJ cD) (wV_ v0 v_keys v_firsts v_ends v_values v_inferred v_gone cI cZ R.1 R.2.1 R.2.2.1 R.2.2.2.1 R.2.2.2.2.1 R.2.2.2.2.2.1 R.2.2.2.2.2.2) (va_A (wV_ v0 v_keys v_firsts v_ends v_values v_inferred v_gone cI cZ vkeys vfirsts vends vvalues vinferred vgone vmade) sz)) 0 0 (va_A (wV_ v0 v_keys v_firsts v_ends v_values v_inferred v_gone cI cZ vkeys vfirsts vends vvalues vinferred vgone vmade) sz) := by
  refine met_ (cc := cX4_settle) (maxL := 3) (ret := none) (Qcf := fun A => Qv_ (dC, dI) (ty_ cI cZ cC cJ cD) (wV_ v0 v_keys v_firsts v_ends v_values v_inferred v_gone cI cZ R.1 R.2.1 R.2.2.1 R.2.2.2.1 R.2.2.2.2.1 R.2.2.2.2.2.1 R.2.2.2.2.2.2) A) (by decide) rfl (Nat.le_of_ble_eq_true rfl) ?_
  intro p e s m args below meth c A ls hx hb hr hts hown hlocks hml hA hP hK hD hl
  have hown : s.vm.findClass RX4 = some m.cls := hown
  have hl : lv_has ls 3 [(0, .ref v0), (1, .int a1), (2, .int a2)] := hl
  have hS : va_S A s.heap s.heap [] := va_S.rf
  have fl21_ : (Cond.fieldLink RX4 21 "DimensionLoader$Versions" "values" "[I").before args s = true := hts _ (List.mem_of_getElem? (i := 1) rfl)
  have fl24_ : (Cond.fieldLink RX4 24 "DimensionLoader$Versions" "inferred" "[Z").before args s = true := hts _ (List.mem_of_getElem? (i := 2) rfl)
  have inX4_ : ∀ w ∈ wsX40, w ∈ wsX4_settle := in_X4_settle_X4
  unfold f_X4_settle at hf
  dsimp only at hf
  refine lv_aload_n hx hb dX4_settle_0 rfl (lv_at hl 0 rfl) ?_
  refine lv_iload_n hx hb dX4_settle_1 rfl (lv_at hl 1 rfl) ?_
  obtain ⟨R2, g3, hf⟩ := bd_B hf
  obtain ⟨r1, rfl⟩ : ∃ z, z = R2 := ⟨_, rfl⟩
  have hPc := hP
  have hDc := hD
  have hFc := va_free (wc := wV_ v0 v_keys v_firsts v_ends v_values v_inferred v_gone cI cZ vkeys vfirsts vends vvalues vinferred vgone vmade) hD hS hA [0, 1, 2, 3, 4, 5, 6] rfl
  refine va_calli (va_runV (As := [.int a1]) (rest := []) ⟨hx, hb, hml, hown, hts⟩ (c_X4_has l dC dI cI cZ cC cJ cD v0 v_keys v_firsts v_ends v_values v_inferred v_gone s.heap.size vkeys vfirsts vends vvalues vinferred vgone vmade a1 r1 g3) (cwV 1 hts gX4_settle_X4_has rfl rfl rfl hs_X4_has ⟨Nat.le_of_ble_eq_true rfl, Nat.le_of_ble_eq_true rfl⟩) (preV_ (ci := 6) (q0 := 0) hPc hK hDc rfl rfl rfl rfl) rfl rfl hl.1 rfl (lv_room (Nat.le_of_ble_eq_true rfl)) dX4_settle_2 ⟨Nat.le_of_ble_eq_true rfl, Nat.le_of_ble_eq_true rfl⟩) hS (fun q _ h => hFc q h) hFc (fun z5 u t H4 locs ht hvm hw hB hz1 hk1 hS => ?_)
  have hw : r1 = z5 := hw.symm
  subst hw
  obtain ⟨hP, hD⟩ := aft_ (Wr := []) (Wc' := wV_ v0 v_keys v_firsts v_ends v_values v_inferred v_gone cI cZ vkeys vfirsts vends vvalues vinferred vgone vmade) (W2 := wV_ v0 v_keys v_firsts v_ends v_values v_inferred v_gone cI cZ vkeys vfirsts vends vvalues vinferred vgone vmade) hP hD [0, 1, 2, 3, 4, 5, 6] [] [0, 1, 2, 3, 4, 5, 6] rfl rfl (by decide) (by decide) (by decide) hk1 hFc hB ht rfl
  refine lv_if_eq (tgt := 22) hx hb dX4_settle_5 (by decide) (fun c6 => ?_) (fun c6 => ?_)
  · have hf := ite_T c6 hf
    have hR := Option.some.inj hf
    subst hR
    exact W.vret hx hb hr (fun t ht hW => ⟨⟨(), rfl, trivial, by rw [ht]; exact hP, va_K.moved hW.alike hK, hD⟩, hS.F ht⟩) hS.2.2 dX4_settle_22
  · have hf := ite_F c6 hf
    refine lv_aload_n hx hb dX4_settle_8 rfl (lv_at hl 0 rfl) ?_
    refine va_get (D := (dC, dI)) (ci := 6) (v := .ref v_values) (C := RX4) (T := TX4) (N := 7) hx hb hts inX4_ hown hK hP 0 rfl rfl 3 (by decide) fl21_ (fun _ h9 => h9) rfl dX4_settle_9 ?_
    refine lv_iload_n hx hb dX4_settle_12 rfl (lv_at hl 1 rfl) ?_
    refine lv_iload_n hx hb dX4_settle_13 rfl (lv_at hl 2 rfl) ?_
    obtain ⟨h7, hf⟩ := gd_T hf
    refine va_iast hx hb hK hP hD hS 4 0 rfl rfl h7 dX4_settle_14 (fun H8 locs hP hD hS => ?_)
    have hP : va_P (dC, dI) vwCl (wV_ v0 v_keys v_firsts v_ends v_values v_inferred v_gone cI cZ vkeys vfirsts vends (upd vvalues a1.toNatClampNeg a2) vinferred vgone vmade) H8 := hP
    have hD : va_D A (wV_ v0 v_keys v_firsts v_ends v_values v_inferred v_gone cI cZ vkeys vfirsts vends (upd vvalues a1.toNatClampNeg a2) vinferred vgone vmade) := hD
    obtain ⟨u9, e10, hf⟩ := nm_T hf
    rw [← e10] at hP hD
    refine lv_aload_n hx hb dX4_settle_15 rfl (lv_at hl 0 rfl) ?_
    refine va_get (D := (dC, dI)) (ci := 6) (v := .ref v_inferred) (C := RX4) (T := TX4) (N := 7) hx hb hts inX4_ hown hK hP 0 rfl rfl 4 (by decide) fl24_ (fun _ h9 => h9) rfl dX4_settle_16 ?_
    refine lv_iload_n hx hb dX4_settle_19 rfl (lv_at hl 1 rfl) ?_
    refine lv_iconst (v := 0) hx hb dX4_settle_20 (by decide) ?_
    obtain ⟨h11, hf⟩ := gd_T hf
    refine va_zast hx hb hK hP hD hS 5 1 rfl rfl h11 dX4_settle_21 (fun H12 locs hP hD hS => ?_)
    have hP : va_P (dC, dI) vwCl (wV_ v0 v_keys v_firsts v_ends v_values v_inferred v_gone cI cZ vkeys vfirsts vends u9 (upd vinferred a1.toNatClampNeg (vp_nar .boolean (0 : Int32))) vgone vmade) H12 := hP
    have hD : va_D A (wV_ v0 v_keys v_firsts v_ends v_values v_inferred v_gone cI cZ vkeys vfirsts vends u9 (upd vinferred a1.toNatClampNeg (vp_nar .boolean (0 : Int32))) vgone vmade) := hD
    obtain ⟨u13, e14, hf⟩ := nm_T hf
    rw [← e14] at hP hD
    have hR := Option.some.inj hf
    subst hR
    exact W.vret hx hb hr (fun t ht hW => ⟨⟨(), rfl, trivial, by rw [ht]; exact hP, va_K.moved hW.alike hK, hD⟩, hS.F ht⟩) hS.2.2 dX4_settle_22
theorem hs_X4_settle : yX4_settle.cls = RX4 ∧ yX4_settle.cls ≠ "java/lang/invoke/MethodHandle" ∧ yX4_settle.cls ≠ "java/lang/invoke/VarHandle" ∧ (parseMethodDescriptor yX4_settle.desc).map (fun d => d.parameters.length) = some 2 := by decide +kernel
set_option maxRecDepth 20000 in
theorem in_X4_put_X4 : ∀ w ∈ wsX40, w ∈ wsX4_put := by decide +kernel
def f_X4_put (a1 : Int32) (a2 : Int32) (a3 : Int32) (V_ : tV_) : Option (Int32 × tV_) :=
match V_ with
| (vkeys, vfirsts, vends, vvalues, vinferred, vgone, vmade) =>
bd_ (f_X4_onDay a1 a2 (vkeys, vfirsts, vends, vvalues, vinferred, vgone, vmade)) (fun r1 =>
if r1 = (-1) then
bd_ (f_X4_cover a1 a2 (vkeys, vfirsts, vends, vvalues, vinferred, vgone, vmade)) (fun (r73, (vk74, vf75, ve76, vv77, vi78, vg79, vm80)) =>
if r73 = (-1) then
some (r73, (vk74, vf75, ve76, vv77, vi78, vg79, vm80))
else
bd_ (f_X4_settle r73 a3 (vk74, vf75, ve76, vv77, vi78, vg79, vm80)) (fun (vk86, vf87, ve88, vv89, vi90, vg91, vm92) =>
some (r73, (vk86, vf87, ve88, vv89, vi90, vg91, vm92))))
else
gd_ r1 60 (
if a2 ≤ (vfirsts r1.toNatClampNeg) then
if r1 = (-1) then
some (r1, (vkeys, vfirsts, vends, vvalues, vinferred, vgone, vmade))
else
bd_ (f_X4_settle r1 a3 (vkeys, vfirsts, vends, vvalues, vinferred, vgone, vmade)) (fun (vk10, vf11, ve12, vv13, vi14, vg15, vm16) =>
some (r1, (vk10, vf11, ve12, vv13, vi14, vg15, vm16)))
else
gd_ r1 60 (
if (vinferred r1.toNatClampNeg) = 0 then
gd_ r1 60 (
if (vvalues r1.toNatClampNeg) = a3 then
some (r1, (vkeys, vfirsts, vends, vvalues, vinferred, vgone, vmade))
else
bd_ (f_X4_split r1 a2 (vkeys, vfirsts, vends, vvalues, vinferred, vgone, vmade)) (fun (r49, (vk50, vf51, ve52, vv53, vi54, vg55, vm56)) =>
if r49 = (-1) then
some (r49, (vk50, vf51, ve52, vv53, vi54, vg55, vm56))
else
bd_ (f_X4_settle r49 a3 (vk50, vf51, ve52, vv53, vi54, vg55, vm56)) (fun (vk62, vf63, ve64, vv65, vi66, vg67, vm68) =>
some (r49, (vk62, vf63, ve64, vv65, vi66, vg67, vm68)))))
else
bd_ (f_X4_split r1 a2 (vkeys, vfirsts, vends, vvalues, vinferred, vgone, vmade)) (fun (r23, (vk24, vf25, ve26, vv27, vi28, vg29, vm30)) =>
if r23 = (-1) then
some (r23, (vk24, vf25, ve26, vv27, vi28, vg29, vm30))
else
bd_ (f_X4_settle r23 a3 (vk24, vf25, ve26, vv27, vi28, vg29, vm30)) (fun (vk36, vf37, ve38, vv39, vi40, vg41, vm42) =>
some (r23, (vk36, vf37, ve38, vv39, vi40, vg41, vm42)))))))
abbrev rm_X4_put : Room := { frames := 4, cells := 0, slots := 0, locals := 91 }
set_option maxHeartbeats 4000000 in
set_option maxRecDepth 100000 in
theorem c_X4_put (l : Launch) (dC : Nat → ClassId) (dI : Nat → Nat → Nat) (cI cZ cC cJ cD : ClassId) (v0 v_keys v_firsts v_ends v_values v_inferred v_gone : Nat) (sz : Nat) (vkeys : Nat → Int32) (vfirsts : Nat → Int32) (vends : Nat → Int32) (vvalues : Nat → Int32) (vinferred : Nat → Int32) (vgone : Nat → Int32) (vmade : Int32) (a1 : Int32) (a2 : Int32) (a3 : Int32) (R : Int32 × tV_) (hf : f_X4_put a1 a2 a3 (vkeys, vfirsts, vends, vvalues, vinferred, vgone, vmade) = some R) : Met l yX4_put wsX4_put rm_X4_put (Pc_ (dC, dI) (ty_ cI cZ cC cJ cD) (wV_ v0 v_keys v_firsts v_ends v_values v_inferred v_gone cI cZ vkeys vfirsts vends vvalues vinferred vgone vmade) sz [.ref v0, .int a1, .int a2, .int a3]) (Qi_ (dC, dI) (ty_ cI cZ cC cJ cD) R.1 (wV_ v0 v_keys v_firsts v_ends v_values v_inferred v_gone cI cZ R.2.1 R.2.2.1 R.2.2.2.1 R.2.2.2.2.1 R.2.2.2.2.2.1 R.2.2.2.2.2.2.1 R.2.2.2.2.2.2.2) (va_A (wV_ v0 v_keys v_firsts v_ends v_values v_inferred v_gone cI cZ vkeys vfirsts vends vvalues vinferred vgone vmade) sz)) 0 0 (va_A (wV_ v0 v_keys v_firsts v_ends v_values v_inferred v_gone cI cZ vkeys vfirsts vends vvalues vinferred vgone vmade) sz) := by
  refine met_ (cc := cX4_put) (maxL := 5) (ret := (some .int)) (Qcf := fun A => Qi_ (dC, dI) (ty_ cI cZ cC cJ cD) R.1 (wV_ v0 v_keys v_firsts v_ends v_values v_inferred v_gone cI cZ R.2.1 R.2.2.1 R.2.2.2.1 R.2.2.2.2.1 R.2.2.2.2.2.1 R.2.2.2.2.2.2.1 R.2.2.2.2.2.2.2) A) (by decide) rfl (Nat.le_of_ble_eq_true rfl) ?_
  intro p e s m args below meth c A ls hx hb hr hts hown hlocks hml hA hP hK hD hl
  have hown : s.vm.findClass RX4 = some m.cls := hown
  have hl : lv_has ls 5 [(0, .ref v0), (1, .int a1), (2, .int a2), (3, .int a3)] := hl
  have hS : va_S A s.heap s.heap [] := va_S.rf
  have fl15_ : (Cond.fieldLink RX4 15 "DimensionLoader$Versions" "firsts" "[I").before args s = true := hts _ (List.mem_of_getElem? (i := 1) rfl)
  have fl21_ : (Cond.fieldLink RX4 21 "DimensionLoader$Versions" "values" "[I").before args s = true := hts _ (List.mem_of_getElem? (i := 3) rfl)
  have fl24_ : (Cond.fieldLink RX4 24 "DimensionLoader$Versions" "inferred" "[Z").before args s = true := hts _ (List.mem_of_getElem? (i := 2) rfl)
  have inX4_ : ∀ w ∈ wsX40, w ∈ wsX4_put := in_X4_put_X4
  unfold f_X4_put at hf
  dsimp only at hf
  refine lv_aload_n hx hb dX4_put_0 rfl (lv_at hl 0 rfl) ?_
  refine lv_iload_n hx hb dX4_put_1 rfl (lv_at hl 1 rfl) ?_
  refine lv_iload_n hx hb dX4_put_2 rfl (lv_at hl 2 rfl) ?_
  obtain ⟨R2, g3, hf⟩ := bd_B hf
  obtain ⟨r1, rfl⟩ : ∃ z, z = R2 := ⟨_, rfl⟩
  have hPc := hP
  have hDc := hD
  have hFc := va_free (wc := wV_ v0 v_keys v_firsts v_ends v_values v_inferred v_gone cI cZ vkeys vfirsts vends vvalues vinferred vgone vmade) hD hS hA [0, 1, 2, 3, 4, 5, 6] rfl
  refine va_calli (va_runV (As := [.int a1, .int a2]) (rest := []) ⟨hx, hb, hml, hown, hts⟩ (c_X4_onDay l dC dI cI cZ cC cJ cD v0 v_keys v_firsts v_ends v_values v_inferred v_gone s.heap.size vkeys vfirsts vends vvalues vinferred vgone vmade a1 a2 r1 g3) (cwV 2 hts gX4_put_X4_onDay rfl rfl rfl hs_X4_onDay ⟨Nat.le_of_ble_eq_true rfl, Nat.le_of_ble_eq_true rfl⟩) (preV_ (ci := 6) (q0 := 0) hPc hK hDc rfl rfl rfl rfl) rfl rfl hl.1 rfl (lv_room (Nat.le_of_ble_eq_true rfl)) dX4_put_3 ⟨Nat.le_of_ble_eq_true rfl, Nat.le_of_ble_eq_true rfl⟩) hS (fun q _ h => hFc q h) hFc (fun z5 u t H4 locs ht hvm hw hB hz1 hk1 hS => ?_)
  have hw : r1 = z5 := hw.symm
  subst hw
  obtain ⟨hP, hD⟩ := aft_ (Wr := []) (Wc' := wV_ v0 v_keys v_firsts v_ends v_values v_inferred v_gone cI cZ vkeys vfirsts vends vvalues vinferred vgone vmade) (W2 := wV_ v0 v_keys v_firsts v_ends v_values v_inferred v_gone cI cZ vkeys vfirsts vends vvalues vinferred vgone vmade) hP hD [0, 1, 2, 3, 4, 5, 6] [] [0, 1, 2, 3, 4, 5, 6] rfl rfl (by decide) (by decide) (by decide) hk1 hFc hB ht rfl
  refine lv_istore (lv' := [(4, .int r1), (0, .ref v0), (1, .int a1), (2, .int a2), (3, .int a3)]) hx hb dX4_put_6 hl (by decide) rfl (fun ls hl => ?_)
  refine lv_iload hx hb dX4_put_8 (lv_at hl 0 rfl) ?_
  refine lv_iconst (v := (-1)) hx hb dX4_put_10 (by decide) ?_
  refine lv_icmp_ne (tgt := 25) hx hb dX4_put_11 (by decide) (fun c6 => ?_) (fun c6 => ?_)
  · have hf := ite_F c6 hf
    refine lv_aload_n hx hb dX4_put_25 rfl (lv_at hl 1 rfl) ?_
    refine va_get (D := (dC, dI)) (ci := 6) (v := .ref v_firsts) (C := RX4) (T := TX4) (N := 7) hx hb hts inX4_ hown hK hP 0 rfl rfl 1 (by decide) fl15_ (fun _ h9 => h9) rfl dX4_put_26 ?_
    refine lv_iload hx hb dX4_put_29 (lv_at hl 0 rfl) ?_
    obtain ⟨h7, hf⟩ := gd_T hf
    refine va_iald hx hb hK hP 2 0 rfl rfl h7 dX4_put_31 ?_
    refine lv_iload_n hx hb dX4_put_32 rfl (lv_at hl 3 rfl) ?_
    refine lv_icmp_ge (tgt := 69) hx hb dX4_put_33 (by decide) (fun c8 => ?_) (fun c8 => ?_)
    · have hf := ite_T c8 hf
      refine lv_iload hx hb dX4_put_69 (lv_at hl 0 rfl) ?_
      refine lv_iconst (v := (-1)) hx hb dX4_put_71 (by decide) ?_
      refine lv_icmp_eq (tgt := 82) hx hb dX4_put_72 (by decide) (fun c9 => ?_) (fun c9 => ?_)
      · have hf := ite_T c9 hf
        refine lv_iload hx hb dX4_put_82 (lv_at hl 0 rfl) ?_
        have hR := Option.some.inj hf
        subst hR
        exact W.iret (v := r1) hx hb hr (fun t ht hW => ⟨⟨r1, (), rfl, rfl, by rw [ht]; exact hP, va_K.moved hW.alike hK, hD⟩, hS.F ht⟩) hS.2.2 dX4_put_84
      · have hf := ite_F c9 hf
        refine lv_aload_n hx hb dX4_put_75 rfl (lv_at hl 1 rfl) ?_
        refine lv_iload hx hb dX4_put_76 (lv_at hl 0 rfl) ?_
        refine lv_iload_n hx hb dX4_put_78 rfl (lv_at hl 4 rfl) ?_
        obtain ⟨R17, g18, hf⟩ := bd_B hf
        obtain ⟨vk10, vf11, ve12, vv13, vi14, vg15, vm16⟩ := R17
        dsimp only at hf
        have hPc := hP
        have hDc := hD
        have hFc := va_free (wc := wV_ v0 v_keys v_firsts v_ends v_values v_inferred v_gone cI cZ vkeys vfirsts vends vvalues vinferred vgone vmade) hD hS hA [0, 1, 2, 3, 4, 5, 6] rfl
        refine va_callv (va_runV (As := [.int r1, .int a3]) (rest := []) ⟨hx, hb, hml, hown, hts⟩ (c_X4_settle l dC dI cI cZ cC cJ cD v0 v_keys v_firsts v_ends v_values v_inferred v_gone H4.size vkeys vfirsts vends vvalues vinferred vgone vmade r1 a3 (vk10, vf11, ve12, vv13, vi14, vg15, vm16) g18) (cwV 2 hts gX4_put_X4_settle rfl rfl rfl hs_X4_settle ⟨Nat.le_of_ble_eq_true rfl, Nat.le_of_ble_eq_true rfl⟩) (preV_ (ci := 6) (q0 := 0) hPc hK hDc rfl rfl rfl rfl) rfl rfl hl.1 rfl (lv_room (Nat.le_of_ble_eq_true rfl)) dX4_put_79 ⟨Nat.le_of_ble_eq_true rfl, Nat.le_of_ble_eq_true rfl⟩) hS (fun q _ h => hFc q h) hFc (fun u t H19 locs ht hvm hw hB hz1 hk1 hS => ?_)
        obtain ⟨hP, hD⟩ := aft_ (Wr := []) (Wc' := wV_ v0 v_keys v_firsts v_ends v_values v_inferred v_gone cI cZ vk10 vf11 ve12 vv13 vi14 vg15 vm16) (W2 := wV_ v0 v_keys v_firsts v_ends v_values v_inferred v_gone cI cZ vk10 vf11 ve12 vv13 vi14 vg15 vm16) hP hD [0, 1, 2, 3, 4, 5, 6] [] [0, 1, 2, 3, 4, 5, 6] rfl rfl (by decide) (by decide) (by decide) hk1 hFc hB ht rfl
        refine lv_iload hx hb dX4_put_82 (lv_at hl 0 rfl) ?_
        have hR := Option.some.inj hf
        subst hR
        exact W.iret (v := r1) hx hb hr (fun t ht hW => ⟨⟨r1, (), rfl, rfl, by rw [ht]; exact hP, va_K.moved hW.alike hK, hD⟩, hS.F ht⟩) hS.2.2 dX4_put_84
    · have hf := ite_F c8 hf
      refine lv_aload_n hx hb dX4_put_36 rfl (lv_at hl 1 rfl) ?_
      refine va_get (D := (dC, dI)) (ci := 6) (v := .ref v_inferred) (C := RX4) (T := TX4) (N := 7) hx hb hts inX4_ hown hK hP 0 rfl rfl 4 (by decide) fl24_ (fun _ h9 => h9) rfl dX4_put_37 ?_
      refine lv_iload hx hb dX4_put_40 (lv_at hl 0 rfl) ?_
      obtain ⟨h21, hf⟩ := gd_T hf
      refine va_zald hx hb hK hP 5 1 rfl rfl h21 dX4_put_42 ?_
      refine lv_if_ne (tgt := 60) hx hb dX4_put_43 (by decide) (fun c22 => ?_) (fun c22 => ?_)
      · have hf := ite_F c22 hf
        refine lv_aload_n hx hb dX4_put_60 rfl (lv_at hl 1 rfl) ?_
        refine lv_iload hx hb dX4_put_61 (lv_at hl 0 rfl) ?_
        refine lv_iload_n hx hb dX4_put_63 rfl (lv_at hl 3 rfl) ?_
        obtain ⟨R31, g32, hf⟩ := bd_B hf
        obtain ⟨r23, ⟨vk24, vf25, ve26, vv27, vi28, vg29, vm30⟩⟩ := R31
        dsimp only at hf
        have hPc := hP
        have hDc := hD
        have hFc := va_free (wc := wV_ v0 v_keys v_firsts v_ends v_values v_inferred v_gone cI cZ vkeys vfirsts vends vvalues vinferred vgone vmade) hD hS hA [0, 1, 2, 3, 4, 5, 6] rfl
        refine va_calli (va_runV (As := [.int r1, .int a2]) (rest := []) ⟨hx, hb, hml, hown, hts⟩ (c_X4_split l dC dI cI cZ cC cJ cD v0 v_keys v_firsts v_ends v_values v_inferred v_gone H4.size vkeys vfirsts vends vvalues vinferred vgone vmade r1 a2 (r23, (vk24, vf25, ve26, vv27, vi28, vg29, vm30)) g32) (cwV 2 hts gX4_put_X4_split rfl rfl rfl hs_X4_split ⟨Nat.le_of_ble_eq_true rfl, Nat.le_of_ble_eq_true rfl⟩) (preV_ (ci := 6) (q0 := 0) hPc hK hDc rfl rfl rfl rfl) rfl rfl hl.1 rfl (lv_room (Nat.le_of_ble_eq_true rfl)) dX4_put_64 ⟨Nat.le_of_ble_eq_true rfl, Nat.le_of_ble_eq_true rfl⟩) hS (fun q _ h => hFc q h) hFc (fun z34 u t H33 locs ht hvm hw hB hz1 hk1 hS => ?_)
        have hw : r23 = z34 := hw.symm
        subst hw
        obtain ⟨hP, hD⟩ := aft_ (Wr := []) (Wc' := wV_ v0 v_keys v_firsts v_ends v_values v_inferred v_gone cI cZ vk24 vf25 ve26 vv27 vi28 vg29 vm30) (W2 := wV_ v0 v_keys v_firsts v_ends v_values v_inferred v_gone cI cZ vk24 vf25 ve26 vv27 vi28 vg29 vm30) hP hD [0, 1, 2, 3, 4, 5, 6] [] [0, 1, 2, 3, 4, 5, 6] rfl rfl (by decide) (by decide) (by decide) hk1 hFc hB ht rfl
        refine lv_istore (lv' := [(4, .int r23), (0, .ref v0), (1, .int a1), (2, .int a2), (3, .int a3)]) hx hb dX4_put_67 hl (by decide) rfl (fun ls hl => ?_)
        refine lv_iload hx hb dX4_put_69 (lv_at hl 0 rfl) ?_
        refine lv_iconst (v := (-1)) hx hb dX4_put_71 (by decide) ?_
        refine lv_icmp_eq (tgt := 82) hx hb dX4_put_72 (by decide) (fun c35 => ?_) (fun c35 => ?_)
        · have hf := ite_T c35 hf
          refine lv_iload hx hb dX4_put_82 (lv_at hl 0 rfl) ?_
          have hR := Option.some.inj hf
          subst hR
          exact W.iret (v := r23) hx hb hr (fun t ht hW => ⟨⟨r23, (), rfl, rfl, by rw [ht]; exact hP, va_K.moved hW.alike hK, hD⟩, hS.F ht⟩) hS.2.2 dX4_put_84
        · have hf := ite_F c35 hf
          refine lv_aload_n hx hb dX4_put_75 rfl (lv_at hl 1 rfl) ?_
          refine lv_iload hx hb dX4_put_76 (lv_at hl 0 rfl) ?_
          refine lv_iload_n hx hb dX4_put_78 rfl (lv_at hl 4 rfl) ?_
          obtain ⟨R43, g44, hf⟩ := bd_B hf
          obtain ⟨vk36, vf37, ve38, vv39, vi40, vg41, vm42⟩ := R43
          dsimp only at hf
          have hPc := hP
          have hDc := hD
          have hFc := va_free (wc := wV_ v0 v_keys v_firsts v_ends v_values v_inferred v_gone cI cZ vk24 vf25 ve26 vv27 vi28 vg29 vm30) hD hS hA [0, 1, 2, 3, 4, 5, 6] rfl
          refine va_callv (va_runV (As := [.int r23, .int a3]) (rest := []) ⟨hx, hb, hml, hown, hts⟩ (c_X4_settle l dC dI cI cZ cC cJ cD v0 v_keys v_firsts v_ends v_values v_inferred v_gone H33.size vk24 vf25 ve26 vv27 vi28 vg29 vm30 r23 a3 (vk36, vf37, ve38, vv39, vi40, vg41, vm42) g44) (cwV 2 hts gX4_put_X4_settle rfl rfl rfl hs_X4_settle ⟨Nat.le_of_ble_eq_true rfl, Nat.le_of_ble_eq_true rfl⟩) (preV_ (ci := 6) (q0 := 0) hPc hK hDc rfl rfl rfl rfl) rfl rfl hl.1 rfl (lv_room (Nat.le_of_ble_eq_true rfl)) dX4_put_79 ⟨Nat.le_of_ble_eq_true rfl, Nat.le_of_ble_eq_true rfl⟩) hS (fun q _ h => hFc q h) hFc (fun u t H45 locs ht hvm hw hB hz1 hk1 hS => ?_)
          obtain ⟨hP, hD⟩ := aft_ (Wr := []) (Wc' := wV_ v0 v_keys v_firsts v_ends v_values v_inferred v_gone cI cZ vk36 vf37 ve38 vv39 vi40 vg41 vm42) (W2 := wV_ v0 v_keys v_firsts v_ends v_values v_inferred v_gone cI cZ vk36 vf37 ve38 vv39 vi40 vg41 vm42) hP hD [0, 1, 2, 3, 4, 5, 6] [] [0, 1, 2, 3, 4, 5, 6] rfl rfl (by decide) (by decide) (by decide) hk1 hFc hB ht rfl
          refine lv_iload hx hb dX4_put_82 (lv_at hl 0 rfl) ?_
          have hR := Option.some.inj hf
          subst hR
          exact W.iret (v := r23) hx hb hr (fun t ht hW => ⟨⟨r23, (), rfl, rfl, by rw [ht]; exact hP, va_K.moved hW.alike hK, hD⟩, hS.F ht⟩) hS.2.2 dX4_put_84
      · have hf := ite_T c22 hf
        refine lv_aload_n hx hb dX4_put_46 rfl (lv_at hl 1 rfl) ?_
        refine va_get (D := (dC, dI)) (ci := 6) (v := .ref v_values) (C := RX4) (T := TX4) (N := 7) hx hb hts inX4_ hown hK hP 0 rfl rfl 3 (by decide) fl21_ (fun _ h9 => h9) rfl dX4_put_47 ?_
        refine lv_iload hx hb dX4_put_50 (lv_at hl 0 rfl) ?_
        obtain ⟨h47, hf⟩ := gd_T hf
        refine va_iald hx hb hK hP 4 0 rfl rfl h47 dX4_put_52 ?_
        refine lv_iload_n hx hb dX4_put_53 rfl (lv_at hl 4 rfl) ?_
        refine lv_icmp_ne (tgt := 60) hx hb dX4_put_54 (by decide) (fun c48 => ?_) (fun c48 => ?_)
        · have hf := ite_F c48 hf
          refine lv_aload_n hx hb dX4_put_60 rfl (lv_at hl 1 rfl) ?_
          refine lv_iload hx hb dX4_put_61 (lv_at hl 0 rfl) ?_
          refine lv_iload_n hx hb dX4_put_63 rfl (lv_at hl 3 rfl) ?_
          obtain ⟨R57, g58, hf⟩ := bd_B hf
          obtain ⟨r49, ⟨vk50, vf51, ve52, vv53, vi54, vg55, vm56⟩⟩ := R57
          dsimp only at hf
          have hPc := hP
          have hDc := hD
          have hFc := va_free (wc := wV_ v0 v_keys v_firsts v_ends v_values v_inferred v_gone cI cZ vkeys vfirsts vends vvalues vinferred vgone vmade) hD hS hA [0, 1, 2, 3, 4, 5, 6] rfl
          refine va_calli (va_runV (As := [.int r1, .int a2]) (rest := []) ⟨hx, hb, hml, hown, hts⟩ (c_X4_split l dC dI cI cZ cC cJ cD v0 v_keys v_firsts v_ends v_values v_inferred v_gone H4.size vkeys vfirsts vends vvalues vinferred vgone vmade r1 a2 (r49, (vk50, vf51, ve52, vv53, vi54, vg55, vm56)) g58) (cwV 2 hts gX4_put_X4_split rfl rfl rfl hs_X4_split ⟨Nat.le_of_ble_eq_true rfl, Nat.le_of_ble_eq_true rfl⟩) (preV_ (ci := 6) (q0 := 0) hPc hK hDc rfl rfl rfl rfl) rfl rfl hl.1 rfl (lv_room (Nat.le_of_ble_eq_true rfl)) dX4_put_64 ⟨Nat.le_of_ble_eq_true rfl, Nat.le_of_ble_eq_true rfl⟩) hS (fun q _ h => hFc q h) hFc (fun z60 u t H59 locs ht hvm hw hB hz1 hk1 hS => ?_)
          have hw : r49 = z60 := hw.symm
          subst hw
          obtain ⟨hP, hD⟩ := aft_ (Wr := []) (Wc' := wV_ v0 v_keys v_firsts v_ends v_values v_inferred v_gone cI cZ vk50 vf51 ve52 vv53 vi54 vg55 vm56) (W2 := wV_ v0 v_keys v_firsts v_ends v_values v_inferred v_gone cI cZ vk50 vf51 ve52 vv53 vi54 vg55 vm56) hP hD [0, 1, 2, 3, 4, 5, 6] [] [0, 1, 2, 3, 4, 5, 6] rfl rfl (by decide) (by decide) (by decide) hk1 hFc hB ht rfl
          refine lv_istore (lv' := [(4, .int r49), (0, .ref v0), (1, .int a1), (2, .int a2), (3, .int a3)]) hx hb dX4_put_67 hl (by decide) rfl (fun ls hl => ?_)
          refine lv_iload hx hb dX4_put_69 (lv_at hl 0 rfl) ?_
          refine lv_iconst (v := (-1)) hx hb dX4_put_71 (by decide) ?_
          refine lv_icmp_eq (tgt := 82) hx hb dX4_put_72 (by decide) (fun c61 => ?_) (fun c61 => ?_)
          · have hf := ite_T c61 hf
            refine lv_iload hx hb dX4_put_82 (lv_at hl 0 rfl) ?_
            have hR := Option.some.inj hf
            subst hR
            exact W.iret (v := r49) hx hb hr (fun t ht hW => ⟨⟨r49, (), rfl, rfl, by rw [ht]; exact hP, va_K.moved hW.alike hK, hD⟩, hS.F ht⟩) hS.2.2 dX4_put_84
          · have hf := ite_F c61 hf
            refine lv_aload_n hx hb dX4_put_75 rfl (lv_at hl 1 rfl) ?_
            refine lv_iload hx hb dX4_put_76 (lv_at hl 0 rfl) ?_
            refine lv_iload_n hx hb dX4_put_78 rfl (lv_at hl 4 rfl) ?_
            obtain ⟨R69, g70, hf⟩ := bd_B hf
            obtain ⟨vk62, vf63, ve64, vv65, vi66, vg67, vm68⟩ := R69
            dsimp only at hf
            have hPc := hP
            have hDc := hD
            have hFc := va_free (wc := wV_ v0 v_keys v_firsts v_ends v_values v_inferred v_gone cI cZ vk50 vf51 ve52 vv53 vi54 vg55 vm56) hD hS hA [0, 1, 2, 3, 4, 5, 6] rfl
            refine va_callv (va_runV (As := [.int r49, .int a3]) (rest := []) ⟨hx, hb, hml, hown, hts⟩ (c_X4_settle l dC dI cI cZ cC cJ cD v0 v_keys v_firsts v_ends v_values v_inferred v_gone H59.size vk50 vf51 ve52 vv53 vi54 vg55 vm56 r49 a3 (vk62, vf63, ve64, vv65, vi66, vg67, vm68) g70) (cwV 2 hts gX4_put_X4_settle rfl rfl rfl hs_X4_settle ⟨Nat.le_of_ble_eq_true rfl, Nat.le_of_ble_eq_true rfl⟩) (preV_ (ci := 6) (q0 := 0) hPc hK hDc rfl rfl rfl rfl) rfl rfl hl.1 rfl (lv_room (Nat.le_of_ble_eq_true rfl)) dX4_put_79 ⟨Nat.le_of_ble_eq_true rfl, Nat.le_of_ble_eq_true rfl⟩) hS (fun q _ h => hFc q h) hFc (fun u t H71 locs ht hvm hw hB hz1 hk1 hS => ?_)
            obtain ⟨hP, hD⟩ := aft_ (Wr := []) (Wc' := wV_ v0 v_keys v_firsts v_ends v_values v_inferred v_gone cI cZ vk62 vf63 ve64 vv65 vi66 vg67 vm68) (W2 := wV_ v0 v_keys v_firsts v_ends v_values v_inferred v_gone cI cZ vk62 vf63 ve64 vv65 vi66 vg67 vm68) hP hD [0, 1, 2, 3, 4, 5, 6] [] [0, 1, 2, 3, 4, 5, 6] rfl rfl (by decide) (by decide) (by decide) hk1 hFc hB ht rfl
            refine lv_iload hx hb dX4_put_82 (lv_at hl 0 rfl) ?_
            have hR := Option.some.inj hf
            subst hR
            exact W.iret (v := r49) hx hb hr (fun t ht hW => ⟨⟨r49, (), rfl, rfl, by rw [ht]; exact hP, va_K.moved hW.alike hK, hD⟩, hS.F ht⟩) hS.2.2 dX4_put_84
        · have hf := ite_T c48 hf
          refine lv_iload hx hb dX4_put_57 (lv_at hl 0 rfl) ?_
          have hR := Option.some.inj hf
          subst hR
          exact W.iret (v := r1) hx hb hr (fun t ht hW => ⟨⟨r1, (), rfl, rfl, by rw [ht]; exact hP, va_K.moved hW.alike hK, hD⟩, hS.F ht⟩) hS.2.2 dX4_put_59
  · have hf := ite_T c6 hf
    refine lv_aload_n hx hb dX4_put_14 rfl (lv_at hl 1 rfl) ?_
    refine lv_iload_n hx hb dX4_put_15 rfl (lv_at hl 2 rfl) ?_
    refine lv_iload_n hx hb dX4_put_16 rfl (lv_at hl 3 rfl) ?_
    obtain ⟨R81, g82, hf⟩ := bd_B hf
    obtain ⟨r73, ⟨vk74, vf75, ve76, vv77, vi78, vg79, vm80⟩⟩ := R81
    dsimp only at hf
    have hPc := hP
    have hDc := hD
    have hFc := va_free (wc := wV_ v0 v_keys v_firsts v_ends v_values v_inferred v_gone cI cZ vkeys vfirsts vends vvalues vinferred vgone vmade) hD hS hA [0, 1, 2, 3, 4, 5, 6] rfl
    refine va_calli (va_runV (As := [.int a1, .int a2]) (rest := []) ⟨hx, hb, hml, hown, hts⟩ (c_X4_cover l dC dI cI cZ cC cJ cD v0 v_keys v_firsts v_ends v_values v_inferred v_gone H4.size vkeys vfirsts vends vvalues vinferred vgone vmade a1 a2 (r73, (vk74, vf75, ve76, vv77, vi78, vg79, vm80)) g82) (cwV 2 hts gX4_put_X4_cover rfl rfl rfl hs_X4_cover ⟨Nat.le_of_ble_eq_true rfl, Nat.le_of_ble_eq_true rfl⟩) (preV_ (ci := 6) (q0 := 0) hPc hK hDc rfl rfl rfl rfl) rfl rfl hl.1 rfl (lv_room (Nat.le_of_ble_eq_true rfl)) dX4_put_17 ⟨Nat.le_of_ble_eq_true rfl, Nat.le_of_ble_eq_true rfl⟩) hS (fun q _ h => hFc q h) hFc (fun z84 u t H83 locs ht hvm hw hB hz1 hk1 hS => ?_)
    have hw : r73 = z84 := hw.symm
    subst hw
    obtain ⟨hP, hD⟩ := aft_ (Wr := []) (Wc' := wV_ v0 v_keys v_firsts v_ends v_values v_inferred v_gone cI cZ vk74 vf75 ve76 vv77 vi78 vg79 vm80) (W2 := wV_ v0 v_keys v_firsts v_ends v_values v_inferred v_gone cI cZ vk74 vf75 ve76 vv77 vi78 vg79 vm80) hP hD [0, 1, 2, 3, 4, 5, 6] [] [0, 1, 2, 3, 4, 5, 6] rfl rfl (by decide) (by decide) (by decide) hk1 hFc hB ht rfl
    refine lv_istore (lv' := [(4, .int r73), (0, .ref v0), (1, .int a1), (2, .int a2), (3, .int a3)]) hx hb dX4_put_20 hl (by decide) rfl (fun ls hl => ?_)
    refine lv_goto (tgt := 69) hx hb dX4_put_22 (by decide) ?_
    refine lv_iload hx hb dX4_put_69 (lv_at hl 0 rfl) ?_
    refine lv_iconst (v := (-1)) hx hb dX4_put_71 (by decide) ?_
    refine lv_icmp_eq (tgt := 82) hx hb dX4_put_72 (by decide) (fun c85 => ?_) (fun c85 => ?_)
    · have hf := ite_T c85 hf
      refine lv_iload hx hb dX4_put_82 (lv_at hl 0 rfl) ?_
      have hR := Option.some.inj hf
      subst hR
      exact W.iret (v := r73) hx hb hr (fun t ht hW => ⟨⟨r73, (), rfl, rfl, by rw [ht]; exact hP, va_K.moved hW.alike hK, hD⟩, hS.F ht⟩) hS.2.2 dX4_put_84
    · have hf := ite_F c85 hf
      refine lv_aload_n hx hb dX4_put_75 rfl (lv_at hl 1 rfl) ?_
      refine lv_iload hx hb dX4_put_76 (lv_at hl 0 rfl) ?_
      refine lv_iload_n hx hb dX4_put_78 rfl (lv_at hl 4 rfl) ?_
      obtain ⟨R93, g94, hf⟩ := bd_B hf
      obtain ⟨vk86, vf87, ve88, vv89, vi90, vg91, vm92⟩ := R93
      dsimp only at hf
      have hPc := hP
      have hDc := hD
      have hFc := va_free (wc := wV_ v0 v_keys v_firsts v_ends v_values v_inferred v_gone cI cZ vk74 vf75 ve76 vv77 vi78 vg79 vm80) hD hS hA [0, 1, 2, 3, 4, 5, 6] rfl
      refine va_callv (va_runV (As := [.int r73, .int a3]) (rest := []) ⟨hx, hb, hml, hown, hts⟩ (c_X4_settle l dC dI cI cZ cC cJ cD v0 v_keys v_firsts v_ends v_values v_inferred v_gone H83.size vk74 vf75 ve76 vv77 vi78 vg79 vm80 r73 a3 (vk86, vf87, ve88, vv89, vi90, vg91, vm92) g94) (cwV 2 hts gX4_put_X4_settle rfl rfl rfl hs_X4_settle ⟨Nat.le_of_ble_eq_true rfl, Nat.le_of_ble_eq_true rfl⟩) (preV_ (ci := 6) (q0 := 0) hPc hK hDc rfl rfl rfl rfl) rfl rfl hl.1 rfl (lv_room (Nat.le_of_ble_eq_true rfl)) dX4_put_79 ⟨Nat.le_of_ble_eq_true rfl, Nat.le_of_ble_eq_true rfl⟩) hS (fun q _ h => hFc q h) hFc (fun u t H95 locs ht hvm hw hB hz1 hk1 hS => ?_)
      obtain ⟨hP, hD⟩ := aft_ (Wr := []) (Wc' := wV_ v0 v_keys v_firsts v_ends v_values v_inferred v_gone cI cZ vk86 vf87 ve88 vv89 vi90 vg91 vm92) (W2 := wV_ v0 v_keys v_firsts v_ends v_values v_inferred v_gone cI cZ vk86 vf87 ve88 vv89 vi90 vg91 vm92) hP hD [0, 1, 2, 3, 4, 5, 6] [] [0, 1, 2, 3, 4, 5, 6] rfl rfl (by decide) (by decide) (by decide) hk1 hFc hB ht rfl
      refine lv_iload hx hb dX4_put_82 (lv_at hl 0 rfl) ?_
      have hR := Option.some.inj hf
      subst hR
      exact W.iret (v := r73) hx hb hr (fun t ht hW => ⟨⟨r73, (), rfl, rfl, by rw [ht]; exact hP, va_K.moved hW.alike hK, hD⟩, hS.F ht⟩) hS.2.2 dX4_put_84
theorem hs_X4_put : yX4_put.cls = RX4 ∧ yX4_put.cls ≠ "java/lang/invoke/MethodHandle" ∧ yX4_put.cls ≠ "java/lang/invoke/VarHandle" ∧ (parseMethodDescriptor yX4_put.desc).map (fun d => d.parameters.length) = some 3 := by decide +kernel
set_option maxRecDepth 20000 in
theorem in_X4_endingWhereBegins_X4 : ∀ w ∈ wsX40, w ∈ wsX4_endingWhereBegins := by decide +kernel
def f_X4_endingWhereBegins_S12 (k_ : Int32 → Int32 → tV_ → Option (Int32)) (l2 : Int32) (l1 : Int32) (V_ : tV_) : Option (Int32) :=
match V_ with
| (vkeys, vfirsts, vends, vvalues, vinferred, vgone, vmade) =>
if vmade ≤ l2 then
some (-1 : Int32)
else
gd_ l1 60 (
bd_ (f_X4_isOf l2 (vkeys l1.toNatClampNeg) (vkeys, vfirsts, vends, vvalues, vinferred, vgone, vmade)) (fun r10 =>
if r10 = 0 then
k_ (l2 + 1) l1 (vkeys, vfirsts, vends, vvalues, vinferred, vgone, vmade)
else
gd_ l2 60 (
gd_ l1 60 (
if (vends l2.toNatClampNeg) = (vfirsts l1.toNatClampNeg) then
some l2
else
k_ (l2 + 1) l1 (vkeys, vfirsts, vends, vvalues, vinferred, vgone, vmade)))))
def f_X4_endingWhereBegins_L12 : Nat → Int32 → Int32 → tV_ → Option (Int32)
  | 0 => fun _ _ _ => none
  | n + 1 => fun l2 l1 V_ => f_X4_endingWhereBegins_S12 (f_X4_endingWhereBegins_L12 n) l2 l1 V_
def f_X4_endingWhereBegins (a1 : Int32) (V_ : tV_) : Option (Int32) :=
match V_ with
| (vkeys, vfirsts, vends, vvalues, vinferred, vgone, vmade) =>
bd_ (f_X4_has a1 (vkeys, vfirsts, vends, vvalues, vinferred, vgone, vmade)) (fun r1 =>
if r1 = 0 then
some (-1 : Int32)
else
f_X4_endingWhereBegins_L12 fu_ (0 : Int32) a1 (vkeys, vfirsts, vends, vvalues, vinferred, vgone, vmade))
abbrev rm_X4_endingWhereBegins : Room := { frames := 2, cells := 0, slots := 0, locals := 43 }
set_option maxHeartbeats 4000000 in
set_option maxRecDepth 100000 in
theorem c_X4_endingWhereBegins (l : Launch) (dC : Nat → ClassId) (dI : Nat → Nat → Nat) (cI cZ cC cJ cD : ClassId) (v0 v_keys v_firsts v_ends v_values v_inferred v_gone : Nat) (sz : Nat) (vkeys : Nat → Int32) (vfirsts : Nat → Int32) (vends : Nat → Int32) (vvalues : Nat → Int32) (vinferred : Nat → Int32) (vgone : Nat → Int32) (vmade : Int32) (a1 : Int32) (R : Int32) (hf : f_X4_endingWhereBegins a1 (vkeys, vfirsts, vends, vvalues, vinferred, vgone, vmade) = some R) : Met l yX4_endingWhereBegins wsX4_endingWhereBegins rm_X4_endingWhereBegins (Pc_ (dC, dI) (ty_ cI cZ cC cJ cD) (wV_ v0 v_keys v_firsts v_ends v_values v_inferred v_gone cI cZ vkeys vfirsts vends vvalues vinferred vgone vmade) sz [.ref v0, .int a1]) (Qi_ (dC, dI) (ty_ cI cZ cC cJ cD) R (wV_ v0 v_keys v_firsts v_ends v_values v_inferred v_gone cI cZ vkeys vfirsts vends vvalues vinferred vgone vmade) (va_A (wV_ v0 v_keys v_firsts v_ends v_values v_inferred v_gone cI cZ vkeys vfirsts vends vvalues vinferred vgone vmade) sz)) 0 0 (va_A (wV_ v0 v_keys v_firsts v_ends v_values v_inferred v_gone cI cZ vkeys vfirsts vends vvalues vinferred vgone vmade) sz) := by
  refine met_ (cc := cX4_endingWhereBegins) (maxL := 3) (ret := (some .int)) (Qcf := fun A => Qi_ (dC, dI) (ty_ cI cZ cC cJ cD) R (wV_ v0 v_keys v_firsts v_ends v_values v_inferred v_gone cI cZ vkeys vfirsts vends vvalues vinferred vgone vmade) A) (by decide) rfl (Nat.le_of_ble_eq_true rfl) ?_
  intro p e s m args below meth c A ls hx hb hr hts hown hlocks hml hA hP hK hD hl
  have hown : s.vm.findClass RX4 = some m.cls := hown
  have hl : lv_has ls 3 [(0, .ref v0), (1, .int a1)] := hl
  have hS : va_S A s.heap s.heap [] := va_S.rf
  have fl9_ : (Cond.fieldLink RX4 9 "DimensionLoader$Versions" "keys" "[I").before args s = true := hts _ (List.mem_of_getElem? (i := 2) rfl)
  have fl15_ : (Cond.fieldLink RX4 15 "DimensionLoader$Versions" "firsts" "[I").before args s = true := hts _ (List.mem_of_getElem? (i := 4) rfl)
  have fl18_ : (Cond.fieldLink RX4 18 "DimensionLoader$Versions" "ends" "[I").before args s = true := hts _ (List.mem_of_getElem? (i := 3) rfl)
  have fl31_ : (Cond.fieldLink RX4 31 "DimensionLoader$Versions" "made" "I").before args s = true := hts _ (List.mem_of_getElem? (i := 1) rfl)
  have inX4_ : ∀ w ∈ wsX40, w ∈ wsX4_endingWhereBegins := in_X4_endingWhereBegins_X4
  unfold f_X4_endingWhereBegins at hf
  dsimp only at hf
  refine lv_aload_n hx hb dX4_endingWhereBegins_0 rfl (lv_at hl 0 rfl) ?_
  refine lv_iload_n hx hb dX4_endingWhereBegins_1 rfl (lv_at hl 1 rfl) ?_
  obtain ⟨R2, g3, hf⟩ := bd_B hf
  obtain ⟨r1, rfl⟩ : ∃ z, z = R2 := ⟨_, rfl⟩
  have hPc := hP
  have hDc := hD
  have hFc := va_free (wc := wV_ v0 v_keys v_firsts v_ends v_values v_inferred v_gone cI cZ vkeys vfirsts vends vvalues vinferred vgone vmade) hD hS hA [0, 1, 2, 3, 4, 5, 6] rfl
  refine va_calli (va_runV (As := [.int a1]) (rest := []) ⟨hx, hb, hml, hown, hts⟩ (c_X4_has l dC dI cI cZ cC cJ cD v0 v_keys v_firsts v_ends v_values v_inferred v_gone s.heap.size vkeys vfirsts vends vvalues vinferred vgone vmade a1 r1 g3) (cwV 1 hts gX4_endingWhereBegins_X4_has rfl rfl rfl hs_X4_has ⟨Nat.le_of_ble_eq_true rfl, Nat.le_of_ble_eq_true rfl⟩) (preV_ (ci := 6) (q0 := 0) hPc hK hDc rfl rfl rfl rfl) rfl rfl hl.1 rfl (lv_room (Nat.le_of_ble_eq_true rfl)) dX4_endingWhereBegins_2 ⟨Nat.le_of_ble_eq_true rfl, Nat.le_of_ble_eq_true rfl⟩) hS (fun q _ h => hFc q h) hFc (fun z5 u t H4 locs ht hvm hw hB hz1 hk1 hS => ?_)
  have hw : r1 = z5 := hw.symm
  subst hw
  obtain ⟨hP, hD⟩ := aft_ (Wr := []) (Wc' := wV_ v0 v_keys v_firsts v_ends v_values v_inferred v_gone cI cZ vkeys vfirsts vends vvalues vinferred vgone vmade) (W2 := wV_ v0 v_keys v_firsts v_ends v_values v_inferred v_gone cI cZ vkeys vfirsts vends vvalues vinferred vgone vmade) hP hD [0, 1, 2, 3, 4, 5, 6] [] [0, 1, 2, 3, 4, 5, 6] rfl rfl (by decide) (by decide) (by decide) hk1 hFc hB ht rfl
  refine lv_if_ne (tgt := 10) hx hb dX4_endingWhereBegins_5 (by decide) (fun c6 => ?_) (fun c6 => ?_)
  · have hf := ite_F c6 hf
    refine lv_iconst (v := 0) hx hb dX4_endingWhereBegins_10 (by decide) ?_
    refine lv_istore_n (lv' := [(2, .int 0), (0, .ref v0), (1, .int a1)]) hx hb dX4_endingWhereBegins_11 rfl hl (by decide) rfl (fun ls hl => ?_)
    have lp12 : ∀ (n : Nat) (l2 : Int32) (l1 : Int32) (vkeys : Nat → Int32) (vfirsts : Nat → Int32) (vends : Nat → Int32) (vvalues : Nat → Int32) (vinferred : Nat → Int32) (vgone : Nat → Int32) (vmade : Int32) (H7 : Heap) (locs : List Loc) (ls : Array Slot), f_X4_endingWhereBegins_L12 n l2 l1 (vkeys, vfirsts, vends, vvalues, vinferred, vgone, vmade) = some R → va_P (dC, dI) vwCl (wV_ v0 v_keys v_firsts v_ends v_values v_inferred v_gone cI cZ vkeys vfirsts vends vvalues vinferred vgone vmade) H7 → va_D A (wV_ v0 v_keys v_firsts v_ends v_values v_inferred v_gone cI cZ vkeys vfirsts vends vvalues vinferred vgone vmade) → va_S A s.heap H7 locs → lv_has ls 3 [(2, .int l2), (0, .ref v0), (1, .int l1)] → W p l e (headSpec wsX4_endingWhereBegins rm_X4_endingWhereBegins).room s m args below meth c H7 locs 0 0 (MQ below (Qi_ (dC, dI) (ty_ cI cZ cC cJ cD) R (wV_ v0 v_keys v_firsts v_ends v_values v_inferred v_gone cI cZ vkeys vfirsts vends vvalues vinferred vgone vmade) A) args s 0 0 A) (F0 m 12 ls []) := by
      intro n
      induction n with
      | zero => intro l2 l1 vkeys vfirsts vends vvalues vinferred vgone vmade H7 locs ls hf hP hD hS hl; exact absurd hf (by simp [f_X4_endingWhereBegins_L12])
      | succ n ih =>
        intro l2 l1 vkeys vfirsts vends vvalues vinferred vgone vmade H7 locs ls hf hP hD hS hl
        have hf : f_X4_endingWhereBegins_S12 (f_X4_endingWhereBegins_L12 n) l2 l1 (vkeys, vfirsts, vends, vvalues, vinferred, vgone, vmade) = some R := hf
        unfold f_X4_endingWhereBegins_S12 at hf
        dsimp only at hf
        refine lv_iload_n hx hb dX4_endingWhereBegins_12 rfl (lv_at hl 0 rfl) ?_
        refine lv_aload_n hx hb dX4_endingWhereBegins_13 rfl (lv_at hl 1 rfl) ?_
        refine va_get (D := (dC, dI)) (ci := 6) (v := .int vmade) (C := RX4) (T := TX4) (N := 7) hx hb hts inX4_ hown hK hP 0 rfl rfl 6 (by decide) fl31_ (fun _ h9 => h9) rfl dX4_endingWhereBegins_14 ?_
        refine lv_icmp_ge (tgt := 57) hx hb dX4_endingWhereBegins_17 (by decide) (fun c8 => ?_) (fun c8 => ?_)
        · have hf := ite_T c8 hf
          refine lv_iconst (v := (-1)) hx hb dX4_endingWhereBegins_57 (by decide) ?_
          have hR := Option.some.inj hf
          subst hR
          exact W.iret (v := (-1 : Int32)) hx hb hr (fun t ht hW => ⟨⟨(-1 : Int32), (), rfl, rfl, by rw [ht]; exact hP, va_K.moved hW.alike hK, hD⟩, hS.F ht⟩) hS.2.2 dX4_endingWhereBegins_58
        · have hf := ite_F c8 hf
          refine lv_aload_n hx hb dX4_endingWhereBegins_20 rfl (lv_at hl 1 rfl) ?_
          refine lv_iload_n hx hb dX4_endingWhereBegins_21 rfl (lv_at hl 0 rfl) ?_
          refine lv_aload_n hx hb dX4_endingWhereBegins_22 rfl (lv_at hl 1 rfl) ?_
          refine va_get (D := (dC, dI)) (ci := 6) (v := .ref v_keys) (C := RX4) (T := TX4) (N := 7) hx hb hts inX4_ hown hK hP 0 rfl rfl 0 (by decide) fl9_ (fun _ h9 => h9) rfl dX4_endingWhereBegins_23 ?_
          refine lv_iload_n hx hb dX4_endingWhereBegins_26 rfl (lv_at hl 2 rfl) ?_
          obtain ⟨h9, hf⟩ := gd_T hf
          refine va_iald hx hb hK hP 1 0 rfl rfl h9 dX4_endingWhereBegins_27 ?_
          obtain ⟨R11, g12, hf⟩ := bd_B hf
          obtain ⟨r10, rfl⟩ : ∃ z, z = R11 := ⟨_, rfl⟩
          have hPc := hP
          have hDc := hD
          have hFc := va_free (wc := wV_ v0 v_keys v_firsts v_ends v_values v_inferred v_gone cI cZ vkeys vfirsts vends vvalues vinferred vgone vmade) hD hS hA [0, 1, 2, 3, 4, 5, 6] rfl
          refine va_calli (va_runV (As := [.int l2, .int (vkeys l1.toNatClampNeg)]) (rest := []) ⟨hx, hb, hml, hown, hts⟩ (c_X4_isOf l dC dI cI cZ cC cJ cD v0 v_keys v_firsts v_ends v_values v_inferred v_gone H7.size vkeys vfirsts vends vvalues vinferred vgone vmade l2 (vkeys l1.toNatClampNeg) r10 g12) (cwV 2 hts gX4_endingWhereBegins_X4_isOf rfl rfl rfl hs_X4_isOf ⟨Nat.le_of_ble_eq_true rfl, Nat.le_of_ble_eq_true rfl⟩) (preV_ (ci := 6) (q0 := 0) hPc hK hDc rfl rfl rfl rfl) rfl rfl hl.1 rfl (lv_room (Nat.le_of_ble_eq_true rfl)) dX4_endingWhereBegins_28 ⟨Nat.le_of_ble_eq_true rfl, Nat.le_of_ble_eq_true rfl⟩) hS (fun q _ h => hFc q h) hFc (fun z14 u t H13 locs ht hvm hw hB hz1 hk1 hS => ?_)
          have hw : r10 = z14 := hw.symm
          subst hw
          obtain ⟨hP, hD⟩ := aft_ (Wr := []) (Wc' := wV_ v0 v_keys v_firsts v_ends v_values v_inferred v_gone cI cZ vkeys vfirsts vends vvalues vinferred vgone vmade) (W2 := wV_ v0 v_keys v_firsts v_ends v_values v_inferred v_gone cI cZ vkeys vfirsts vends vvalues vinferred vgone vmade) hP hD [0, 1, 2, 3, 4, 5, 6] [] [0, 1, 2, 3, 4, 5, 6] rfl rfl (by decide) (by decide) (by decide) hk1 hFc hB ht rfl
          refine lv_if_eq (tgt := 51) hx hb dX4_endingWhereBegins_31 (by decide) (fun c15 => ?_) (fun c15 => ?_)
          · have hf := ite_T c15 hf
            refine lv_iinc (v := l2 + 1) (lv' := [(2, .int (l2 + 1)), (0, .ref v0), (1, .int l1)]) hx hb dX4_endingWhereBegins_51 hl (k := 0) rfl (by first | rfl | decide) (by decide) rfl (fun ls hl => ?_)
            refine lv_goto (tgt := 12) hx hb dX4_endingWhereBegins_54 (by decide) ?_
            exact ih (l2 + 1) l1 vkeys vfirsts vends vvalues vinferred vgone vmade _ _ _ hf hP hD hS (lv_sub hl [0, 1, 2] rfl)
          · have hf := ite_F c15 hf
            refine lv_aload_n hx hb dX4_endingWhereBegins_34 rfl (lv_at hl 1 rfl) ?_
            refine va_get (D := (dC, dI)) (ci := 6) (v := .ref v_ends) (C := RX4) (T := TX4) (N := 7) hx hb hts inX4_ hown hK hP 0 rfl rfl 2 (by decide) fl18_ (fun _ h9 => h9) rfl dX4_endingWhereBegins_35 ?_
            refine lv_iload_n hx hb dX4_endingWhereBegins_38 rfl (lv_at hl 0 rfl) ?_
            obtain ⟨h16, hf⟩ := gd_T hf
            refine va_iald hx hb hK hP 3 0 rfl rfl h16 dX4_endingWhereBegins_39 ?_
            refine lv_aload_n hx hb dX4_endingWhereBegins_40 rfl (lv_at hl 1 rfl) ?_
            refine va_get (D := (dC, dI)) (ci := 6) (v := .ref v_firsts) (C := RX4) (T := TX4) (N := 7) hx hb hts inX4_ hown hK hP 0 rfl rfl 1 (by decide) fl15_ (fun _ h9 => h9) rfl dX4_endingWhereBegins_41 ?_
            refine lv_iload_n hx hb dX4_endingWhereBegins_44 rfl (lv_at hl 2 rfl) ?_
            obtain ⟨h17, hf⟩ := gd_T hf
            refine va_iald hx hb hK hP 2 0 rfl rfl h17 dX4_endingWhereBegins_45 ?_
            refine lv_icmp_ne (tgt := 51) hx hb dX4_endingWhereBegins_46 (by decide) (fun c18 => ?_) (fun c18 => ?_)
            · have hf := ite_F c18 hf
              refine lv_iinc (v := l2 + 1) (lv' := [(2, .int (l2 + 1)), (0, .ref v0), (1, .int l1)]) hx hb dX4_endingWhereBegins_51 hl (k := 0) rfl (by first | rfl | decide) (by decide) rfl (fun ls hl => ?_)
              refine lv_goto (tgt := 12) hx hb dX4_endingWhereBegins_54 (by decide) ?_
              exact ih (l2 + 1) l1 vkeys vfirsts vends vvalues vinferred vgone vmade _ _ _ hf hP hD hS (lv_sub hl [0, 1, 2] rfl)
            · have hf := ite_T c18 hf
              refine lv_iload_n hx hb dX4_endingWhereBegins_49 rfl (lv_at hl 0 rfl) ?_
              have hR := Option.some.inj hf
              subst hR
              exact W.iret (v := l2) hx hb hr (fun t ht hW => ⟨⟨l2, (), rfl, rfl, by rw [ht]; exact hP, va_K.moved hW.alike hK, hD⟩, hS.F ht⟩) hS.2.2 dX4_endingWhereBegins_50
    exact lp12 fu_ (0 : Int32) a1 vkeys vfirsts vends vvalues vinferred vgone vmade _ _ _ hf hP hD hS hl
  · have hf := ite_T c6 hf
    refine lv_iconst (v := (-1)) hx hb dX4_endingWhereBegins_8 (by decide) ?_
    have hR := Option.some.inj hf
    subst hR
    exact W.iret (v := (-1 : Int32)) hx hb hr (fun t ht hW => ⟨⟨(-1 : Int32), (), rfl, rfl, by rw [ht]; exact hP, va_K.moved hW.alike hK, hD⟩, hS.F ht⟩) hS.2.2 dX4_endingWhereBegins_9
theorem hs_X4_endingWhereBegins : yX4_endingWhereBegins.cls = RX4 ∧ yX4_endingWhereBegins.cls ≠ "java/lang/invoke/MethodHandle" ∧ yX4_endingWhereBegins.cls ≠ "java/lang/invoke/VarHandle" ∧ (parseMethodDescriptor yX4_endingWhereBegins.desc).map (fun d => d.parameters.length) = some 1 := by decide +kernel
set_option maxRecDepth 20000 in
theorem in_X4_drop_X4 : ∀ w ∈ wsX40, w ∈ wsX4_drop := by decide +kernel
def f_X4_drop (a1 : Int32) (V_ : tV_) : Option (tV_) :=
match V_ with
| (vkeys, vfirsts, vends, vvalues, vinferred, vgone, vmade) =>
bd_ (f_X4_has a1 (vkeys, vfirsts, vends, vvalues, vinferred, vgone, vmade)) (fun r1 =>
if r1 = 0 then
some (vkeys, vfirsts, vends, vvalues, vinferred, vgone, vmade)
else
gd_ a1 60 (nm_ (upd vgone a1.toNatClampNeg (vp_nar .boolean (1 : Int32))) (fun u9 =>
some (vkeys, vfirsts, vends, vvalues, vinferred, u9, vmade))))
abbrev rm_X4_drop : Room := { frames := 1, cells := 0, slots := 0, locals := 21 }
set_option maxHeartbeats 4000000 in
set_option maxRecDepth 100000 in
theorem c_X4_drop (l : Launch) (dC : Nat → ClassId) (dI : Nat → Nat → Nat) (cI cZ cC cJ cD : ClassId) (v0 v_keys v_firsts v_ends v_values v_inferred v_gone : Nat) (sz : Nat) (vkeys : Nat → Int32) (vfirsts : Nat → Int32) (vends : Nat → Int32) (vvalues : Nat → Int32) (vinferred : Nat → Int32) (vgone : Nat → Int32) (vmade : Int32) (a1 : Int32) (R : tV_) (hf : f_X4_drop a1 (vkeys, vfirsts, vends, vvalues, vinferred, vgone, vmade) = some R) : Met l yX4_drop wsX4_drop rm_X4_drop (Pc_ (dC, dI) (ty_ cI cZ cC cJ cD) (wV_ v0 v_keys v_firsts v_ends v_values v_inferred v_gone cI cZ vkeys vfirsts vends vvalues vinferred vgone vmade) sz [.ref v0, .int a1]) (Qv_ (dC, dI) (ty_ cI cZ cC cJ cD) (wV_ v0 v_keys v_firsts v_ends v_values v_inferred v_gone cI cZ R.1 R.2.1 R.2.2.1 R.2.2.2.1 R.2.2.2.2.1 R.2.2.2.2.2.1 R.2.2.2.2.2.2) (va_A (wV_ v0 v_keys v_firsts v_ends v_values v_inferred v_gone cI cZ vkeys vfirsts vends vvalues vinferred vgone vmade) sz)) 0 0 (va_A (wV_ v0 v_keys v_firsts v_ends v_values v_inferred v_gone cI cZ vkeys vfirsts vends vvalues vinferred vgone vmade) sz) := by
  refine met_ (cc := cX4_drop) (maxL := 2) (ret := none) (Qcf := fun A => Qv_ (dC, dI) (ty_ cI cZ cC cJ cD) (wV_ v0 v_keys v_firsts v_ends v_values v_inferred v_gone cI cZ R.1 R.2.1 R.2.2.1 R.2.2.2.1 R.2.2.2.2.1 R.2.2.2.2.2.1 R.2.2.2.2.2.2) A) (by decide) rfl (Nat.le_of_ble_eq_true rfl) ?_
  intro p e s m args below meth c A ls hx hb hr hts hown hlocks hml hA hP hK hD hl
  have hown : s.vm.findClass RX4 = some m.cls := hown
  have hl : lv_has ls 2 [(0, .ref v0), (1, .int a1)] := hl
  have hS : va_S A s.heap s.heap [] := va_S.rf
  have fl28_ : (Cond.fieldLink RX4 28 "DimensionLoader$Versions" "gone" "[Z").before args s = true := hts _ (List.mem_of_getElem? (i := 1) rfl)
  have inX4_ : ∀ w ∈ wsX40, w ∈ wsX4_drop := in_X4_drop_X4
  unfold f_X4_drop at hf
  dsimp only at hf
  refine lv_aload_n hx hb dX4_drop_0 rfl (lv_at hl 0 rfl) ?_
  refine lv_iload_n hx hb dX4_drop_1 rfl (lv_at hl 1 rfl) ?_
  obtain ⟨R2, g3, hf⟩ := bd_B hf
  obtain ⟨r1, rfl⟩ : ∃ z, z = R2 := ⟨_, rfl⟩
  have hPc := hP
  have hDc := hD
  have hFc := va_free (wc := wV_ v0 v_keys v_firsts v_ends v_values v_inferred v_gone cI cZ vkeys vfirsts vends vvalues vinferred vgone vmade) hD hS hA [0, 1, 2, 3, 4, 5, 6] rfl
  refine va_calli (va_runV (As := [.int a1]) (rest := []) ⟨hx, hb, hml, hown, hts⟩ (c_X4_has l dC dI cI cZ cC cJ cD v0 v_keys v_firsts v_ends v_values v_inferred v_gone s.heap.size vkeys vfirsts vends vvalues vinferred vgone vmade a1 r1 g3) (cwV 1 hts gX4_drop_X4_has rfl rfl rfl hs_X4_has ⟨Nat.le_of_ble_eq_true rfl, Nat.le_of_ble_eq_true rfl⟩) (preV_ (ci := 6) (q0 := 0) hPc hK hDc rfl rfl rfl rfl) rfl rfl hl.1 rfl (lv_room (Nat.le_of_ble_eq_true rfl)) dX4_drop_2 ⟨Nat.le_of_ble_eq_true rfl, Nat.le_of_ble_eq_true rfl⟩) hS (fun q _ h => hFc q h) hFc (fun z5 u t H4 locs ht hvm hw hB hz1 hk1 hS => ?_)
  have hw : r1 = z5 := hw.symm
  subst hw
  obtain ⟨hP, hD⟩ := aft_ (Wr := []) (Wc' := wV_ v0 v_keys v_firsts v_ends v_values v_inferred v_gone cI cZ vkeys vfirsts vends vvalues vinferred vgone vmade) (W2 := wV_ v0 v_keys v_firsts v_ends v_values v_inferred v_gone cI cZ vkeys vfirsts vends vvalues vinferred vgone vmade) hP hD [0, 1, 2, 3, 4, 5, 6] [] [0, 1, 2, 3, 4, 5, 6] rfl rfl (by decide) (by decide) (by decide) hk1 hFc hB ht rfl
  refine lv_if_eq (tgt := 15) hx hb dX4_drop_5 (by decide) (fun c6 => ?_) (fun c6 => ?_)
  · have hf := ite_T c6 hf
    have hR := Option.some.inj hf
    subst hR
    exact W.vret hx hb hr (fun t ht hW => ⟨⟨(), rfl, trivial, by rw [ht]; exact hP, va_K.moved hW.alike hK, hD⟩, hS.F ht⟩) hS.2.2 dX4_drop_15
  · have hf := ite_F c6 hf
    refine lv_aload_n hx hb dX4_drop_8 rfl (lv_at hl 0 rfl) ?_
    refine va_get (D := (dC, dI)) (ci := 6) (v := .ref v_gone) (C := RX4) (T := TX4) (N := 7) hx hb hts inX4_ hown hK hP 0 rfl rfl 5 (by decide) fl28_ (fun _ h9 => h9) rfl dX4_drop_9 ?_
    refine lv_iload_n hx hb dX4_drop_12 rfl (lv_at hl 1 rfl) ?_
    refine lv_iconst (v := 1) hx hb dX4_drop_13 (by decide) ?_
    obtain ⟨h7, hf⟩ := gd_T hf
    refine va_zast hx hb hK hP hD hS 6 1 rfl rfl h7 dX4_drop_14 (fun H8 locs hP hD hS => ?_)
    have hP : va_P (dC, dI) vwCl (wV_ v0 v_keys v_firsts v_ends v_values v_inferred v_gone cI cZ vkeys vfirsts vends vvalues vinferred (upd vgone a1.toNatClampNeg (vp_nar .boolean (1 : Int32))) vmade) H8 := hP
    have hD : va_D A (wV_ v0 v_keys v_firsts v_ends v_values v_inferred v_gone cI cZ vkeys vfirsts vends vvalues vinferred (upd vgone a1.toNatClampNeg (vp_nar .boolean (1 : Int32))) vmade) := hD
    obtain ⟨u9, e10, hf⟩ := nm_T hf
    rw [← e10] at hP hD
    have hR := Option.some.inj hf
    subst hR
    exact W.vret hx hb hr (fun t ht hW => ⟨⟨(), rfl, trivial, by rw [ht]; exact hP, va_K.moved hW.alike hK, hD⟩, hS.F ht⟩) hS.2.2 dX4_drop_15
theorem hs_X4_drop : yX4_drop.cls = RX4 ∧ yX4_drop.cls ≠ "java/lang/invoke/MethodHandle" ∧ yX4_drop.cls ≠ "java/lang/invoke/VarHandle" ∧ (parseMethodDescriptor yX4_drop.desc).map (fun d => d.parameters.length) = some 1 := by decide +kernel
set_option maxRecDepth 20000 in
theorem in_X4_merge_X4 : ∀ w ∈ wsX40, w ∈ wsX4_merge := by decide +kernel
def f_X4_merge (a1 : Int32) (a2 : Int32) (V_ : tV_) : Option (tV_) :=
match V_ with
| (vkeys, vfirsts, vends, vvalues, vinferred, vgone, vmade) =>
bd_ (f_X4_has a1 (vkeys, vfirsts, vends, vvalues, vinferred, vgone, vmade)) (fun r1 =>
if r1 = 0 then
some (vkeys, vfirsts, vends, vvalues, vinferred, vgone, vmade)
else
bd_ (f_X4_has a2 (vkeys, vfirsts, vends, vvalues, vinferred, vgone, vmade)) (fun r7 =>
if r7 = 0 then
some (vkeys, vfirsts, vends, vvalues, vinferred, vgone, vmade)
else
gd_ a2 60 (
gd_ a1 60 (nm_ (upd vends a1.toNatClampNeg (vends a2.toNatClampNeg)) (fun u16 =>
gd_ a2 60 (nm_ (upd vgone a2.toNatClampNeg (vp_nar .boolean (1 : Int32))) (fun u20 =>
some (vkeys, vfirsts, u16, vvalues, vinferred, u20, vmade))))))))
abbrev rm_X4_merge : Room := { frames := 1, cells := 0, slots := 0, locals := 21 }
set_option maxHeartbeats 4000000 in
set_option maxRecDepth 100000 in
theorem c_X4_merge (l : Launch) (dC : Nat → ClassId) (dI : Nat → Nat → Nat) (cI cZ cC cJ cD : ClassId) (v0 v_keys v_firsts v_ends v_values v_inferred v_gone : Nat) (sz : Nat) (vkeys : Nat → Int32) (vfirsts : Nat → Int32) (vends : Nat → Int32) (vvalues : Nat → Int32) (vinferred : Nat → Int32) (vgone : Nat → Int32) (vmade : Int32) (a1 : Int32) (a2 : Int32) (R : tV_) (hf : f_X4_merge a1 a2 (vkeys, vfirsts, vends, vvalues, vinferred, vgone, vmade) = some R) : Met l yX4_merge wsX4_merge rm_X4_merge (Pc_ (dC, dI) (ty_ cI cZ cC cJ cD) (wV_ v0 v_keys v_firsts v_ends v_values v_inferred v_gone cI cZ vkeys vfirsts vends vvalues vinferred vgone vmade) sz [.ref v0, .int a1, .int a2]) (Qv_ (dC, dI) (ty_ cI cZ cC cJ cD) (wV_ v0 v_keys v_firsts v_ends v_values v_inferred v_gone cI cZ R.1 R.2.1 R.2.2.1 R.2.2.2.1 R.2.2.2.2.1 R.2.2.2.2.2.1 R.2.2.2.2.2.2) (va_A (wV_ v0 v_keys v_firsts v_ends v_values v_inferred v_gone cI cZ vkeys vfirsts vends vvalues vinferred vgone vmade) sz)) 0 0 (va_A (wV_ v0 v_keys v_firsts v_ends v_values v_inferred v_gone cI cZ vkeys vfirsts vends vvalues vinferred vgone vmade) sz) := by
  refine met_ (cc := cX4_merge) (maxL := 3) (ret := none) (Qcf := fun A => Qv_ (dC, dI) (ty_ cI cZ cC cJ cD) (wV_ v0 v_keys v_firsts v_ends v_values v_inferred v_gone cI cZ R.1 R.2.1 R.2.2.1 R.2.2.2.1 R.2.2.2.2.1 R.2.2.2.2.2.1 R.2.2.2.2.2.2) A) (by decide) rfl (Nat.le_of_ble_eq_true rfl) ?_
  intro p e s m args below meth c A ls hx hb hr hts hown hlocks hml hA hP hK hD hl
  have hown : s.vm.findClass RX4 = some m.cls := hown
  have hl : lv_has ls 3 [(0, .ref v0), (1, .int a1), (2, .int a2)] := hl
  have hS : va_S A s.heap s.heap [] := va_S.rf
  have fl18_ : (Cond.fieldLink RX4 18 "DimensionLoader$Versions" "ends" "[I").before args s = true := hts _ (List.mem_of_getElem? (i := 1) rfl)
  have fl28_ : (Cond.fieldLink RX4 28 "DimensionLoader$Versions" "gone" "[Z").before args s = true := hts _ (List.mem_of_getElem? (i := 2) rfl)
  have inX4_ : ∀ w ∈ wsX40, w ∈ wsX4_merge := in_X4_merge_X4
  unfold f_X4_merge at hf
  dsimp only at hf
  refine lv_aload_n hx hb dX4_merge_0 rfl (lv_at hl 0 rfl) ?_
  refine lv_iload_n hx hb dX4_merge_1 rfl (lv_at hl 1 rfl) ?_
  obtain ⟨R2, g3, hf⟩ := bd_B hf
  obtain ⟨r1, rfl⟩ : ∃ z, z = R2 := ⟨_, rfl⟩
  have hPc := hP
  have hDc := hD
  have hFc := va_free (wc := wV_ v0 v_keys v_firsts v_ends v_values v_inferred v_gone cI cZ vkeys vfirsts vends vvalues vinferred vgone vmade) hD hS hA [0, 1, 2, 3, 4, 5, 6] rfl
  refine va_calli (va_runV (As := [.int a1]) (rest := []) ⟨hx, hb, hml, hown, hts⟩ (c_X4_has l dC dI cI cZ cC cJ cD v0 v_keys v_firsts v_ends v_values v_inferred v_gone s.heap.size vkeys vfirsts vends vvalues vinferred vgone vmade a1 r1 g3) (cwV 1 hts gX4_merge_X4_has rfl rfl rfl hs_X4_has ⟨Nat.le_of_ble_eq_true rfl, Nat.le_of_ble_eq_true rfl⟩) (preV_ (ci := 6) (q0 := 0) hPc hK hDc rfl rfl rfl rfl) rfl rfl hl.1 rfl (lv_room (Nat.le_of_ble_eq_true rfl)) dX4_merge_2 ⟨Nat.le_of_ble_eq_true rfl, Nat.le_of_ble_eq_true rfl⟩) hS (fun q _ h => hFc q h) hFc (fun z5 u t H4 locs ht hvm hw hB hz1 hk1 hS => ?_)
  have hw : r1 = z5 := hw.symm
  subst hw
  obtain ⟨hP, hD⟩ := aft_ (Wr := []) (Wc' := wV_ v0 v_keys v_firsts v_ends v_values v_inferred v_gone cI cZ vkeys vfirsts vends vvalues vinferred vgone vmade) (W2 := wV_ v0 v_keys v_firsts v_ends v_values v_inferred v_gone cI cZ vkeys vfirsts vends vvalues vinferred vgone vmade) hP hD [0, 1, 2, 3, 4, 5, 6] [] [0, 1, 2, 3, 4, 5, 6] rfl rfl (by decide) (by decide) (by decide) hk1 hFc hB ht rfl
  refine lv_if_eq (tgt := 35) hx hb dX4_merge_5 (by decide) (fun c6 => ?_) (fun c6 => ?_)
  · have hf := ite_T c6 hf
    have hR := Option.some.inj hf
    subst hR
    exact W.vret hx hb hr (fun t ht hW => ⟨⟨(), rfl, trivial, by rw [ht]; exact hP, va_K.moved hW.alike hK, hD⟩, hS.F ht⟩) hS.2.2 dX4_merge_35
  · have hf := ite_F c6 hf
    refine lv_aload_n hx hb dX4_merge_8 rfl (lv_at hl 0 rfl) ?_
    refine lv_iload_n hx hb dX4_merge_9 rfl (lv_at hl 2 rfl) ?_
    obtain ⟨R8, g9, hf⟩ := bd_B hf
    obtain ⟨r7, rfl⟩ : ∃ z, z = R8 := ⟨_, rfl⟩
    have hPc := hP
    have hDc := hD
    have hFc := va_free (wc := wV_ v0 v_keys v_firsts v_ends v_values v_inferred v_gone cI cZ vkeys vfirsts vends vvalues vinferred vgone vmade) hD hS hA [0, 1, 2, 3, 4, 5, 6] rfl
    refine va_calli (va_runV (As := [.int a2]) (rest := []) ⟨hx, hb, hml, hown, hts⟩ (c_X4_has l dC dI cI cZ cC cJ cD v0 v_keys v_firsts v_ends v_values v_inferred v_gone H4.size vkeys vfirsts vends vvalues vinferred vgone vmade a2 r7 g9) (cwV 1 hts gX4_merge_X4_has rfl rfl rfl hs_X4_has ⟨Nat.le_of_ble_eq_true rfl, Nat.le_of_ble_eq_true rfl⟩) (preV_ (ci := 6) (q0 := 0) hPc hK hDc rfl rfl rfl rfl) rfl rfl hl.1 rfl (lv_room (Nat.le_of_ble_eq_true rfl)) dX4_merge_10 ⟨Nat.le_of_ble_eq_true rfl, Nat.le_of_ble_eq_true rfl⟩) hS (fun q _ h => hFc q h) hFc (fun z11 u t H10 locs ht hvm hw hB hz1 hk1 hS => ?_)
    have hw : r7 = z11 := hw.symm
    subst hw
    obtain ⟨hP, hD⟩ := aft_ (Wr := []) (Wc' := wV_ v0 v_keys v_firsts v_ends v_values v_inferred v_gone cI cZ vkeys vfirsts vends vvalues vinferred vgone vmade) (W2 := wV_ v0 v_keys v_firsts v_ends v_values v_inferred v_gone cI cZ vkeys vfirsts vends vvalues vinferred vgone vmade) hP hD [0, 1, 2, 3, 4, 5, 6] [] [0, 1, 2, 3, 4, 5, 6] rfl rfl (by decide) (by decide) (by decide) hk1 hFc hB ht rfl
    refine lv_if_eq (tgt := 35) hx hb dX4_merge_13 (by decide) (fun c12 => ?_) (fun c12 => ?_)
    · have hf := ite_T c12 hf
      have hR := Option.some.inj hf
      subst hR
      exact W.vret hx hb hr (fun t ht hW => ⟨⟨(), rfl, trivial, by rw [ht]; exact hP, va_K.moved hW.alike hK, hD⟩, hS.F ht⟩) hS.2.2 dX4_merge_35
    · have hf := ite_F c12 hf
      refine lv_aload_n hx hb dX4_merge_16 rfl (lv_at hl 0 rfl) ?_
      refine va_get (D := (dC, dI)) (ci := 6) (v := .ref v_ends) (C := RX4) (T := TX4) (N := 7) hx hb hts inX4_ hown hK hP 0 rfl rfl 2 (by decide) fl18_ (fun _ h9 => h9) rfl dX4_merge_17 ?_
      refine lv_iload_n hx hb dX4_merge_20 rfl (lv_at hl 1 rfl) ?_
      refine lv_aload_n hx hb dX4_merge_21 rfl (lv_at hl 0 rfl) ?_
      refine va_get (D := (dC, dI)) (ci := 6) (v := .ref v_ends) (C := RX4) (T := TX4) (N := 7) hx hb hts inX4_ hown hK hP 0 rfl rfl 2 (by decide) fl18_ (fun _ h9 => h9) rfl dX4_merge_22 ?_
      refine lv_iload_n hx hb dX4_merge_25 rfl (lv_at hl 2 rfl) ?_
      obtain ⟨h13, hf⟩ := gd_T hf
      refine va_iald hx hb hK hP 3 0 rfl rfl h13 dX4_merge_26 ?_
      obtain ⟨h14, hf⟩ := gd_T hf
      refine va_iast hx hb hK hP hD hS 3 0 rfl rfl h14 dX4_merge_27 (fun H15 locs hP hD hS => ?_)
      have hP : va_P (dC, dI) vwCl (wV_ v0 v_keys v_firsts v_ends v_values v_inferred v_gone cI cZ vkeys vfirsts (upd vends a1.toNatClampNeg (vends a2.toNatClampNeg)) vvalues vinferred vgone vmade) H15 := hP
      have hD : va_D A (wV_ v0 v_keys v_firsts v_ends v_values v_inferred v_gone cI cZ vkeys vfirsts (upd vends a1.toNatClampNeg (vends a2.toNatClampNeg)) vvalues vinferred vgone vmade) := hD
      obtain ⟨u16, e17, hf⟩ := nm_T hf
      rw [← e17] at hP hD
      refine lv_aload_n hx hb dX4_merge_28 rfl (lv_at hl 0 rfl) ?_
      refine va_get (D := (dC, dI)) (ci := 6) (v := .ref v_gone) (C := RX4) (T := TX4) (N := 7) hx hb hts inX4_ hown hK hP 0 rfl rfl 5 (by decide) fl28_ (fun _ h9 => h9) rfl dX4_merge_29 ?_
      refine lv_iload_n hx hb dX4_merge_32 rfl (lv_at hl 2 rfl) ?_
      refine lv_iconst (v := 1) hx hb dX4_merge_33 (by decide) ?_
      obtain ⟨h18, hf⟩ := gd_T hf
      refine va_zast hx hb hK hP hD hS 6 1 rfl rfl h18 dX4_merge_34 (fun H19 locs hP hD hS => ?_)
      have hP : va_P (dC, dI) vwCl (wV_ v0 v_keys v_firsts v_ends v_values v_inferred v_gone cI cZ vkeys vfirsts u16 vvalues vinferred (upd vgone a2.toNatClampNeg (vp_nar .boolean (1 : Int32))) vmade) H19 := hP
      have hD : va_D A (wV_ v0 v_keys v_firsts v_ends v_values v_inferred v_gone cI cZ vkeys vfirsts u16 vvalues vinferred (upd vgone a2.toNatClampNeg (vp_nar .boolean (1 : Int32))) vmade) := hD
      obtain ⟨u20, e21, hf⟩ := nm_T hf
      rw [← e21] at hP hD
      have hR := Option.some.inj hf
      subst hR
      exact W.vret hx hb hr (fun t ht hW => ⟨⟨(), rfl, trivial, by rw [ht]; exact hP, va_K.moved hW.alike hK, hD⟩, hS.F ht⟩) hS.2.2 dX4_merge_35
theorem hs_X4_merge : yX4_merge.cls = RX4 ∧ yX4_merge.cls ≠ "java/lang/invoke/MethodHandle" ∧ yX4_merge.cls ≠ "java/lang/invoke/VarHandle" ∧ (parseMethodDescriptor yX4_merge.desc).map (fun d => d.parameters.length) = some 2 := by decide +kernel
set_option maxRecDepth 20000 in
theorem in_X4_areAlike_X4 : ∀ w ∈ wsX40, w ∈ wsX4_areAlike := by decide +kernel
def f_X4_areAlike (a1 : Int32) (a2 : Int32) (V_ : tV_) : Option (Int32) :=
match V_ with
| (vkeys, vfirsts, vends, vvalues, vinferred, vgone, vmade) =>
gd_ a1 60 (
gd_ a2 60 (
if (vends a1.toNatClampNeg) = (vfirsts a2.toNatClampNeg) then
gd_ a1 60 (
gd_ a2 60 (
if (vvalues a1.toNatClampNeg) = (vvalues a2.toNatClampNeg) then
gd_ a1 60 (
if (vinferred a1.toNatClampNeg) = 0 then
gd_ a2 60 (
if (vinferred a2.toNatClampNeg) = 0 then
some (1 : Int32)
else
some (0 : Int32))
else
some (0 : Int32))
else
some (0 : Int32)))
else
some (0 : Int32)))
abbrev rm_X4_areAlike : Room := { frames := 0, cells := 0, slots := 0, locals := 0 }
set_option maxHeartbeats 4000000 in
set_option maxRecDepth 100000 in
theorem c_X4_areAlike (l : Launch) (dC : Nat → ClassId) (dI : Nat → Nat → Nat) (cI cZ cC cJ cD : ClassId) (v0 v_keys v_firsts v_ends v_values v_inferred v_gone : Nat) (sz : Nat) (vkeys : Nat → Int32) (vfirsts : Nat → Int32) (vends : Nat → Int32) (vvalues : Nat → Int32) (vinferred : Nat → Int32) (vgone : Nat → Int32) (vmade : Int32) (a1 : Int32) (a2 : Int32) (R : Int32) (hf : f_X4_areAlike a1 a2 (vkeys, vfirsts, vends, vvalues, vinferred, vgone, vmade) = some R) : Met l yX4_areAlike wsX4_areAlike rm_X4_areAlike (Pc_ (dC, dI) (ty_ cI cZ cC cJ cD) (wV_ v0 v_keys v_firsts v_ends v_values v_inferred v_gone cI cZ vkeys vfirsts vends vvalues vinferred vgone vmade) sz [.ref v0, .int a1, .int a2]) (Qi_ (dC, dI) (ty_ cI cZ cC cJ cD) R (wV_ v0 v_keys v_firsts v_ends v_values v_inferred v_gone cI cZ vkeys vfirsts vends vvalues vinferred vgone vmade) (va_A (wV_ v0 v_keys v_firsts v_ends v_values v_inferred v_gone cI cZ vkeys vfirsts vends vvalues vinferred vgone vmade) sz)) 0 0 (va_A (wV_ v0 v_keys v_firsts v_ends v_values v_inferred v_gone cI cZ vkeys vfirsts vends vvalues vinferred vgone vmade) sz) := by
  refine met_ (cc := cX4_areAlike) (maxL := 3) (ret := (some .boolean)) (Qcf := fun A => Qi_ (dC, dI) (ty_ cI cZ cC cJ cD) R (wV_ v0 v_keys v_firsts v_ends v_values v_inferred v_gone cI cZ vkeys vfirsts vends vvalues vinferred vgone vmade) A) (by decide) rfl (Nat.le_of_ble_eq_true rfl) ?_
  intro p e s m args below meth c A ls hx hb hr hts hown hlocks hml hA hP hK hD hl
  have hown : s.vm.findClass RX4 = some m.cls := hown
  have hl : lv_has ls 3 [(0, .ref v0), (1, .int a1), (2, .int a2)] := hl
  have hS : va_S A s.heap s.heap [] := va_S.rf
  have fl15_ : (Cond.fieldLink RX4 15 "DimensionLoader$Versions" "firsts" "[I").before args s = true := hts _ (List.mem_of_getElem? (i := 2) rfl)
  have fl18_ : (Cond.fieldLink RX4 18 "DimensionLoader$Versions" "ends" "[I").before args s = true := hts _ (List.mem_of_getElem? (i := 1) rfl)
  have fl21_ : (Cond.fieldLink RX4 21 "DimensionLoader$Versions" "values" "[I").before args s = true := hts _ (List.mem_of_getElem? (i := 3) rfl)
  have fl24_ : (Cond.fieldLink RX4 24 "DimensionLoader$Versions" "inferred" "[Z").before args s = true := hts _ (List.mem_of_getElem? (i := 4) rfl)
  have inX4_ : ∀ w ∈ wsX40, w ∈ wsX4_areAlike := in_X4_areAlike_X4
  unfold f_X4_areAlike at hf
  dsimp only at hf
  refine lv_aload_n hx hb dX4_areAlike_0 rfl (lv_at hl 0 rfl) ?_
  refine va_get (D := (dC, dI)) (ci := 6) (v := .ref v_ends) (C := RX4) (T := TX4) (N := 7) hx hb hts inX4_ hown hK hP 0 rfl rfl 2 (by decide) fl18_ (fun _ h9 => h9) rfl dX4_areAlike_1 ?_
  refine lv_iload_n hx hb dX4_areAlike_4 rfl (lv_at hl 1 rfl) ?_
  obtain ⟨h1, hf⟩ := gd_T hf
  refine va_iald hx hb hK hP 3 0 rfl rfl h1 dX4_areAlike_5 ?_
  refine lv_aload_n hx hb dX4_areAlike_6 rfl (lv_at hl 0 rfl) ?_
  refine va_get (D := (dC, dI)) (ci := 6) (v := .ref v_firsts) (C := RX4) (T := TX4) (N := 7) hx hb hts inX4_ hown hK hP 0 rfl rfl 1 (by decide) fl15_ (fun _ h9 => h9) rfl dX4_areAlike_7 ?_
  refine lv_iload_n hx hb dX4_areAlike_10 rfl (lv_at hl 2 rfl) ?_
  obtain ⟨h2, hf⟩ := gd_T hf
  refine va_iald hx hb hK hP 2 0 rfl rfl h2 dX4_areAlike_11 ?_
  refine lv_icmp_ne (tgt := 52) hx hb dX4_areAlike_12 (by decide) (fun c3 => ?_) (fun c3 => ?_)
  · have hf := ite_F c3 hf
    refine lv_iconst (v := 0) hx hb dX4_areAlike_52 (by decide) ?_
    have hR := Option.some.inj hf
    subst hR
    exact W.zret (v := (0 : Int32)) hx hb hr (by decide) (fun t ht hW => ⟨⟨(0 : Int32), (), rfl, rfl, by rw [ht]; exact hP, va_K.moved hW.alike hK, hD⟩, hS.F ht⟩) hS.2.2 dX4_areAlike_53
  · have hf := ite_T c3 hf
    refine lv_aload_n hx hb dX4_areAlike_15 rfl (lv_at hl 0 rfl) ?_
    refine va_get (D := (dC, dI)) (ci := 6) (v := .ref v_values) (C := RX4) (T := TX4) (N := 7) hx hb hts inX4_ hown hK hP 0 rfl rfl 3 (by decide) fl21_ (fun _ h9 => h9) rfl dX4_areAlike_16 ?_
    refine lv_iload_n hx hb dX4_areAlike_19 rfl (lv_at hl 1 rfl) ?_
    obtain ⟨h4, hf⟩ := gd_T hf
    refine va_iald hx hb hK hP 4 0 rfl rfl h4 dX4_areAlike_20 ?_
    refine lv_aload_n hx hb dX4_areAlike_21 rfl (lv_at hl 0 rfl) ?_
    refine va_get (D := (dC, dI)) (ci := 6) (v := .ref v_values) (C := RX4) (T := TX4) (N := 7) hx hb hts inX4_ hown hK hP 0 rfl rfl 3 (by decide) fl21_ (fun _ h9 => h9) rfl dX4_areAlike_22 ?_
    refine lv_iload_n hx hb dX4_areAlike_25 rfl (lv_at hl 2 rfl) ?_
    obtain ⟨h5, hf⟩ := gd_T hf
    refine va_iald hx hb hK hP 4 0 rfl rfl h5 dX4_areAlike_26 ?_
    refine lv_icmp_ne (tgt := 52) hx hb dX4_areAlike_27 (by decide) (fun c6 => ?_) (fun c6 => ?_)
    · have hf := ite_F c6 hf
      refine lv_iconst (v := 0) hx hb dX4_areAlike_52 (by decide) ?_
      have hR := Option.some.inj hf
      subst hR
      exact W.zret (v := (0 : Int32)) hx hb hr (by decide) (fun t ht hW => ⟨⟨(0 : Int32), (), rfl, rfl, by rw [ht]; exact hP, va_K.moved hW.alike hK, hD⟩, hS.F ht⟩) hS.2.2 dX4_areAlike_53
    · have hf := ite_T c6 hf
      refine lv_aload_n hx hb dX4_areAlike_30 rfl (lv_at hl 0 rfl) ?_
      refine va_get (D := (dC, dI)) (ci := 6) (v := .ref v_inferred) (C := RX4) (T := TX4) (N := 7) hx hb hts inX4_ hown hK hP 0 rfl rfl 4 (by decide) fl24_ (fun _ h9 => h9) rfl dX4_areAlike_31 ?_
      refine lv_iload_n hx hb dX4_areAlike_34 rfl (lv_at hl 1 rfl) ?_
      obtain ⟨h7, hf⟩ := gd_T hf
      refine va_zald hx hb hK hP 5 1 rfl rfl h7 dX4_areAlike_35 ?_
      refine lv_if_ne (tgt := 52) hx hb dX4_areAlike_36 (by decide) (fun c8 => ?_) (fun c8 => ?_)
      · have hf := ite_F c8 hf
        refine lv_iconst (v := 0) hx hb dX4_areAlike_52 (by decide) ?_
        have hR := Option.some.inj hf
        subst hR
        exact W.zret (v := (0 : Int32)) hx hb hr (by decide) (fun t ht hW => ⟨⟨(0 : Int32), (), rfl, rfl, by rw [ht]; exact hP, va_K.moved hW.alike hK, hD⟩, hS.F ht⟩) hS.2.2 dX4_areAlike_53
      · have hf := ite_T c8 hf
        refine lv_aload_n hx hb dX4_areAlike_39 rfl (lv_at hl 0 rfl) ?_
        refine va_get (D := (dC, dI)) (ci := 6) (v := .ref v_inferred) (C := RX4) (T := TX4) (N := 7) hx hb hts inX4_ hown hK hP 0 rfl rfl 4 (by decide) fl24_ (fun _ h9 => h9) rfl dX4_areAlike_40 ?_
        refine lv_iload_n hx hb dX4_areAlike_43 rfl (lv_at hl 2 rfl) ?_
        obtain ⟨h9, hf⟩ := gd_T hf
        refine va_zald hx hb hK hP 5 1 rfl rfl h9 dX4_areAlike_44 ?_
        refine lv_if_ne (tgt := 52) hx hb dX4_areAlike_45 (by decide) (fun c10 => ?_) (fun c10 => ?_)
        · have hf := ite_F c10 hf
          refine lv_iconst (v := 0) hx hb dX4_areAlike_52 (by decide) ?_
          have hR := Option.some.inj hf
          subst hR
          exact W.zret (v := (0 : Int32)) hx hb hr (by decide) (fun t ht hW => ⟨⟨(0 : Int32), (), rfl, rfl, by rw [ht]; exact hP, va_K.moved hW.alike hK, hD⟩, hS.F ht⟩) hS.2.2 dX4_areAlike_53
        · have hf := ite_T c10 hf
          refine lv_iconst (v := 1) hx hb dX4_areAlike_48 (by decide) ?_
          refine lv_goto (tgt := 53) hx hb dX4_areAlike_49 (by decide) ?_
          have hR := Option.some.inj hf
          subst hR
          exact W.zret (v := (1 : Int32)) hx hb hr (by decide) (fun t ht hW => ⟨⟨(1 : Int32), (), rfl, rfl, by rw [ht]; exact hP, va_K.moved hW.alike hK, hD⟩, hS.F ht⟩) hS.2.2 dX4_areAlike_53
theorem hs_X4_areAlike : yX4_areAlike.cls = RX4 ∧ yX4_areAlike.cls ≠ "java/lang/invoke/MethodHandle" ∧ yX4_areAlike.cls ≠ "java/lang/invoke/VarHandle" ∧ (parseMethodDescriptor yX4_areAlike.desc).map (fun d => d.parameters.length) = some 2 := by decide +kernel
set_option maxRecDepth 20000 in
theorem in_X4_joinAlike_X4 : ∀ w ∈ wsX40, w ∈ wsX4_joinAlike := by decide +kernel
def f_X4_joinAlike_S12 (k_ : Int32 → Int32 → Int32 → Int32 → tV_ → Option (Int32 × tV_)) (l4 : Int32) (l3 : Int32) (l2 : Int32) (l1 : Int32) (V_ : tV_) : Option (Int32 × tV_) :=
match V_ with
| (vkeys, vfirsts, vends, vvalues, vinferred, vgone, vmade) =>
if vmade ≤ l4 then
some (l2, (vkeys, vfirsts, vends, vvalues, vinferred, vgone, vmade))
else
if l3 = (-1) then
some (l2, (vkeys, vfirsts, vends, vvalues, vinferred, vgone, vmade))
else
gd_ l3 60 (
bd_ (f_X4_next l1 (vfirsts l3.toNatClampNeg) (vkeys, vfirsts, vends, vvalues, vinferred, vgone, vmade)) (fun r10 =>
if r10 = (-1) then
k_ (l4 + 1) r10 l2 l1 (vkeys, vfirsts, vends, vvalues, vinferred, vgone, vmade)
else
bd_ (f_X4_areAlike l3 r10 (vkeys, vfirsts, vends, vvalues, vinferred, vgone, vmade)) (fun r16 =>
if r16 = 0 then
k_ (l4 + 1) r10 l2 l1 (vkeys, vfirsts, vends, vvalues, vinferred, vgone, vmade)
else
bd_ (f_X4_merge l3 r10 (vkeys, vfirsts, vends, vvalues, vinferred, vgone, vmade)) (fun (vk22, vf23, ve24, vv25, vi26, vg27, vm28) =>
k_ (l4 + 1) l3 (l2 + 1) l1 (vk22, vf23, ve24, vv25, vi26, vg27, vm28)))))
def f_X4_joinAlike_L12 : Nat → Int32 → Int32 → Int32 → Int32 → tV_ → Option (Int32 × tV_)
  | 0 => fun _ _ _ _ _ => none
  | n + 1 => fun l4 l3 l2 l1 V_ => f_X4_joinAlike_S12 (f_X4_joinAlike_L12 n) l4 l3 l2 l1 V_
def f_X4_joinAlike (a1 : Int32) (V_ : tV_) : Option (Int32 × tV_) :=
match V_ with
| (vkeys, vfirsts, vends, vvalues, vinferred, vgone, vmade) =>
bd_ (f_X4_next a1 (-1 : Int32) (vkeys, vfirsts, vends, vvalues, vinferred, vgone, vmade)) (fun r1 =>
f_X4_joinAlike_L12 fu_ (0 : Int32) r1 (0 : Int32) a1 (vkeys, vfirsts, vends, vvalues, vinferred, vgone, vmade))
abbrev rm_X4_joinAlike : Room := { frames := 3, cells := 0, slots := 0, locals := 67 }
set_option maxHeartbeats 4000000 in
set_option maxRecDepth 100000 in
theorem c_X4_joinAlike (l : Launch) (dC : Nat → ClassId) (dI : Nat → Nat → Nat) (cI cZ cC cJ cD : ClassId) (v0 v_keys v_firsts v_ends v_values v_inferred v_gone : Nat) (sz : Nat) (vkeys : Nat → Int32) (vfirsts : Nat → Int32) (vends : Nat → Int32) (vvalues : Nat → Int32) (vinferred : Nat → Int32) (vgone : Nat → Int32) (vmade : Int32) (a1 : Int32) (R : Int32 × tV_) (hf : f_X4_joinAlike a1 (vkeys, vfirsts, vends, vvalues, vinferred, vgone, vmade) = some R) : Met l yX4_joinAlike wsX4_joinAlike rm_X4_joinAlike (Pc_ (dC, dI) (ty_ cI cZ cC cJ cD) (wV_ v0 v_keys v_firsts v_ends v_values v_inferred v_gone cI cZ vkeys vfirsts vends vvalues vinferred vgone vmade) sz [.ref v0, .int a1]) (Qi_ (dC, dI) (ty_ cI cZ cC cJ cD) R.1 (wV_ v0 v_keys v_firsts v_ends v_values v_inferred v_gone cI cZ R.2.1 R.2.2.1 R.2.2.2.1 R.2.2.2.2.1 R.2.2.2.2.2.1 R.2.2.2.2.2.2.1 R.2.2.2.2.2.2.2) (va_A (wV_ v0 v_keys v_firsts v_ends v_values v_inferred v_gone cI cZ vkeys vfirsts vends vvalues vinferred vgone vmade) sz)) 0 0 (va_A (wV_ v0 v_keys v_firsts v_ends v_values v_inferred v_gone cI cZ vkeys vfirsts vends vvalues vinferred vgone vmade) sz) := by
  refine met_ (cc := cX4_joinAlike) (maxL := 6) (ret := (some .int)) (Qcf := fun A => Qi_ (dC, dI) (ty_ cI cZ cC cJ cD) R.1 (wV_ v0 v_keys v_firsts v_ends v_values v_inferred v_gone cI cZ R.2.1 R.2.2.1 R.2.2.2.1 R.2.2.2.2.1 R.2.2.2.2.2.1 R.2.2.2.2.2.2.1 R.2.2.2.2.2.2.2) A) (by decide) rfl (Nat.le_of_ble_eq_true rfl) ?_
  intro p e s m args below meth c A ls hx hb hr hts hown hlocks hml hA hP hK hD hl
  have hown : s.vm.findClass RX4 = some m.cls := hown
  have hl : lv_has ls 6 [(0, .ref v0), (1, .int a1)] := hl
  have hS : va_S A s.heap s.heap [] := va_S.rf
  have fl15_ : (Cond.fieldLink RX4 15 "DimensionLoader$Versions" "firsts" "[I").before args s = true := hts _ (List.mem_of_getElem? (i := 2) rfl)
  have fl31_ : (Cond.fieldLink RX4 31 "DimensionLoader$Versions" "made" "I").before args s = true := hts _ (List.mem_of_getElem? (i := 1) rfl)
  have inX4_ : ∀ w ∈ wsX40, w ∈ wsX4_joinAlike := in_X4_joinAlike_X4
  unfold f_X4_joinAlike at hf
  dsimp only at hf
  refine lv_iconst (v := 0) hx hb dX4_joinAlike_0 (by decide) ?_
  refine lv_istore_n (lv' := [(2, .int 0), (0, .ref v0), (1, .int a1)]) hx hb dX4_joinAlike_1 rfl hl (by decide) rfl (fun ls hl => ?_)
  refine lv_aload_n hx hb dX4_joinAlike_2 rfl (lv_at hl 1 rfl) ?_
  refine lv_iload_n hx hb dX4_joinAlike_3 rfl (lv_at hl 2 rfl) ?_
  refine lv_iconst (v := (-1)) hx hb dX4_joinAlike_4 (by decide) ?_
  obtain ⟨R2, g3, hf⟩ := bd_B hf
  obtain ⟨r1, rfl⟩ : ∃ z, z = R2 := ⟨_, rfl⟩
  have hPc := hP
  have hDc := hD
  have hFc := va_free (wc := wV_ v0 v_keys v_firsts v_ends v_values v_inferred v_gone cI cZ vkeys vfirsts vends vvalues vinferred vgone vmade) hD hS hA [0, 1, 2, 3, 4, 5, 6] rfl
  refine va_calli (va_runV (As := [.int a1, .int (-1)]) (rest := []) ⟨hx, hb, hml, hown, hts⟩ (c_X4_next l dC dI cI cZ cC cJ cD v0 v_keys v_firsts v_ends v_values v_inferred v_gone s.heap.size vkeys vfirsts vends vvalues vinferred vgone vmade a1 (-1 : Int32) r1 g3) (cwV 2 hts gX4_joinAlike_X4_next rfl rfl rfl hs_X4_next ⟨Nat.le_of_ble_eq_true rfl, Nat.le_of_ble_eq_true rfl⟩) (preV_ (ci := 6) (q0 := 0) hPc hK hDc rfl rfl rfl rfl) rfl rfl hl.1 rfl (lv_room (Nat.le_of_ble_eq_true rfl)) dX4_joinAlike_5 ⟨Nat.le_of_ble_eq_true rfl, Nat.le_of_ble_eq_true rfl⟩) hS (fun q _ h => hFc q h) hFc (fun z5 u t H4 locs ht hvm hw hB hz1 hk1 hS => ?_)
  have hw : r1 = z5 := hw.symm
  subst hw
  obtain ⟨hP, hD⟩ := aft_ (Wr := []) (Wc' := wV_ v0 v_keys v_firsts v_ends v_values v_inferred v_gone cI cZ vkeys vfirsts vends vvalues vinferred vgone vmade) (W2 := wV_ v0 v_keys v_firsts v_ends v_values v_inferred v_gone cI cZ vkeys vfirsts vends vvalues vinferred vgone vmade) hP hD [0, 1, 2, 3, 4, 5, 6] [] [0, 1, 2, 3, 4, 5, 6] rfl rfl (by decide) (by decide) (by decide) hk1 hFc hB ht rfl
  refine lv_istore_n (lv' := [(3, .int r1), (2, .int 0), (0, .ref v0), (1, .int a1)]) hx hb dX4_joinAlike_8 rfl hl (by decide) rfl (fun ls hl => ?_)
  refine lv_iconst (v := 0) hx hb dX4_joinAlike_9 (by decide) ?_
  refine lv_istore (lv' := [(4, .int 0), (3, .int r1), (2, .int 0), (0, .ref v0), (1, .int a1)]) hx hb dX4_joinAlike_10 hl (by decide) rfl (fun ls hl => ?_)
  have lp12 : ∀ (n : Nat) (l4 : Int32) (l3 : Int32) (l2 : Int32) (l1 : Int32) (vkeys : Nat → Int32) (vfirsts : Nat → Int32) (vends : Nat → Int32) (vvalues : Nat → Int32) (vinferred : Nat → Int32) (vgone : Nat → Int32) (vmade : Int32) (H6 : Heap) (locs : List Loc) (ls : Array Slot), f_X4_joinAlike_L12 n l4 l3 l2 l1 (vkeys, vfirsts, vends, vvalues, vinferred, vgone, vmade) = some R → va_P (dC, dI) vwCl (wV_ v0 v_keys v_firsts v_ends v_values v_inferred v_gone cI cZ vkeys vfirsts vends vvalues vinferred vgone vmade) H6 → va_D A (wV_ v0 v_keys v_firsts v_ends v_values v_inferred v_gone cI cZ vkeys vfirsts vends vvalues vinferred vgone vmade) → va_S A s.heap H6 locs → lv_has ls 6 [(4, .int l4), (3, .int l3), (2, .int l2), (0, .ref v0), (1, .int l1)] → W p l e (headSpec wsX4_joinAlike rm_X4_joinAlike).room s m args below meth c H6 locs 0 0 (MQ below (Qi_ (dC, dI) (ty_ cI cZ cC cJ cD) R.1 (wV_ v0 v_keys v_firsts v_ends v_values v_inferred v_gone cI cZ R.2.1 R.2.2.1 R.2.2.2.1 R.2.2.2.2.1 R.2.2.2.2.2.1 R.2.2.2.2.2.2.1 R.2.2.2.2.2.2.2) A) args s 0 0 A) (F0 m 12 ls []) := by
    intro n
    induction n with
    | zero => intro l4 l3 l2 l1 vkeys vfirsts vends vvalues vinferred vgone vmade H6 locs ls hf hP hD hS hl; exact absurd hf (by simp [f_X4_joinAlike_L12])
    | succ n ih =>
      intro l4 l3 l2 l1 vkeys vfirsts vends vvalues vinferred vgone vmade H6 locs ls hf hP hD hS hl
      have hf : f_X4_joinAlike_S12 (f_X4_joinAlike_L12 n) l4 l3 l2 l1 (vkeys, vfirsts, vends, vvalues, vinferred, vgone, vmade) = some R := hf
      unfold f_X4_joinAlike_S12 at hf
      dsimp only at hf
      refine lv_iload hx hb dX4_joinAlike_12 (lv_at hl 0 rfl) ?_
      refine lv_aload_n hx hb dX4_joinAlike_14 rfl (lv_at hl 3 rfl) ?_
      refine va_get (D := (dC, dI)) (ci := 6) (v := .int vmade) (C := RX4) (T := TX4) (N := 7) hx hb hts inX4_ hown hK hP 0 rfl rfl 6 (by decide) fl31_ (fun _ h9 => h9) rfl dX4_joinAlike_15 ?_
      refine lv_icmp_ge (tgt := 77) hx hb dX4_joinAlike_18 (by decide) (fun c7 => ?_) (fun c7 => ?_)
      · have hf := ite_T c7 hf
        refine lv_iload_n hx hb dX4_joinAlike_77 rfl (lv_at hl 2 rfl) ?_
        have hR := Option.some.inj hf
        subst hR
        exact W.iret (v := l2) hx hb hr (fun t ht hW => ⟨⟨l2, (), rfl, rfl, by rw [ht]; exact hP, va_K.moved hW.alike hK, hD⟩, hS.F ht⟩) hS.2.2 dX4_joinAlike_78
      · have hf := ite_F c7 hf
        refine lv_iload_n hx hb dX4_joinAlike_21 rfl (lv_at hl 1 rfl) ?_
        refine lv_iconst (v := (-1)) hx hb dX4_joinAlike_22 (by decide) ?_
        refine lv_icmp_eq (tgt := 77) hx hb dX4_joinAlike_23 (by decide) (fun c8 => ?_) (fun c8 => ?_)
        · have hf := ite_T c8 hf
          refine lv_iload_n hx hb dX4_joinAlike_77 rfl (lv_at hl 2 rfl) ?_
          have hR := Option.some.inj hf
          subst hR
          exact W.iret (v := l2) hx hb hr (fun t ht hW => ⟨⟨l2, (), rfl, rfl, by rw [ht]; exact hP, va_K.moved hW.alike hK, hD⟩, hS.F ht⟩) hS.2.2 dX4_joinAlike_78
        · have hf := ite_F c8 hf
          refine lv_aload_n hx hb dX4_joinAlike_26 rfl (lv_at hl 3 rfl) ?_
          refine lv_iload_n hx hb dX4_joinAlike_27 rfl (lv_at hl 4 rfl) ?_
          refine lv_aload_n hx hb dX4_joinAlike_28 rfl (lv_at hl 3 rfl) ?_
          refine va_get (D := (dC, dI)) (ci := 6) (v := .ref v_firsts) (C := RX4) (T := TX4) (N := 7) hx hb hts inX4_ hown hK hP 0 rfl rfl 1 (by decide) fl15_ (fun _ h9 => h9) rfl dX4_joinAlike_29 ?_
          refine lv_iload_n hx hb dX4_joinAlike_32 rfl (lv_at hl 1 rfl) ?_
          obtain ⟨h9, hf⟩ := gd_T hf
          refine va_iald hx hb hK hP 2 0 rfl rfl h9 dX4_joinAlike_33 ?_
          obtain ⟨R11, g12, hf⟩ := bd_B hf
          obtain ⟨r10, rfl⟩ : ∃ z, z = R11 := ⟨_, rfl⟩
          have hPc := hP
          have hDc := hD
          have hFc := va_free (wc := wV_ v0 v_keys v_firsts v_ends v_values v_inferred v_gone cI cZ vkeys vfirsts vends vvalues vinferred vgone vmade) hD hS hA [0, 1, 2, 3, 4, 5, 6] rfl
          refine va_calli (va_runV (As := [.int l1, .int (vfirsts l3.toNatClampNeg)]) (rest := []) ⟨hx, hb, hml, hown, hts⟩ (c_X4_next l dC dI cI cZ cC cJ cD v0 v_keys v_firsts v_ends v_values v_inferred v_gone H6.size vkeys vfirsts vends vvalues vinferred vgone vmade l1 (vfirsts l3.toNatClampNeg) r10 g12) (cwV 2 hts gX4_joinAlike_X4_next rfl rfl rfl hs_X4_next ⟨Nat.le_of_ble_eq_true rfl, Nat.le_of_ble_eq_true rfl⟩) (preV_ (ci := 6) (q0 := 0) hPc hK hDc rfl rfl rfl rfl) rfl rfl hl.1 rfl (lv_room (Nat.le_of_ble_eq_true rfl)) dX4_joinAlike_34 ⟨Nat.le_of_ble_eq_true rfl, Nat.le_of_ble_eq_true rfl⟩) hS (fun q _ h => hFc q h) hFc (fun z14 u t H13 locs ht hvm hw hB hz1 hk1 hS => ?_)
          have hw : r10 = z14 := hw.symm
          subst hw
          obtain ⟨hP, hD⟩ := aft_ (Wr := []) (Wc' := wV_ v0 v_keys v_firsts v_ends v_values v_inferred v_gone cI cZ vkeys vfirsts vends vvalues vinferred vgone vmade) (W2 := wV_ v0 v_keys v_firsts v_ends v_values v_inferred v_gone cI cZ vkeys vfirsts vends vvalues vinferred vgone vmade) hP hD [0, 1, 2, 3, 4, 5, 6] [] [0, 1, 2, 3, 4, 5, 6] rfl rfl (by decide) (by decide) (by decide) hk1 hFc hB ht rfl
          refine lv_istore (lv' := [(5, .int r10), (4, .int l4), (3, .int l3), (2, .int l2), (0, .ref v0), (1, .int l1)]) hx hb dX4_joinAlike_37 hl (by decide) rfl (fun ls hl => ?_)
          refine lv_iload hx hb dX4_joinAlike_39 (lv_at hl 0 rfl) ?_
          refine lv_iconst (v := (-1)) hx hb dX4_joinAlike_41 (by decide) ?_
          refine lv_icmp_eq (tgt := 68) hx hb dX4_joinAlike_42 (by decide) (fun c15 => ?_) (fun c15 => ?_)
          · have hf := ite_T c15 hf
            refine lv_iload hx hb dX4_joinAlike_68 (lv_at hl 0 rfl) ?_
            refine lv_istore_n (lv' := [(3, .int r10), (5, .int r10), (4, .int l4), (2, .int l2), (0, .ref v0), (1, .int l1)]) hx hb dX4_joinAlike_70 rfl hl (by decide) rfl (fun ls hl => ?_)
            refine lv_iinc (v := l4 + 1) (lv' := [(4, .int (l4 + 1)), (3, .int r10), (5, .int r10), (2, .int l2), (0, .ref v0), (1, .int l1)]) hx hb dX4_joinAlike_71 hl (k := 2) rfl (by first | rfl | decide) (by decide) rfl (fun ls hl => ?_)
            refine lv_goto (tgt := 12) hx hb dX4_joinAlike_74 (by decide) ?_
            exact ih (l4 + 1) r10 l2 l1 vkeys vfirsts vends vvalues vinferred vgone vmade _ _ _ hf hP hD hS (lv_sub hl [0, 1, 3, 4, 5] rfl)
          · have hf := ite_F c15 hf
            refine lv_aload_n hx hb dX4_joinAlike_45 rfl (lv_at hl 4 rfl) ?_
            refine lv_iload_n hx hb dX4_joinAlike_46 rfl (lv_at hl 2 rfl) ?_
            refine lv_iload hx hb dX4_joinAlike_47 (lv_at hl 0 rfl) ?_
            obtain ⟨R17, g18, hf⟩ := bd_B hf
            obtain ⟨r16, rfl⟩ : ∃ z, z = R17 := ⟨_, rfl⟩
            have hPc := hP
            have hDc := hD
            have hFc := va_free (wc := wV_ v0 v_keys v_firsts v_ends v_values v_inferred v_gone cI cZ vkeys vfirsts vends vvalues vinferred vgone vmade) hD hS hA [0, 1, 2, 3, 4, 5, 6] rfl
            refine va_calli (va_runV (As := [.int l3, .int r10]) (rest := []) ⟨hx, hb, hml, hown, hts⟩ (c_X4_areAlike l dC dI cI cZ cC cJ cD v0 v_keys v_firsts v_ends v_values v_inferred v_gone H13.size vkeys vfirsts vends vvalues vinferred vgone vmade l3 r10 r16 g18) (cwV 2 hts gX4_joinAlike_X4_areAlike rfl rfl rfl hs_X4_areAlike ⟨Nat.le_of_ble_eq_true rfl, Nat.le_of_ble_eq_true rfl⟩) (preV_ (ci := 6) (q0 := 0) hPc hK hDc rfl rfl rfl rfl) rfl rfl hl.1 rfl (lv_room (Nat.le_of_ble_eq_true rfl)) dX4_joinAlike_49 ⟨Nat.le_of_ble_eq_true rfl, Nat.le_of_ble_eq_true rfl⟩) hS (fun q _ h => hFc q h) hFc (fun z20 u t H19 locs ht hvm hw hB hz1 hk1 hS => ?_)
            have hw : r16 = z20 := hw.symm
            subst hw
            obtain ⟨hP, hD⟩ := aft_ (Wr := []) (Wc' := wV_ v0 v_keys v_firsts v_ends v_values v_inferred v_gone cI cZ vkeys vfirsts vends vvalues vinferred vgone vmade) (W2 := wV_ v0 v_keys v_firsts v_ends v_values v_inferred v_gone cI cZ vkeys vfirsts vends vvalues vinferred vgone vmade) hP hD [0, 1, 2, 3, 4, 5, 6] [] [0, 1, 2, 3, 4, 5, 6] rfl rfl (by decide) (by decide) (by decide) hk1 hFc hB ht rfl
            refine lv_if_eq (tgt := 68) hx hb dX4_joinAlike_52 (by decide) (fun c21 => ?_) (fun c21 => ?_)
            · have hf := ite_T c21 hf
              refine lv_iload hx hb dX4_joinAlike_68 (lv_at hl 0 rfl) ?_
              refine lv_istore_n (lv' := [(3, .int r10), (5, .int r10), (4, .int l4), (2, .int l2), (0, .ref v0), (1, .int l1)]) hx hb dX4_joinAlike_70 rfl hl (by decide) rfl (fun ls hl => ?_)
              refine lv_iinc (v := l4 + 1) (lv' := [(4, .int (l4 + 1)), (3, .int r10), (5, .int r10), (2, .int l2), (0, .ref v0), (1, .int l1)]) hx hb dX4_joinAlike_71 hl (k := 2) rfl (by first | rfl | decide) (by decide) rfl (fun ls hl => ?_)
              refine lv_goto (tgt := 12) hx hb dX4_joinAlike_74 (by decide) ?_
              exact ih (l4 + 1) r10 l2 l1 vkeys vfirsts vends vvalues vinferred vgone vmade _ _ _ hf hP hD hS (lv_sub hl [0, 1, 3, 4, 5] rfl)
            · have hf := ite_F c21 hf
              refine lv_aload_n hx hb dX4_joinAlike_55 rfl (lv_at hl 4 rfl) ?_
              refine lv_iload_n hx hb dX4_joinAlike_56 rfl (lv_at hl 2 rfl) ?_
              refine lv_iload hx hb dX4_joinAlike_57 (lv_at hl 0 rfl) ?_
              obtain ⟨R29, g30, hf⟩ := bd_B hf
              obtain ⟨vk22, vf23, ve24, vv25, vi26, vg27, vm28⟩ := R29
              dsimp only at hf
              have hPc := hP
              have hDc := hD
              have hFc := va_free (wc := wV_ v0 v_keys v_firsts v_ends v_values v_inferred v_gone cI cZ vkeys vfirsts vends vvalues vinferred vgone vmade) hD hS hA [0, 1, 2, 3, 4, 5, 6] rfl
              refine va_callv (va_runV (As := [.int l3, .int r10]) (rest := []) ⟨hx, hb, hml, hown, hts⟩ (c_X4_merge l dC dI cI cZ cC cJ cD v0 v_keys v_firsts v_ends v_values v_inferred v_gone H19.size vkeys vfirsts vends vvalues vinferred vgone vmade l3 r10 (vk22, vf23, ve24, vv25, vi26, vg27, vm28) g30) (cwV 2 hts gX4_joinAlike_X4_merge rfl rfl rfl hs_X4_merge ⟨Nat.le_of_ble_eq_true rfl, Nat.le_of_ble_eq_true rfl⟩) (preV_ (ci := 6) (q0 := 0) hPc hK hDc rfl rfl rfl rfl) rfl rfl hl.1 rfl (lv_room (Nat.le_of_ble_eq_true rfl)) dX4_joinAlike_59 ⟨Nat.le_of_ble_eq_true rfl, Nat.le_of_ble_eq_true rfl⟩) hS (fun q _ h => hFc q h) hFc (fun u t H31 locs ht hvm hw hB hz1 hk1 hS => ?_)
              obtain ⟨hP, hD⟩ := aft_ (Wr := []) (Wc' := wV_ v0 v_keys v_firsts v_ends v_values v_inferred v_gone cI cZ vk22 vf23 ve24 vv25 vi26 vg27 vm28) (W2 := wV_ v0 v_keys v_firsts v_ends v_values v_inferred v_gone cI cZ vk22 vf23 ve24 vv25 vi26 vg27 vm28) hP hD [0, 1, 2, 3, 4, 5, 6] [] [0, 1, 2, 3, 4, 5, 6] rfl rfl (by decide) (by decide) (by decide) hk1 hFc hB ht rfl
              refine lv_iinc (v := l2 + 1) (lv' := [(2, .int (l2 + 1)), (5, .int r10), (4, .int l4), (3, .int l3), (0, .ref v0), (1, .int l1)]) hx hb dX4_joinAlike_62 hl (k := 3) rfl (by first | rfl | decide) (by decide) rfl (fun ls hl => ?_)
              refine lv_goto (tgt := 71) hx hb dX4_joinAlike_65 (by decide) ?_
              refine lv_iinc (v := l4 + 1) (lv' := [(4, .int (l4 + 1)), (2, .int (l2 + 1)), (5, .int r10), (3, .int l3), (0, .ref v0), (1, .int l1)]) hx hb dX4_joinAlike_71 hl (k := 2) rfl (by first | rfl | decide) (by decide) rfl (fun ls hl => ?_)
              refine lv_goto (tgt := 12) hx hb dX4_joinAlike_74 (by decide) ?_
              exact ih (l4 + 1) l3 (l2 + 1) l1 vk22 vf23 ve24 vv25 vi26 vg27 vm28 _ _ _ hf hP hD hS (lv_sub hl [0, 3, 1, 4, 5] rfl)
  exact lp12 fu_ (0 : Int32) r1 (0 : Int32) a1 vkeys vfirsts vends vvalues vinferred vgone vmade _ _ _ hf hP hD hS hl
theorem hs_X4_joinAlike : yX4_joinAlike.cls = RX4 ∧ yX4_joinAlike.cls ≠ "java/lang/invoke/MethodHandle" ∧ yX4_joinAlike.cls ≠ "java/lang/invoke/VarHandle" ∧ (parseMethodDescriptor yX4_joinAlike.desc).map (fun d => d.parameters.length) = some 1 := by decide +kernel
set_option maxRecDepth 20000 in
theorem in_X4_count_X4 : ∀ w ∈ wsX40, w ∈ wsX4_count := by decide +kernel
def f_X4_count_S4 (k_ : Int32 → Int32 → tV_ → Option (Int32)) (l2 : Int32) (l1 : Int32) (V_ : tV_) : Option (Int32) :=
match V_ with
| (vkeys, vfirsts, vends, vvalues, vinferred, vgone, vmade) =>
if vmade ≤ l2 then
some l1
else
bd_ (f_X4_has l2 (vkeys, vfirsts, vends, vvalues, vinferred, vgone, vmade)) (fun r3 =>
if r3 = 0 then
k_ (l2 + 1) l1 (vkeys, vfirsts, vends, vvalues, vinferred, vgone, vmade)
else
k_ (l2 + 1) (l1 + 1) (vkeys, vfirsts, vends, vvalues, vinferred, vgone, vmade))
def f_X4_count_L4 : Nat → Int32 → Int32 → tV_ → Option (Int32)
  | 0 => fun _ _ _ => none
  | n + 1 => fun l2 l1 V_ => f_X4_count_S4 (f_X4_count_L4 n) l2 l1 V_
def f_X4_count  (V_ : tV_) : Option (Int32) :=
match V_ with
| (vkeys, vfirsts, vends, vvalues, vinferred, vgone, vmade) =>
f_X4_count_L4 fu_ (0 : Int32) (0 : Int32) (vkeys, vfirsts, vends, vvalues, vinferred, vgone, vmade)
abbrev rm_X4_count : Room := { frames := 1, cells := 0, slots := 0, locals := 21 }
set_option maxHeartbeats 4000000 in
set_option maxRecDepth 100000 in
theorem c_X4_count (l : Launch) (dC : Nat → ClassId) (dI : Nat → Nat → Nat) (cI cZ cC cJ cD : ClassId) (v0 v_keys v_firsts v_ends v_values v_inferred v_gone : Nat) (sz : Nat) (vkeys : Nat → Int32) (vfirsts : Nat → Int32) (vends : Nat → Int32) (vvalues : Nat → Int32) (vinferred : Nat → Int32) (vgone : Nat → Int32) (vmade : Int32)  (R : Int32) (hf : f_X4_count  (vkeys, vfirsts, vends, vvalues, vinferred, vgone, vmade) = some R) : Met l yX4_count wsX4_count rm_X4_count (Pc_ (dC, dI) (ty_ cI cZ cC cJ cD) (wV_ v0 v_keys v_firsts v_ends v_values v_inferred v_gone cI cZ vkeys vfirsts vends vvalues vinferred vgone vmade) sz [.ref v0]) (Qi_ (dC, dI) (ty_ cI cZ cC cJ cD) R (wV_ v0 v_keys v_firsts v_ends v_values v_inferred v_gone cI cZ vkeys vfirsts vends vvalues vinferred vgone vmade) (va_A (wV_ v0 v_keys v_firsts v_ends v_values v_inferred v_gone cI cZ vkeys vfirsts vends vvalues vinferred vgone vmade) sz)) 0 0 (va_A (wV_ v0 v_keys v_firsts v_ends v_values v_inferred v_gone cI cZ vkeys vfirsts vends vvalues vinferred vgone vmade) sz) := by
  refine met_ (cc := cX4_count) (maxL := 3) (ret := (some .int)) (Qcf := fun A => Qi_ (dC, dI) (ty_ cI cZ cC cJ cD) R (wV_ v0 v_keys v_firsts v_ends v_values v_inferred v_gone cI cZ vkeys vfirsts vends vvalues vinferred vgone vmade) A) (by decide) rfl (Nat.le_of_ble_eq_true rfl) ?_
  intro p e s m args below meth c A ls hx hb hr hts hown hlocks hml hA hP hK hD hl
  have hown : s.vm.findClass RX4 = some m.cls := hown
  have hl : lv_has ls 3 [(0, .ref v0)] := hl
  have hS : va_S A s.heap s.heap [] := va_S.rf
  have fl31_ : (Cond.fieldLink RX4 31 "DimensionLoader$Versions" "made" "I").before args s = true := hts _ (List.mem_of_getElem? (i := 1) rfl)
  have inX4_ : ∀ w ∈ wsX40, w ∈ wsX4_count := in_X4_count_X4
  unfold f_X4_count at hf
  dsimp only at hf
  refine lv_iconst (v := 0) hx hb dX4_count_0 (by decide) ?_
  refine lv_istore_n (lv' := [(1, .int 0), (0, .ref v0)]) hx hb dX4_count_1 rfl hl (by decide) rfl (fun ls hl => ?_)
  refine lv_iconst (v := 0) hx hb dX4_count_2 (by decide) ?_
  refine lv_istore_n (lv' := [(2, .int 0), (1, .int 0), (0, .ref v0)]) hx hb dX4_count_3 rfl hl (by decide) rfl (fun ls hl => ?_)
  have lp4 : ∀ (n : Nat) (l2 : Int32) (l1 : Int32) (vkeys : Nat → Int32) (vfirsts : Nat → Int32) (vends : Nat → Int32) (vvalues : Nat → Int32) (vinferred : Nat → Int32) (vgone : Nat → Int32) (vmade : Int32) (H1 : Heap) (locs : List Loc) (ls : Array Slot), f_X4_count_L4 n l2 l1 (vkeys, vfirsts, vends, vvalues, vinferred, vgone, vmade) = some R → va_P (dC, dI) vwCl (wV_ v0 v_keys v_firsts v_ends v_values v_inferred v_gone cI cZ vkeys vfirsts vends vvalues vinferred vgone vmade) H1 → va_D A (wV_ v0 v_keys v_firsts v_ends v_values v_inferred v_gone cI cZ vkeys vfirsts vends vvalues vinferred vgone vmade) → va_S A s.heap H1 locs → lv_has ls 3 [(2, .int l2), (1, .int l1), (0, .ref v0)] → W p l e (headSpec wsX4_count rm_X4_count).room s m args below meth c H1 locs 0 0 (MQ below (Qi_ (dC, dI) (ty_ cI cZ cC cJ cD) R (wV_ v0 v_keys v_firsts v_ends v_values v_inferred v_gone cI cZ vkeys vfirsts vends vvalues vinferred vgone vmade) A) args s 0 0 A) (F0 m 4 ls []) := by
    intro n
    induction n with
    | zero => intro l2 l1 vkeys vfirsts vends vvalues vinferred vgone vmade H1 locs ls hf hP hD hS hl; exact absurd hf (by simp [f_X4_count_L4])
    | succ n ih =>
      intro l2 l1 vkeys vfirsts vends vvalues vinferred vgone vmade H1 locs ls hf hP hD hS hl
      have hf : f_X4_count_S4 (f_X4_count_L4 n) l2 l1 (vkeys, vfirsts, vends, vvalues, vinferred, vgone, vmade) = some R := hf
      unfold f_X4_count_S4 at hf
      dsimp only at hf
      refine lv_iload_n hx hb dX4_count_4 rfl (lv_at hl 0 rfl) ?_
      refine lv_aload_n hx hb dX4_count_5 rfl (lv_at hl 2 rfl) ?_
      refine va_get (D := (dC, dI)) (ci := 6) (v := .int vmade) (C := RX4) (T := TX4) (N := 7) hx hb hts inX4_ hown hK hP 0 rfl rfl 6 (by decide) fl31_ (fun _ h9 => h9) rfl dX4_count_6 ?_
      refine lv_icmp_ge (tgt := 29) hx hb dX4_count_9 (by decide) (fun c2 => ?_) (fun c2 => ?_)
      · have hf := ite_T c2 hf
        refine lv_iload_n hx hb dX4_count_29 rfl (lv_at hl 1 rfl) ?_
        have hR := Option.some.inj hf
        subst hR
        exact W.iret (v := l1) hx hb hr (fun t ht hW => ⟨⟨l1, (), rfl, rfl, by rw [ht]; exact hP, va_K.moved hW.alike hK, hD⟩, hS.F ht⟩) hS.2.2 dX4_count_30
      · have hf := ite_F c2 hf
        refine lv_aload_n hx hb dX4_count_12 rfl (lv_at hl 2 rfl) ?_
        refine lv_iload_n hx hb dX4_count_13 rfl (lv_at hl 0 rfl) ?_
        obtain ⟨R4, g5, hf⟩ := bd_B hf
        obtain ⟨r3, rfl⟩ : ∃ z, z = R4 := ⟨_, rfl⟩
        have hPc := hP
        have hDc := hD
        have hFc := va_free (wc := wV_ v0 v_keys v_firsts v_ends v_values v_inferred v_gone cI cZ vkeys vfirsts vends vvalues vinferred vgone vmade) hD hS hA [0, 1, 2, 3, 4, 5, 6] rfl
        refine va_calli (va_runV (As := [.int l2]) (rest := []) ⟨hx, hb, hml, hown, hts⟩ (c_X4_has l dC dI cI cZ cC cJ cD v0 v_keys v_firsts v_ends v_values v_inferred v_gone H1.size vkeys vfirsts vends vvalues vinferred vgone vmade l2 r3 g5) (cwV 1 hts gX4_count_X4_has rfl rfl rfl hs_X4_has ⟨Nat.le_of_ble_eq_true rfl, Nat.le_of_ble_eq_true rfl⟩) (preV_ (ci := 6) (q0 := 0) hPc hK hDc rfl rfl rfl rfl) rfl rfl hl.1 rfl (lv_room (Nat.le_of_ble_eq_true rfl)) dX4_count_14 ⟨Nat.le_of_ble_eq_true rfl, Nat.le_of_ble_eq_true rfl⟩) hS (fun q _ h => hFc q h) hFc (fun z7 u t H6 locs ht hvm hw hB hz1 hk1 hS => ?_)
        have hw : r3 = z7 := hw.symm
        subst hw
        obtain ⟨hP, hD⟩ := aft_ (Wr := []) (Wc' := wV_ v0 v_keys v_firsts v_ends v_values v_inferred v_gone cI cZ vkeys vfirsts vends vvalues vinferred vgone vmade) (W2 := wV_ v0 v_keys v_firsts v_ends v_values v_inferred v_gone cI cZ vkeys vfirsts vends vvalues vinferred vgone vmade) hP hD [0, 1, 2, 3, 4, 5, 6] [] [0, 1, 2, 3, 4, 5, 6] rfl rfl (by decide) (by decide) (by decide) hk1 hFc hB ht rfl
        refine lv_if_eq (tgt := 23) hx hb dX4_count_17 (by decide) (fun c8 => ?_) (fun c8 => ?_)
        · have hf := ite_T c8 hf
          refine lv_iinc (v := l2 + 1) (lv' := [(2, .int (l2 + 1)), (1, .int l1), (0, .ref v0)]) hx hb dX4_count_23 hl (k := 0) rfl (by first | rfl | decide) (by decide) rfl (fun ls hl => ?_)
          refine lv_goto (tgt := 4) hx hb dX4_count_26 (by decide) ?_
          exact ih (l2 + 1) l1 vkeys vfirsts vends vvalues vinferred vgone vmade _ _ _ hf hP hD hS (lv_sub hl [0, 1, 2] rfl)
        · have hf := ite_F c8 hf
          refine lv_iinc (v := l1 + 1) (lv' := [(1, .int (l1 + 1)), (2, .int l2), (0, .ref v0)]) hx hb dX4_count_20 hl (k := 1) rfl (by first | rfl | decide) (by decide) rfl (fun ls hl => ?_)
          refine lv_iinc (v := l2 + 1) (lv' := [(2, .int (l2 + 1)), (1, .int (l1 + 1)), (0, .ref v0)]) hx hb dX4_count_23 hl (k := 1) rfl (by first | rfl | decide) (by decide) rfl (fun ls hl => ?_)
          refine lv_goto (tgt := 4) hx hb dX4_count_26 (by decide) ?_
          exact ih (l2 + 1) (l1 + 1) vkeys vfirsts vends vvalues vinferred vgone vmade _ _ _ hf hP hD hS (lv_sub hl [0, 1, 2] rfl)
  exact lp4 fu_ (0 : Int32) (0 : Int32) vkeys vfirsts vends vvalues vinferred vgone vmade _ _ _ hf hP hD hS hl
theorem hs_X4_count : yX4_count.cls = RX4 ∧ yX4_count.cls ≠ "java/lang/invoke/MethodHandle" ∧ yX4_count.cls ≠ "java/lang/invoke/VarHandle" ∧ (parseMethodDescriptor yX4_count.desc).map (fun d => d.parameters.length) = some 0 := by decide +kernel
