set_option maxRecDepth 20000 in
theorem in_X6_thrown_X6 : ∀ w ∈ wsX60, w ∈ wsX6_thrown := by decide +kernel
def f_X6_thrown  (M_ : tM_) : Option (Int32) :=
match M_ with
| (mg, mkept, mspare, mhasKept, mwas, mwasMany, manew, mthrown, mtext, mlength, mspot, mvalue, merror, mtold, mtolds) =>
some mthrown
abbrev rm_X6_thrown : Room := { frames := 0, cells := 0, slots := 0, locals := 0 }
set_option maxHeartbeats 4000000 in
set_option maxRecDepth 100000 in
theorem c_X6_thrown (l : Launch) (dC : Nat → ClassId) (dI : Nat → Nat → Nat) (cI cZ cC cJ cD : ClassId) (m0 m_g m_kept m_spare m_was m_text m_told : Nat) (sz : Nat) (mg : Nat → Int32) (mkept : Nat → Int32) (mspare : Nat → Int32) (mhasKept : Int32) (mwas : Nat → Int32) (mwasMany : Int32) (manew : Int32) (mthrown : Int32) (mtext : Nat → Int32) (mlength : Int32) (mspot : Int32) (mvalue : Int32) (merror : Int32) (mtold : Nat → Int32) (mtolds : Int32)  (R : Int32) (hf : f_X6_thrown  (mg, mkept, mspare, mhasKept, mwas, mwasMany, manew, mthrown, mtext, mlength, mspot, mvalue, merror, mtold, mtolds) = some R) : Met l yX6_thrown wsX6_thrown rm_X6_thrown (Pc_ (dC, dI) (ty_ cI cZ cC cJ cD) (wM_ m0 m_g m_kept m_spare m_was m_text m_told cI mg mkept mspare mhasKept mwas mwasMany manew mthrown mtext mlength mspot mvalue merror mtold mtolds) sz [.ref m0]) (Qi_ (dC, dI) (ty_ cI cZ cC cJ cD) R (wM_ m0 m_g m_kept m_spare m_was m_text m_told cI mg mkept mspare mhasKept mwas mwasMany manew mthrown mtext mlength mspot mvalue merror mtold mtolds) (va_A (wM_ m0 m_g m_kept m_spare m_was m_text m_told cI mg mkept mspare mhasKept mwas mwasMany manew mthrown mtext mlength mspot mvalue merror mtold mtolds) sz)) 0 0 (va_A (wM_ m0 m_g m_kept m_spare m_was m_text m_told cI mg mkept mspare mhasKept mwas mwasMany manew mthrown mtext mlength mspot mvalue merror mtold mtolds) sz) := by
  refine met_ (cc := cX6_thrown) (maxL := 1) (ret := (some .int)) (Qcf := fun A => Qi_ (dC, dI) (ty_ cI cZ cC cJ cD) R (wM_ m0 m_g m_kept m_spare m_was m_text m_told cI mg mkept mspare mhasKept mwas mwasMany manew mthrown mtext mlength mspot mvalue merror mtold mtolds) A) (by decide) rfl (Nat.le_of_ble_eq_true rfl) ?_
  intro p e s m args below meth c A ls hx hb hr hts hown hlocks hml hA hP hK hD hl
  have hown : s.vm.findClass RX6 = some m.cls := hown
  have hl : lv_has ls 1 [(0, .ref m0)] := hl
  have hS : va_S A s.heap s.heap [] := va_S.rf
  have fl32_ : (Cond.fieldLink RX6 32 "DimensionLoaderModel" "thrown" "I").before args s = true := hts _ (List.mem_of_getElem? (i := 1) rfl)
  have inX6_ : ∀ w ∈ wsX60, w ∈ wsX6_thrown := in_X6_thrown_X6
  unfold f_X6_thrown at hf
  dsimp only at hf
  refine lv_aload_n hx hb dX6_thrown_0 rfl (lv_at hl 0 rfl) ?_
  refine va_get (D := (dC, dI)) (ci := 8) (v := .int mthrown) (C := RX6) (T := TX6) (N := 15) hx hb hts inX6_ hown hK hP 0 rfl rfl 7 (by decide) fl32_ (fun _ h9 => h9) rfl dX6_thrown_1 ?_
  have hR := Option.some.inj hf
  subst hR
  exact W.iret (v := mthrown) hx hb hr (fun t ht hW => ⟨⟨mthrown, (), rfl, rfl, by rw [ht]; exact hP, va_K.moved hW.alike hK, hD⟩, hS.F ht⟩) hS.2.2 dX6_thrown_4
theorem hs_X6_thrown : yX6_thrown.cls = RX6 ∧ yX6_thrown.cls ≠ "java/lang/invoke/MethodHandle" ∧ yX6_thrown.cls ≠ "java/lang/invoke/VarHandle" ∧ (parseMethodDescriptor yX6_thrown.desc).map (fun d => d.parameters.length) = some 0 := by decide +kernel
set_option maxRecDepth 20000 in
theorem in_X6_fails_X6 : ∀ w ∈ wsX60, w ∈ wsX6_fails := by decide +kernel
def f_X6_fails (a1 : Int32) (M_ : tM_) : Option (Int32 × tM_) :=
match M_ with
| (mg, mkept, mspare, mhasKept, mwas, mwasMany, manew, mthrown, mtext, mlength, mspot, mvalue, merror, mtold, mtolds) =>
some ((0 : Int32), (mg, mkept, mspare, mhasKept, mwas, mwasMany, manew, a1, mtext, mlength, mspot, mvalue, merror, mtold, mtolds))
abbrev rm_X6_fails : Room := { frames := 0, cells := 0, slots := 0, locals := 0 }
set_option maxHeartbeats 4000000 in
set_option maxRecDepth 100000 in
theorem c_X6_fails (l : Launch) (dC : Nat → ClassId) (dI : Nat → Nat → Nat) (cI cZ cC cJ cD : ClassId) (m0 m_g m_kept m_spare m_was m_text m_told : Nat) (sz : Nat) (mg : Nat → Int32) (mkept : Nat → Int32) (mspare : Nat → Int32) (mhasKept : Int32) (mwas : Nat → Int32) (mwasMany : Int32) (manew : Int32) (mthrown : Int32) (mtext : Nat → Int32) (mlength : Int32) (mspot : Int32) (mvalue : Int32) (merror : Int32) (mtold : Nat → Int32) (mtolds : Int32) (a1 : Int32) (R : Int32 × tM_) (hf : f_X6_fails a1 (mg, mkept, mspare, mhasKept, mwas, mwasMany, manew, mthrown, mtext, mlength, mspot, mvalue, merror, mtold, mtolds) = some R) : Met l yX6_fails wsX6_fails rm_X6_fails (Pc_ (dC, dI) (ty_ cI cZ cC cJ cD) (wM_ m0 m_g m_kept m_spare m_was m_text m_told cI mg mkept mspare mhasKept mwas mwasMany manew mthrown mtext mlength mspot mvalue merror mtold mtolds) sz [.ref m0, .int a1]) (Qi_ (dC, dI) (ty_ cI cZ cC cJ cD) R.1 (wM_ m0 m_g m_kept m_spare m_was m_text m_told cI R.2.1 R.2.2.1 R.2.2.2.1 R.2.2.2.2.1 R.2.2.2.2.2.1 R.2.2.2.2.2.2.1 R.2.2.2.2.2.2.2.1 R.2.2.2.2.2.2.2.2.1 R.2.2.2.2.2.2.2.2.2.1 R.2.2.2.2.2.2.2.2.2.2.1 R.2.2.2.2.2.2.2.2.2.2.2.1 R.2.2.2.2.2.2.2.2.2.2.2.2.1 R.2.2.2.2.2.2.2.2.2.2.2.2.2.1 R.2.2.2.2.2.2.2.2.2.2.2.2.2.2.1 R.2.2.2.2.2.2.2.2.2.2.2.2.2.2.2) (va_A (wM_ m0 m_g m_kept m_spare m_was m_text m_told cI mg mkept mspare mhasKept mwas mwasMany manew mthrown mtext mlength mspot mvalue merror mtold mtolds) sz)) 0 0 (va_A (wM_ m0 m_g m_kept m_spare m_was m_text m_told cI mg mkept mspare mhasKept mwas mwasMany manew mthrown mtext mlength mspot mvalue merror mtold mtolds) sz) := by
  refine met_ (cc := cX6_fails) (maxL := 2) (ret := (some .int)) (Qcf := fun A => Qi_ (dC, dI) (ty_ cI cZ cC cJ cD) R.1 (wM_ m0 m_g m_kept m_spare m_was m_text m_told cI R.2.1 R.2.2.1 R.2.2.2.1 R.2.2.2.2.1 R.2.2.2.2.2.1 R.2.2.2.2.2.2.1 R.2.2.2.2.2.2.2.1 R.2.2.2.2.2.2.2.2.1 R.2.2.2.2.2.2.2.2.2.1 R.2.2.2.2.2.2.2.2.2.2.1 R.2.2.2.2.2.2.2.2.2.2.2.1 R.2.2.2.2.2.2.2.2.2.2.2.2.1 R.2.2.2.2.2.2.2.2.2.2.2.2.2.1 R.2.2.2.2.2.2.2.2.2.2.2.2.2.2.1 R.2.2.2.2.2.2.2.2.2.2.2.2.2.2.2) A) (by decide) rfl (Nat.le_of_ble_eq_true rfl) ?_
  intro p e s m args below meth c A ls hx hb hr hts hown hlocks hml hA hP hK hD hl
  have hown : s.vm.findClass RX6 = some m.cls := hown
  have hl : lv_has ls 2 [(0, .ref m0), (1, .int a1)] := hl
  have hS : va_S A s.heap s.heap [] := va_S.rf
  have fl32_ : (Cond.fieldLink RX6 32 "DimensionLoaderModel" "thrown" "I").before args s = true := hts _ (List.mem_of_getElem? (i := 1) rfl)
  have inX6_ : ∀ w ∈ wsX60, w ∈ wsX6_fails := in_X6_fails_X6
  unfold f_X6_fails at hf
  dsimp only at hf
  refine lv_aload_n hx hb dX6_fails_0 rfl (lv_at hl 0 rfl) ?_
  refine lv_iload_n hx hb dX6_fails_1 rfl (lv_at hl 1 rfl) ?_
  refine va_put (D := (dC, dI)) (ci := 8) (v := .int a1) (ty := .int) (C := RX6) (T := TX6) (N := 15) hx hb hts inX6_ tyX6 tyX6_ok nmX6 hown hK hP hD hS 0 rfl rfl 7 (by decide) fl32_ (fun _ h9 => h9) rfl (by decide +kernel) (by first | rfl | decide) (by first | rfl | decide) (Nat.le_of_ble_eq_true rfl) dX6_fails_2 (fun H1 locs hP hD hS => ?_)
  have hP : va_P (dC, dI) vwCl (wM_ m0 m_g m_kept m_spare m_was m_text m_told cI mg mkept mspare mhasKept mwas mwasMany manew a1 mtext mlength mspot mvalue merror mtold mtolds) H1 := hP
  have hD : va_D A (wM_ m0 m_g m_kept m_spare m_was m_text m_told cI mg mkept mspare mhasKept mwas mwasMany manew a1 mtext mlength mspot mvalue merror mtold mtolds) := hD
  refine lv_iconst (v := 0) hx hb dX6_fails_5 (by decide) ?_
  have hR := Option.some.inj hf
  subst hR
  exact W.iret (v := (0 : Int32)) hx hb hr (fun t ht hW => ⟨⟨(0 : Int32), (), rfl, rfl, by rw [ht]; exact hP, va_K.moved hW.alike hK, hD⟩, hS.F ht⟩) hS.2.2 dX6_fails_6
theorem hs_X6_fails : yX6_fails.cls = RX6 ∧ yX6_fails.cls ≠ "java/lang/invoke/MethodHandle" ∧ yX6_fails.cls ≠ "java/lang/invoke/VarHandle" ∧ (parseMethodDescriptor yX6_fails.desc).map (fun d => d.parameters.length) = some 1 := by decide +kernel
def f_X6_in (a1 : Int32) (a2 : Int32) (a3 : Int32)  : Option (Int32) :=
if a1 < a2 then
some (0 : Int32)
else
if a3 < a1 then
some (0 : Int32)
else
some (1 : Int32)
abbrev rm_X6_in : Room := { frames := 0, cells := 0, slots := 0, locals := 0 }
set_option maxHeartbeats 4000000 in
set_option maxRecDepth 100000 in
theorem c_X6_in (l : Launch) (dC : Nat → ClassId) (dI : Nat → Nat → Nat) (cI cZ cC cJ cD : ClassId) (sz : Nat)  (a1 : Int32) (a2 : Int32) (a3 : Int32) (R : Int32) (hf : f_X6_in a1 a2 a3  = some R) : Met l yX6_in wsX6_in rm_X6_in (Pc_ (dC, dI) (ty_ cI cZ cC cJ cD) ([]) sz [.int a1, .int a2, .int a3]) (Qi_ (dC, dI) (ty_ cI cZ cC cJ cD) R ([]) (va_A ([]) sz)) 0 0 (va_A ([]) sz) := by
  refine met_ (cc := cX6_in) (maxL := 3) (ret := (some .boolean)) (Qcf := fun A => Qi_ (dC, dI) (ty_ cI cZ cC cJ cD) R ([]) A) (by decide) rfl (Nat.le_of_ble_eq_true rfl) ?_
  intro p e s m args below meth c A ls hx hb hr hts hown hlocks hml hA hP hK hD hl
  have hown : s.vm.findClass RX6 = some m.cls := hown
  have hl : lv_has ls 3 [(0, .int a1), (1, .int a2), (2, .int a3)] := hl
  have hS : va_S A s.heap s.heap [] := va_S.rf
  unfold f_X6_in at hf
  refine lv_iload_n hx hb dX6_in_0 rfl (lv_at hl 0 rfl) ?_
  refine lv_iload_n hx hb dX6_in_1 rfl (lv_at hl 1 rfl) ?_
  refine lv_icmp_lt (tgt := 14) hx hb dX6_in_2 (by decide) (fun c1 => ?_) (fun c1 => ?_)
  · have hf := ite_T c1 hf
    refine lv_iconst (v := 0) hx hb dX6_in_14 (by decide) ?_
    have hR := Option.some.inj hf
    subst hR
    exact W.zret (v := (0 : Int32)) hx hb hr (by decide) (fun t ht hW => ⟨⟨(0 : Int32), (), rfl, rfl, by rw [ht]; exact hP, va_K.moved hW.alike hK, hD⟩, hS.F ht⟩) hS.2.2 dX6_in_15
  · have hf := ite_F c1 hf
    refine lv_iload_n hx hb dX6_in_5 rfl (lv_at hl 0 rfl) ?_
    refine lv_iload_n hx hb dX6_in_6 rfl (lv_at hl 2 rfl) ?_
    refine lv_icmp_gt (tgt := 14) hx hb dX6_in_7 (by decide) (fun c2 => ?_) (fun c2 => ?_)
    · have hf := ite_T c2 hf
      refine lv_iconst (v := 0) hx hb dX6_in_14 (by decide) ?_
      have hR := Option.some.inj hf
      subst hR
      exact W.zret (v := (0 : Int32)) hx hb hr (by decide) (fun t ht hW => ⟨⟨(0 : Int32), (), rfl, rfl, by rw [ht]; exact hP, va_K.moved hW.alike hK, hD⟩, hS.F ht⟩) hS.2.2 dX6_in_15
    · have hf := ite_F c2 hf
      refine lv_iconst (v := 1) hx hb dX6_in_10 (by decide) ?_
      refine lv_goto (tgt := 15) hx hb dX6_in_11 (by decide) ?_
      have hR := Option.some.inj hf
      subst hR
      exact W.zret (v := (1 : Int32)) hx hb hr (by decide) (fun t ht hW => ⟨⟨(1 : Int32), (), rfl, rfl, by rw [ht]; exact hP, va_K.moved hW.alike hK, hD⟩, hS.F ht⟩) hS.2.2 dX6_in_15
theorem hs_X6_in : yX6_in.cls = RX6 ∧ yX6_in.cls ≠ "java/lang/invoke/MethodHandle" ∧ yX6_in.cls ≠ "java/lang/invoke/VarHandle" ∧ (parseMethodDescriptor yX6_in.desc).map (fun d => d.parameters.length) = some 3 := by decide +kernel
def f_X6_isKey (a1 : Int32)  : Option (Int32) :=
bd_ (f_X6_in a1 (0 : Int32) (7 : Int32)) (fun r1 =>
gb_ r1 (some r1))
abbrev rm_X6_isKey : Room := { frames := 1, cells := 0, slots := 0, locals := 22 }
set_option maxHeartbeats 4000000 in
set_option maxRecDepth 100000 in
theorem c_X6_isKey (l : Launch) (dC : Nat → ClassId) (dI : Nat → Nat → Nat) (cI cZ cC cJ cD : ClassId) (sz : Nat)  (a1 : Int32) (R : Int32) (hf : f_X6_isKey a1  = some R) : Met l yX6_isKey wsX6_isKey rm_X6_isKey (Pc_ (dC, dI) (ty_ cI cZ cC cJ cD) ([]) sz [.int a1]) (Qi_ (dC, dI) (ty_ cI cZ cC cJ cD) R ([]) (va_A ([]) sz)) 0 0 (va_A ([]) sz) := by
  refine met_ (cc := cX6_isKey) (maxL := 1) (ret := (some .boolean)) (Qcf := fun A => Qi_ (dC, dI) (ty_ cI cZ cC cJ cD) R ([]) A) (by decide) rfl (Nat.le_of_ble_eq_true rfl) ?_
  intro p e s m args below meth c A ls hx hb hr hts hown hlocks hml hA hP hK hD hl
  have hown : s.vm.findClass RX6 = some m.cls := hown
  have hl : lv_has ls 1 [(0, .int a1)] := hl
  have hS : va_S A s.heap s.heap [] := va_S.rf
  unfold f_X6_isKey at hf
  refine lv_iload_n hx hb dX6_isKey_0 rfl (lv_at hl 0 rfl) ?_
  refine lv_iconst (v := 0) hx hb dX6_isKey_1 (by decide) ?_
  refine lv_bipush (v := 7) hx hb dX6_isKey_2 (by decide) ?_
  obtain ⟨R2, g3, hf⟩ := bd_B hf
  obtain ⟨r1, rfl⟩ : ∃ z, z = R2 := ⟨_, rfl⟩
  have hPc := hP
  have hDc := hD
  have hFc := va_free (wc := []) hD hS hA [] rfl
  refine va_calli (va_runS (As := [.int a1, .int 0, .int 7]) (rest := []) ⟨hx, hb, hml, hown, hts⟩ (c_X6_in l dC dI cI cZ cC cJ cD s.heap.size a1 (0 : Int32) (7 : Int32) r1 g3) (cwS 3 hts gX6_isKey_X6_in rfl rfl rfl hs_X6_in ⟨Nat.le_of_ble_eq_true rfl, Nat.le_of_ble_eq_true rfl⟩) (preS_ hPc hK hDc rfl) rfl rfl hl.1 rfl (lv_room (Nat.le_of_ble_eq_true rfl)) dX6_isKey_4 ⟨Nat.le_of_ble_eq_true rfl, Nat.le_of_ble_eq_true rfl⟩) hS (fun q _ h => hFc q h) hFc (fun z5 u t H4 locs ht hvm hw hB hz1 hk1 hS => ?_)
  have hw : r1 = z5 := hw.symm
  subst hw
  obtain ⟨hP, hD⟩ := aft_ (Wr := []) (Wc' := []) (W2 := []) hP hD [] [] [] rfl rfl (by decide) (by decide) (by decide) hk1 hFc hB ht rfl
  obtain ⟨h6, hf⟩ := gb_T hf
  have hR := Option.some.inj hf
  subst hR
  exact W.zret (v := r1) hx hb hr (nar_b h6) (fun t ht hW => ⟨⟨r1, (), rfl, rfl, by rw [ht]; exact hP, va_K.moved hW.alike hK, hD⟩, hS.F ht⟩) hS.2.2 dX6_isKey_7
theorem hs_X6_isKey : yX6_isKey.cls = RX6 ∧ yX6_isKey.cls ≠ "java/lang/invoke/MethodHandle" ∧ yX6_isKey.cls ≠ "java/lang/invoke/VarHandle" ∧ (parseMethodDescriptor yX6_isKey.desc).map (fun d => d.parameters.length) = some 1 := by decide +kernel
def f_X6_isDay (a1 : Int32)  : Option (Int32) :=
bd_ (f_X6_in a1 (0 : Int32) (999 : Int32)) (fun r1 =>
gb_ r1 (some r1))
abbrev rm_X6_isDay : Room := { frames := 1, cells := 0, slots := 0, locals := 22 }
set_option maxHeartbeats 4000000 in
set_option maxRecDepth 100000 in
theorem c_X6_isDay (l : Launch) (dC : Nat → ClassId) (dI : Nat → Nat → Nat) (cI cZ cC cJ cD : ClassId) (sz : Nat)  (a1 : Int32) (R : Int32) (hf : f_X6_isDay a1  = some R) : Met l yX6_isDay wsX6_isDay rm_X6_isDay (Pc_ (dC, dI) (ty_ cI cZ cC cJ cD) ([]) sz [.int a1]) (Qi_ (dC, dI) (ty_ cI cZ cC cJ cD) R ([]) (va_A ([]) sz)) 0 0 (va_A ([]) sz) := by
  refine met_ (cc := cX6_isDay) (maxL := 1) (ret := (some .boolean)) (Qcf := fun A => Qi_ (dC, dI) (ty_ cI cZ cC cJ cD) R ([]) A) (by decide) rfl (Nat.le_of_ble_eq_true rfl) ?_
  intro p e s m args below meth c A ls hx hb hr hts hown hlocks hml hA hP hK hD hl
  have hown : s.vm.findClass RX6 = some m.cls := hown
  have hl : lv_has ls 1 [(0, .int a1)] := hl
  have hS : va_S A s.heap s.heap [] := va_S.rf
  unfold f_X6_isDay at hf
  refine lv_iload_n hx hb dX6_isDay_0 rfl (lv_at hl 0 rfl) ?_
  refine lv_iconst (v := 0) hx hb dX6_isDay_1 (by decide) ?_
  refine lv_sipush (v := 999) hx hb dX6_isDay_2 (by decide) ?_
  obtain ⟨R2, g3, hf⟩ := bd_B hf
  obtain ⟨r1, rfl⟩ : ∃ z, z = R2 := ⟨_, rfl⟩
  have hPc := hP
  have hDc := hD
  have hFc := va_free (wc := []) hD hS hA [] rfl
  refine va_calli (va_runS (As := [.int a1, .int 0, .int 999]) (rest := []) ⟨hx, hb, hml, hown, hts⟩ (c_X6_in l dC dI cI cZ cC cJ cD s.heap.size a1 (0 : Int32) (999 : Int32) r1 g3) (cwS 3 hts gX6_isDay_X6_in rfl rfl rfl hs_X6_in ⟨Nat.le_of_ble_eq_true rfl, Nat.le_of_ble_eq_true rfl⟩) (preS_ hPc hK hDc rfl) rfl rfl hl.1 rfl (lv_room (Nat.le_of_ble_eq_true rfl)) dX6_isDay_5 ⟨Nat.le_of_ble_eq_true rfl, Nat.le_of_ble_eq_true rfl⟩) hS (fun q _ h => hFc q h) hFc (fun z5 u t H4 locs ht hvm hw hB hz1 hk1 hS => ?_)
  have hw : r1 = z5 := hw.symm
  subst hw
  obtain ⟨hP, hD⟩ := aft_ (Wr := []) (Wc' := []) (W2 := []) hP hD [] [] [] rfl rfl (by decide) (by decide) (by decide) hk1 hFc hB ht rfl
  obtain ⟨h6, hf⟩ := gb_T hf
  have hR := Option.some.inj hf
  subst hR
  exact W.zret (v := r1) hx hb hr (nar_b h6) (fun t ht hW => ⟨⟨r1, (), rfl, rfl, by rw [ht]; exact hP, va_K.moved hW.alike hK, hD⟩, hS.F ht⟩) hS.2.2 dX6_isDay_8
theorem hs_X6_isDay : yX6_isDay.cls = RX6 ∧ yX6_isDay.cls ≠ "java/lang/invoke/MethodHandle" ∧ yX6_isDay.cls ≠ "java/lang/invoke/VarHandle" ∧ (parseMethodDescriptor yX6_isDay.desc).map (fun d => d.parameters.length) = some 1 := by decide +kernel
set_option maxRecDepth 20000 in
theorem in_X6_isVersion_X6 : ∀ w ∈ wsX60, w ∈ wsX6_isVersion := by decide +kernel
def f_X6_isVersion (a1 : Int32) (M_ : tM_) : Option (Int32) :=
match M_ with
| (mg, mkept, mspare, mhasKept, mwas, mwasMany, manew, mthrown, mtext, mlength, mspot, mvalue, merror, mtold, mtolds) =>
gd_ (0 : Int32) 610 (
bd_ (f_X6_in a1 (0 : Int32) ((mg ((0 : Int32).toNatClampNeg)) - 1)) (fun r2 =>
if r2 = 0 then
some (0 : Int32)
else
gd_ (10 + a1) 610 (
if (mg ((10 + a1).toNatClampNeg)) = 1 then
some (1 : Int32)
else
some (0 : Int32))))
abbrev rm_X6_isVersion : Room := { frames := 1, cells := 0, slots := 0, locals := 22 }
set_option maxHeartbeats 4000000 in
set_option maxRecDepth 100000 in
theorem c_X6_isVersion (l : Launch) (dC : Nat → ClassId) (dI : Nat → Nat → Nat) (cI cZ cC cJ cD : ClassId) (m0 m_g m_kept m_spare m_was m_text m_told : Nat) (sz : Nat) (mg : Nat → Int32) (mkept : Nat → Int32) (mspare : Nat → Int32) (mhasKept : Int32) (mwas : Nat → Int32) (mwasMany : Int32) (manew : Int32) (mthrown : Int32) (mtext : Nat → Int32) (mlength : Int32) (mspot : Int32) (mvalue : Int32) (merror : Int32) (mtold : Nat → Int32) (mtolds : Int32) (a1 : Int32) (R : Int32) (hf : f_X6_isVersion a1 (mg, mkept, mspare, mhasKept, mwas, mwasMany, manew, mthrown, mtext, mlength, mspot, mvalue, merror, mtold, mtolds) = some R) : Met l yX6_isVersion wsX6_isVersion rm_X6_isVersion (Pc_ (dC, dI) (ty_ cI cZ cC cJ cD) (wM_ m0 m_g m_kept m_spare m_was m_text m_told cI mg mkept mspare mhasKept mwas mwasMany manew mthrown mtext mlength mspot mvalue merror mtold mtolds) sz [.ref m0, .int a1]) (Qi_ (dC, dI) (ty_ cI cZ cC cJ cD) R (wM_ m0 m_g m_kept m_spare m_was m_text m_told cI mg mkept mspare mhasKept mwas mwasMany manew mthrown mtext mlength mspot mvalue merror mtold mtolds) (va_A (wM_ m0 m_g m_kept m_spare m_was m_text m_told cI mg mkept mspare mhasKept mwas mwasMany manew mthrown mtext mlength mspot mvalue merror mtold mtolds) sz)) 0 0 (va_A (wM_ m0 m_g m_kept m_spare m_was m_text m_told cI mg mkept mspare mhasKept mwas mwasMany manew mthrown mtext mlength mspot mvalue merror mtold mtolds) sz) := by
  refine met_ (cc := cX6_isVersion) (maxL := 2) (ret := (some .boolean)) (Qcf := fun A => Qi_ (dC, dI) (ty_ cI cZ cC cJ cD) R (wM_ m0 m_g m_kept m_spare m_was m_text m_told cI mg mkept mspare mhasKept mwas mwasMany manew mthrown mtext mlength mspot mvalue merror mtold mtolds) A) (by decide) rfl (Nat.le_of_ble_eq_true rfl) ?_
  intro p e s m args below meth c A ls hx hb hr hts hown hlocks hml hA hP hK hD hl
  have hown : s.vm.findClass RX6 = some m.cls := hown
  have hl : lv_has ls 2 [(0, .ref m0), (1, .int a1)] := hl
  have hS : va_S A s.heap s.heap [] := va_S.rf
  have fl7_ : (Cond.fieldLink RX6 7 "DimensionLoaderModel" "g" "[I").before args s = true := hts _ (List.mem_of_getElem? (i := 1) rfl)
  have inX6_ : ∀ w ∈ wsX60, w ∈ wsX6_isVersion := in_X6_isVersion_X6
  unfold f_X6_isVersion at hf
  dsimp only at hf
  refine lv_iload_n hx hb dX6_isVersion_0 rfl (lv_at hl 1 rfl) ?_
  refine lv_iconst (v := 0) hx hb dX6_isVersion_1 (by decide) ?_
  refine lv_aload_n hx hb dX6_isVersion_2 rfl (lv_at hl 0 rfl) ?_
  refine va_get (D := (dC, dI)) (ci := 8) (v := .ref m_g) (C := RX6) (T := TX6) (N := 15) hx hb hts inX6_ hown hK hP 0 rfl rfl 0 (by decide) fl7_ (fun _ h9 => h9) rfl dX6_isVersion_3 ?_
  refine lv_iconst (v := 0) hx hb dX6_isVersion_6 (by decide) ?_
  obtain ⟨h1, hf⟩ := gd_T hf
  refine va_iald hx hb hK hP 1 0 rfl rfl h1 dX6_isVersion_7 ?_
  refine lv_iconst (v := 1) hx hb dX6_isVersion_8 (by decide) ?_
  refine lv_isub hx hb dX6_isVersion_9 ?_
  obtain ⟨R3, g4, hf⟩ := bd_B hf
  obtain ⟨r2, rfl⟩ : ∃ z, z = R3 := ⟨_, rfl⟩
  have hPc := hP.sub (ws' := []) [] rfl
  have hDc := hD.sub (ws' := []) [] (by decide) rfl
  have hFc := va_free (wc := []) hD hS hA [] rfl
  refine va_calli (va_runS (As := [.int a1, .int 0, .int ((mg ((0 : Int32).toNatClampNeg)) - 1)]) (rest := []) ⟨hx, hb, hml, hown, hts⟩ (c_X6_in l dC dI cI cZ cC cJ cD s.heap.size a1 (0 : Int32) ((mg ((0 : Int32).toNatClampNeg)) - 1) r2 g4) (cwS 3 hts gX6_isVersion_X6_in rfl rfl rfl hs_X6_in ⟨Nat.le_of_ble_eq_true rfl, Nat.le_of_ble_eq_true rfl⟩) (preS_ hPc hK hDc rfl) rfl rfl hl.1 rfl (lv_room (Nat.le_of_ble_eq_true rfl)) dX6_isVersion_10 ⟨Nat.le_of_ble_eq_true rfl, Nat.le_of_ble_eq_true rfl⟩) hS (fun q _ h => hFc q h) hFc (fun z6 u t H5 locs ht hvm hw hB hz1 hk1 hS => ?_)
  have hw : r2 = z6 := hw.symm
  subst hw
  obtain ⟨hP, hD⟩ := aft_ (Wr := wM_ m0 m_g m_kept m_spare m_was m_text m_told cI mg mkept mspare mhasKept mwas mwasMany manew mthrown mtext mlength mspot mvalue merror mtold mtolds) (Wc' := []) (W2 := wM_ m0 m_g m_kept m_spare m_was m_text m_told cI mg mkept mspare mhasKept mwas mwasMany manew mthrown mtext mlength mspot mvalue merror mtold mtolds) hP hD [] [0, 1, 2, 3, 4, 5, 6] [0, 1, 2, 3, 4, 5, 6] rfl rfl (by decide) (by decide) (by decide) hk1 hFc hB ht rfl
  refine lv_if_eq (tgt := 33) hx hb dX6_isVersion_13 (by decide) (fun c7 => ?_) (fun c7 => ?_)
  · have hf := ite_T c7 hf
    refine lv_iconst (v := 0) hx hb dX6_isVersion_33 (by decide) ?_
    have hR := Option.some.inj hf
    subst hR
    exact W.zret (v := (0 : Int32)) hx hb hr (by decide) (fun t ht hW => ⟨⟨(0 : Int32), (), rfl, rfl, by rw [ht]; exact hP, va_K.moved hW.alike hK, hD⟩, hS.F ht⟩) hS.2.2 dX6_isVersion_34
  · have hf := ite_F c7 hf
    refine lv_aload_n hx hb dX6_isVersion_16 rfl (lv_at hl 0 rfl) ?_
    refine va_get (D := (dC, dI)) (ci := 8) (v := .ref m_g) (C := RX6) (T := TX6) (N := 15) hx hb hts inX6_ hown hK hP 0 rfl rfl 0 (by decide) fl7_ (fun _ h9 => h9) rfl dX6_isVersion_17 ?_
    refine lv_bipush (v := 10) hx hb dX6_isVersion_20 (by decide) ?_
    refine lv_iload_n hx hb dX6_isVersion_22 rfl (lv_at hl 1 rfl) ?_
    refine lv_iadd hx hb dX6_isVersion_23 ?_
    obtain ⟨h8, hf⟩ := gd_T hf
    refine va_iald hx hb hK hP 1 0 rfl rfl h8 dX6_isVersion_24 ?_
    refine lv_iconst (v := 1) hx hb dX6_isVersion_25 (by decide) ?_
    refine lv_icmp_ne (tgt := 33) hx hb dX6_isVersion_26 (by decide) (fun c9 => ?_) (fun c9 => ?_)
    · have hf := ite_F c9 hf
      refine lv_iconst (v := 0) hx hb dX6_isVersion_33 (by decide) ?_
      have hR := Option.some.inj hf
      subst hR
      exact W.zret (v := (0 : Int32)) hx hb hr (by decide) (fun t ht hW => ⟨⟨(0 : Int32), (), rfl, rfl, by rw [ht]; exact hP, va_K.moved hW.alike hK, hD⟩, hS.F ht⟩) hS.2.2 dX6_isVersion_34
    · have hf := ite_T c9 hf
      refine lv_iconst (v := 1) hx hb dX6_isVersion_29 (by decide) ?_
      refine lv_goto (tgt := 34) hx hb dX6_isVersion_30 (by decide) ?_
      have hR := Option.some.inj hf
      subst hR
      exact W.zret (v := (1 : Int32)) hx hb hr (by decide) (fun t ht hW => ⟨⟨(1 : Int32), (), rfl, rfl, by rw [ht]; exact hP, va_K.moved hW.alike hK, hD⟩, hS.F ht⟩) hS.2.2 dX6_isVersion_34
theorem hs_X6_isVersion : yX6_isVersion.cls = RX6 ∧ yX6_isVersion.cls ≠ "java/lang/invoke/MethodHandle" ∧ yX6_isVersion.cls ≠ "java/lang/invoke/VarHandle" ∧ (parseMethodDescriptor yX6_isVersion.desc).map (fun d => d.parameters.length) = some 1 := by decide +kernel
set_option maxRecDepth 20000 in
theorem in_X6_isOf_X6 : ∀ w ∈ wsX60, w ∈ wsX6_isOf := by decide +kernel
def f_X6_isOf (a1 : Int32) (a2 : Int32) (M_ : tM_) : Option (Int32) :=
match M_ with
| (mg, mkept, mspare, mhasKept, mwas, mwasMany, manew, mthrown, mtext, mlength, mspot, mvalue, merror, mtold, mtolds) =>
gd_ (10 + a1) 610 (
if (mg ((10 + a1).toNatClampNeg)) = 1 then
gd_ (70 + a1) 610 (
if (mg ((70 + a1).toNatClampNeg)) = a2 then
some (1 : Int32)
else
some (0 : Int32))
else
some (0 : Int32))
abbrev rm_X6_isOf : Room := { frames := 0, cells := 0, slots := 0, locals := 0 }
set_option maxHeartbeats 4000000 in
set_option maxRecDepth 100000 in
theorem c_X6_isOf (l : Launch) (dC : Nat → ClassId) (dI : Nat → Nat → Nat) (cI cZ cC cJ cD : ClassId) (m0 m_g m_kept m_spare m_was m_text m_told : Nat) (sz : Nat) (mg : Nat → Int32) (mkept : Nat → Int32) (mspare : Nat → Int32) (mhasKept : Int32) (mwas : Nat → Int32) (mwasMany : Int32) (manew : Int32) (mthrown : Int32) (mtext : Nat → Int32) (mlength : Int32) (mspot : Int32) (mvalue : Int32) (merror : Int32) (mtold : Nat → Int32) (mtolds : Int32) (a1 : Int32) (a2 : Int32) (R : Int32) (hf : f_X6_isOf a1 a2 (mg, mkept, mspare, mhasKept, mwas, mwasMany, manew, mthrown, mtext, mlength, mspot, mvalue, merror, mtold, mtolds) = some R) : Met l yX6_isOf wsX6_isOf rm_X6_isOf (Pc_ (dC, dI) (ty_ cI cZ cC cJ cD) (wM_ m0 m_g m_kept m_spare m_was m_text m_told cI mg mkept mspare mhasKept mwas mwasMany manew mthrown mtext mlength mspot mvalue merror mtold mtolds) sz [.ref m0, .int a1, .int a2]) (Qi_ (dC, dI) (ty_ cI cZ cC cJ cD) R (wM_ m0 m_g m_kept m_spare m_was m_text m_told cI mg mkept mspare mhasKept mwas mwasMany manew mthrown mtext mlength mspot mvalue merror mtold mtolds) (va_A (wM_ m0 m_g m_kept m_spare m_was m_text m_told cI mg mkept mspare mhasKept mwas mwasMany manew mthrown mtext mlength mspot mvalue merror mtold mtolds) sz)) 0 0 (va_A (wM_ m0 m_g m_kept m_spare m_was m_text m_told cI mg mkept mspare mhasKept mwas mwasMany manew mthrown mtext mlength mspot mvalue merror mtold mtolds) sz) := by
  refine met_ (cc := cX6_isOf) (maxL := 3) (ret := (some .boolean)) (Qcf := fun A => Qi_ (dC, dI) (ty_ cI cZ cC cJ cD) R (wM_ m0 m_g m_kept m_spare m_was m_text m_told cI mg mkept mspare mhasKept mwas mwasMany manew mthrown mtext mlength mspot mvalue merror mtold mtolds) A) (by decide) rfl (Nat.le_of_ble_eq_true rfl) ?_
  intro p e s m args below meth c A ls hx hb hr hts hown hlocks hml hA hP hK hD hl
  have hown : s.vm.findClass RX6 = some m.cls := hown
  have hl : lv_has ls 3 [(0, .ref m0), (1, .int a1), (2, .int a2)] := hl
  have hS : va_S A s.heap s.heap [] := va_S.rf
  have fl7_ : (Cond.fieldLink RX6 7 "DimensionLoaderModel" "g" "[I").before args s = true := hts _ (List.mem_of_getElem? (i := 1) rfl)
  have inX6_ : ∀ w ∈ wsX60, w ∈ wsX6_isOf := in_X6_isOf_X6
  unfold f_X6_isOf at hf
  dsimp only at hf
  refine lv_aload_n hx hb dX6_isOf_0 rfl (lv_at hl 0 rfl) ?_
  refine va_get (D := (dC, dI)) (ci := 8) (v := .ref m_g) (C := RX6) (T := TX6) (N := 15) hx hb hts inX6_ hown hK hP 0 rfl rfl 0 (by decide) fl7_ (fun _ h9 => h9) rfl dX6_isOf_1 ?_
  refine lv_bipush (v := 10) hx hb dX6_isOf_4 (by decide) ?_
  refine lv_iload_n hx hb dX6_isOf_6 rfl (lv_at hl 1 rfl) ?_
  refine lv_iadd hx hb dX6_isOf_7 ?_
  obtain ⟨h1, hf⟩ := gd_T hf
  refine va_iald hx hb hK hP 1 0 rfl rfl h1 dX6_isOf_8 ?_
  refine lv_iconst (v := 1) hx hb dX6_isOf_9 (by decide) ?_
  refine lv_icmp_ne (tgt := 30) hx hb dX6_isOf_10 (by decide) (fun c2 => ?_) (fun c2 => ?_)
  · have hf := ite_F c2 hf
    refine lv_iconst (v := 0) hx hb dX6_isOf_30 (by decide) ?_
    have hR := Option.some.inj hf
    subst hR
    exact W.zret (v := (0 : Int32)) hx hb hr (by decide) (fun t ht hW => ⟨⟨(0 : Int32), (), rfl, rfl, by rw [ht]; exact hP, va_K.moved hW.alike hK, hD⟩, hS.F ht⟩) hS.2.2 dX6_isOf_31
  · have hf := ite_T c2 hf
    refine lv_aload_n hx hb dX6_isOf_13 rfl (lv_at hl 0 rfl) ?_
    refine va_get (D := (dC, dI)) (ci := 8) (v := .ref m_g) (C := RX6) (T := TX6) (N := 15) hx hb hts inX6_ hown hK hP 0 rfl rfl 0 (by decide) fl7_ (fun _ h9 => h9) rfl dX6_isOf_14 ?_
    refine lv_bipush (v := 70) hx hb dX6_isOf_17 (by decide) ?_
    refine lv_iload_n hx hb dX6_isOf_19 rfl (lv_at hl 1 rfl) ?_
    refine lv_iadd hx hb dX6_isOf_20 ?_
    obtain ⟨h3, hf⟩ := gd_T hf
    refine va_iald hx hb hK hP 1 0 rfl rfl h3 dX6_isOf_21 ?_
    refine lv_iload_n hx hb dX6_isOf_22 rfl (lv_at hl 2 rfl) ?_
    refine lv_icmp_ne (tgt := 30) hx hb dX6_isOf_23 (by decide) (fun c4 => ?_) (fun c4 => ?_)
    · have hf := ite_F c4 hf
      refine lv_iconst (v := 0) hx hb dX6_isOf_30 (by decide) ?_
      have hR := Option.some.inj hf
      subst hR
      exact W.zret (v := (0 : Int32)) hx hb hr (by decide) (fun t ht hW => ⟨⟨(0 : Int32), (), rfl, rfl, by rw [ht]; exact hP, va_K.moved hW.alike hK, hD⟩, hS.F ht⟩) hS.2.2 dX6_isOf_31
    · have hf := ite_T c4 hf
      refine lv_iconst (v := 1) hx hb dX6_isOf_26 (by decide) ?_
      refine lv_goto (tgt := 31) hx hb dX6_isOf_27 (by decide) ?_
      have hR := Option.some.inj hf
      subst hR
      exact W.zret (v := (1 : Int32)) hx hb hr (by decide) (fun t ht hW => ⟨⟨(1 : Int32), (), rfl, rfl, by rw [ht]; exact hP, va_K.moved hW.alike hK, hD⟩, hS.F ht⟩) hS.2.2 dX6_isOf_31
theorem hs_X6_isOf : yX6_isOf.cls = RX6 ∧ yX6_isOf.cls ≠ "java/lang/invoke/MethodHandle" ∧ yX6_isOf.cls ≠ "java/lang/invoke/VarHandle" ∧ (parseMethodDescriptor yX6_isOf.desc).map (fun d => d.parameters.length) = some 2 := by decide +kernel
set_option maxRecDepth 20000 in
theorem in_X6_valid_X6 : ∀ w ∈ wsX60, w ∈ wsX6_valid := by decide +kernel
def f_X6_valid_S2 (k_ : Int32 → Int32 → Int32 → tM_ → Option (Int32)) (l3 : Int32) (l1 : Int32) (l2 : Int32) (M_ : tM_) : Option (Int32) :=
match M_ with
| (mg, mkept, mspare, mhasKept, mwas, mwasMany, manew, mthrown, mtext, mlength, mspot, mvalue, merror, mtold, mtolds) =>
gd_ (0 : Int32) 610 (
if (mg ((0 : Int32).toNatClampNeg)) ≤ l3 then
some (-1 : Int32)
else
bd_ (f_X6_isOf l3 l1 (mg, mkept, mspare, mhasKept, mwas, mwasMany, manew, mthrown, mtext, mlength, mspot, mvalue, merror, mtold, mtolds)) (fun r4 =>
if r4 = 0 then
k_ (l3 + 1) l1 l2 (mg, mkept, mspare, mhasKept, mwas, mwasMany, manew, mthrown, mtext, mlength, mspot, mvalue, merror, mtold, mtolds)
else
gd_ (130 + l3) 610 (
gd_ (190 + l3) 610 (
bd_ (f_X6_in l2 (mg ((130 + l3).toNatClampNeg)) ((mg ((190 + l3).toNatClampNeg)) - 1)) (fun r12 =>
if r12 = 0 then
k_ (l3 + 1) l1 l2 (mg, mkept, mspare, mhasKept, mwas, mwasMany, manew, mthrown, mtext, mlength, mspot, mvalue, merror, mtold, mtolds)
else
some l3)))))
def f_X6_valid_L2 : Nat → Int32 → Int32 → Int32 → tM_ → Option (Int32)
  | 0 => fun _ _ _ _ => none
  | n + 1 => fun l3 l1 l2 M_ => f_X6_valid_S2 (f_X6_valid_L2 n) l3 l1 l2 M_
def f_X6_valid (a1 : Int32) (a2 : Int32) (M_ : tM_) : Option (Int32) :=
match M_ with
| (mg, mkept, mspare, mhasKept, mwas, mwasMany, manew, mthrown, mtext, mlength, mspot, mvalue, merror, mtold, mtolds) =>
f_X6_valid_L2 fu_ (0 : Int32) a1 a2 (mg, mkept, mspare, mhasKept, mwas, mwasMany, manew, mthrown, mtext, mlength, mspot, mvalue, merror, mtold, mtolds)
abbrev rm_X6_valid : Room := { frames := 1, cells := 0, slots := 0, locals := 22 }
set_option maxHeartbeats 4000000 in
set_option maxRecDepth 100000 in
theorem c_X6_valid (l : Launch) (dC : Nat → ClassId) (dI : Nat → Nat → Nat) (cI cZ cC cJ cD : ClassId) (m0 m_g m_kept m_spare m_was m_text m_told : Nat) (sz : Nat) (mg : Nat → Int32) (mkept : Nat → Int32) (mspare : Nat → Int32) (mhasKept : Int32) (mwas : Nat → Int32) (mwasMany : Int32) (manew : Int32) (mthrown : Int32) (mtext : Nat → Int32) (mlength : Int32) (mspot : Int32) (mvalue : Int32) (merror : Int32) (mtold : Nat → Int32) (mtolds : Int32) (a1 : Int32) (a2 : Int32) (R : Int32) (hf : f_X6_valid a1 a2 (mg, mkept, mspare, mhasKept, mwas, mwasMany, manew, mthrown, mtext, mlength, mspot, mvalue, merror, mtold, mtolds) = some R) : Met l yX6_valid wsX6_valid rm_X6_valid (Pc_ (dC, dI) (ty_ cI cZ cC cJ cD) (wM_ m0 m_g m_kept m_spare m_was m_text m_told cI mg mkept mspare mhasKept mwas mwasMany manew mthrown mtext mlength mspot mvalue merror mtold mtolds) sz [.ref m0, .int a1, .int a2]) (Qi_ (dC, dI) (ty_ cI cZ cC cJ cD) R (wM_ m0 m_g m_kept m_spare m_was m_text m_told cI mg mkept mspare mhasKept mwas mwasMany manew mthrown mtext mlength mspot mvalue merror mtold mtolds) (va_A (wM_ m0 m_g m_kept m_spare m_was m_text m_told cI mg mkept mspare mhasKept mwas mwasMany manew mthrown mtext mlength mspot mvalue merror mtold mtolds) sz)) 0 0 (va_A (wM_ m0 m_g m_kept m_spare m_was m_text m_told cI mg mkept mspare mhasKept mwas mwasMany manew mthrown mtext mlength mspot mvalue merror mtold mtolds) sz) := by
  refine met_ (cc := cX6_valid) (maxL := 4) (ret := (some .int)) (Qcf := fun A => Qi_ (dC, dI) (ty_ cI cZ cC cJ cD) R (wM_ m0 m_g m_kept m_spare m_was m_text m_told cI mg mkept mspare mhasKept mwas mwasMany manew mthrown mtext mlength mspot mvalue merror mtold mtolds) A) (by decide) rfl (Nat.le_of_ble_eq_true rfl) ?_
  intro p e s m args below meth c A ls hx hb hr hts hown hlocks hml hA hP hK hD hl
  have hown : s.vm.findClass RX6 = some m.cls := hown
  have hl : lv_has ls 4 [(0, .ref m0), (1, .int a1), (2, .int a2)] := hl
  have hS : va_S A s.heap s.heap [] := va_S.rf
  have fl7_ : (Cond.fieldLink RX6 7 "DimensionLoaderModel" "g" "[I").before args s = true := hts _ (List.mem_of_getElem? (i := 1) rfl)
  have inX6_ : ∀ w ∈ wsX60, w ∈ wsX6_valid := in_X6_valid_X6
  unfold f_X6_valid at hf
  dsimp only at hf
  refine lv_iconst (v := 0) hx hb dX6_valid_0 (by decide) ?_
  refine lv_istore_n (lv' := [(3, .int 0), (0, .ref m0), (1, .int a1), (2, .int a2)]) hx hb dX6_valid_1 rfl hl (by decide) rfl (fun ls hl => ?_)
  have lp2 : ∀ (n : Nat) (l3 : Int32) (l1 : Int32) (l2 : Int32) (mg : Nat → Int32) (mkept : Nat → Int32) (mspare : Nat → Int32) (mhasKept : Int32) (mwas : Nat → Int32) (mwasMany : Int32) (manew : Int32) (mthrown : Int32) (mtext : Nat → Int32) (mlength : Int32) (mspot : Int32) (mvalue : Int32) (merror : Int32) (mtold : Nat → Int32) (mtolds : Int32) (H1 : Heap) (locs : List Loc) (ls : Array Slot), f_X6_valid_L2 n l3 l1 l2 (mg, mkept, mspare, mhasKept, mwas, mwasMany, manew, mthrown, mtext, mlength, mspot, mvalue, merror, mtold, mtolds) = some R → va_P (dC, dI) vwCl (wM_ m0 m_g m_kept m_spare m_was m_text m_told cI mg mkept mspare mhasKept mwas mwasMany manew mthrown mtext mlength mspot mvalue merror mtold mtolds) H1 → va_D A (wM_ m0 m_g m_kept m_spare m_was m_text m_told cI mg mkept mspare mhasKept mwas mwasMany manew mthrown mtext mlength mspot mvalue merror mtold mtolds) → va_S A s.heap H1 locs → lv_has ls 4 [(3, .int l3), (0, .ref m0), (1, .int l1), (2, .int l2)] → W p l e (headSpec wsX6_valid rm_X6_valid).room s m args below meth c H1 locs 0 0 (MQ below (Qi_ (dC, dI) (ty_ cI cZ cC cJ cD) R (wM_ m0 m_g m_kept m_spare m_was m_text m_told cI mg mkept mspare mhasKept mwas mwasMany manew mthrown mtext mlength mspot mvalue merror mtold mtolds) A) args s 0 0 A) (F0 m 2 ls []) := by
    intro n
    induction n with
    | zero => intro l3 l1 l2 mg mkept mspare mhasKept mwas mwasMany manew mthrown mtext mlength mspot mvalue merror mtold mtolds H1 locs ls hf hP hD hS hl; exact absurd hf (by simp [f_X6_valid_L2])
    | succ n ih =>
      intro l3 l1 l2 mg mkept mspare mhasKept mwas mwasMany manew mthrown mtext mlength mspot mvalue merror mtold mtolds H1 locs ls hf hP hD hS hl
      have hf : f_X6_valid_S2 (f_X6_valid_L2 n) l3 l1 l2 (mg, mkept, mspare, mhasKept, mwas, mwasMany, manew, mthrown, mtext, mlength, mspot, mvalue, merror, mtold, mtolds) = some R := hf
      unfold f_X6_valid_S2 at hf
      dsimp only at hf
      refine lv_iload_n hx hb dX6_valid_2 rfl (lv_at hl 0 rfl) ?_
      refine lv_aload_n hx hb dX6_valid_3 rfl (lv_at hl 1 rfl) ?_
      refine va_get (D := (dC, dI)) (ci := 8) (v := .ref m_g) (C := RX6) (T := TX6) (N := 15) hx hb hts inX6_ hown hK hP 0 rfl rfl 0 (by decide) fl7_ (fun _ h9 => h9) rfl dX6_valid_4 ?_
      refine lv_iconst (v := 0) hx hb dX6_valid_7 (by decide) ?_
      obtain ⟨h2, hf⟩ := gd_T hf
      refine va_iald hx hb hK hP 1 0 rfl rfl h2 dX6_valid_8 ?_
      refine lv_icmp_ge (tgt := 58) hx hb dX6_valid_9 (by decide) (fun c3 => ?_) (fun c3 => ?_)
      · have hf := ite_T c3 hf
        refine lv_iconst (v := (-1)) hx hb dX6_valid_58 (by decide) ?_
        have hR := Option.some.inj hf
        subst hR
        exact W.iret (v := (-1 : Int32)) hx hb hr (fun t ht hW => ⟨⟨(-1 : Int32), (), rfl, rfl, by rw [ht]; exact hP, va_K.moved hW.alike hK, hD⟩, hS.F ht⟩) hS.2.2 dX6_valid_59
      · have hf := ite_F c3 hf
        refine lv_aload_n hx hb dX6_valid_12 rfl (lv_at hl 1 rfl) ?_
        refine lv_iload_n hx hb dX6_valid_13 rfl (lv_at hl 0 rfl) ?_
        refine lv_iload_n hx hb dX6_valid_14 rfl (lv_at hl 2 rfl) ?_
        obtain ⟨R5, g6, hf⟩ := bd_B hf
        obtain ⟨r4, rfl⟩ : ∃ z, z = R5 := ⟨_, rfl⟩
        have hPc := hP
        have hDc := hD
        have hFc := va_free (wc := wM_ m0 m_g m_kept m_spare m_was m_text m_told cI mg mkept mspare mhasKept mwas mwasMany manew mthrown mtext mlength mspot mvalue merror mtold mtolds) hD hS hA [0, 1, 2, 3, 4, 5, 6] rfl
        refine va_calli (va_runV (As := [.int l3, .int l1]) (rest := []) ⟨hx, hb, hml, hown, hts⟩ (c_X6_isOf l dC dI cI cZ cC cJ cD m0 m_g m_kept m_spare m_was m_text m_told H1.size mg mkept mspare mhasKept mwas mwasMany manew mthrown mtext mlength mspot mvalue merror mtold mtolds l3 l1 r4 g6) (cwV 2 hts gX6_valid_X6_isOf rfl rfl rfl hs_X6_isOf ⟨Nat.le_of_ble_eq_true rfl, Nat.le_of_ble_eq_true rfl⟩) (preV_ (ci := 8) (q0 := 0) hPc hK hDc rfl rfl rfl rfl) rfl rfl hl.1 rfl (lv_room (Nat.le_of_ble_eq_true rfl)) dX6_valid_15 ⟨Nat.le_of_ble_eq_true rfl, Nat.le_of_ble_eq_true rfl⟩) hS (fun q _ h => hFc q h) hFc (fun z8 u t H7 locs ht hvm hw hB hz1 hk1 hS => ?_)
        have hw : r4 = z8 := hw.symm
        subst hw
        obtain ⟨hP, hD⟩ := aft_ (Wr := []) (Wc' := wM_ m0 m_g m_kept m_spare m_was m_text m_told cI mg mkept mspare mhasKept mwas mwasMany manew mthrown mtext mlength mspot mvalue merror mtold mtolds) (W2 := wM_ m0 m_g m_kept m_spare m_was m_text m_told cI mg mkept mspare mhasKept mwas mwasMany manew mthrown mtext mlength mspot mvalue merror mtold mtolds) hP hD [0, 1, 2, 3, 4, 5, 6] [] [0, 1, 2, 3, 4, 5, 6] rfl rfl (by decide) (by decide) (by decide) hk1 hFc hB ht rfl
        refine lv_if_eq (tgt := 52) hx hb dX6_valid_18 (by decide) (fun c9 => ?_) (fun c9 => ?_)
        · have hf := ite_T c9 hf
          refine lv_iinc (v := l3 + 1) (lv' := [(3, .int (l3 + 1)), (0, .ref m0), (1, .int l1), (2, .int l2)]) hx hb dX6_valid_52 hl (k := 0) rfl (by first | rfl | decide) (by decide) rfl (fun ls hl => ?_)
          refine lv_goto (tgt := 2) hx hb dX6_valid_55 (by decide) ?_
          exact ih (l3 + 1) l1 l2 mg mkept mspare mhasKept mwas mwasMany manew mthrown mtext mlength mspot mvalue merror mtold mtolds _ _ _ hf hP hD hS (lv_sub hl [0, 1, 2, 3] rfl)
        · have hf := ite_F c9 hf
          refine lv_iload_n hx hb dX6_valid_21 rfl (lv_at hl 3 rfl) ?_
          refine lv_aload_n hx hb dX6_valid_22 rfl (lv_at hl 1 rfl) ?_
          refine va_get (D := (dC, dI)) (ci := 8) (v := .ref m_g) (C := RX6) (T := TX6) (N := 15) hx hb hts inX6_ hown hK hP 0 rfl rfl 0 (by decide) fl7_ (fun _ h9 => h9) rfl dX6_valid_23 ?_
          refine lv_sipush (v := 130) hx hb dX6_valid_26 (by decide) ?_
          refine lv_iload_n hx hb dX6_valid_29 rfl (lv_at hl 0 rfl) ?_
          refine lv_iadd hx hb dX6_valid_30 ?_
          obtain ⟨h10, hf⟩ := gd_T hf
          refine va_iald hx hb hK hP 1 0 rfl rfl h10 dX6_valid_31 ?_
          refine lv_aload_n hx hb dX6_valid_32 rfl (lv_at hl 1 rfl) ?_
          refine va_get (D := (dC, dI)) (ci := 8) (v := .ref m_g) (C := RX6) (T := TX6) (N := 15) hx hb hts inX6_ hown hK hP 0 rfl rfl 0 (by decide) fl7_ (fun _ h9 => h9) rfl dX6_valid_33 ?_
          refine lv_sipush (v := 190) hx hb dX6_valid_36 (by decide) ?_
          refine lv_iload_n hx hb dX6_valid_39 rfl (lv_at hl 0 rfl) ?_
          refine lv_iadd hx hb dX6_valid_40 ?_
          obtain ⟨h11, hf⟩ := gd_T hf
          refine va_iald hx hb hK hP 1 0 rfl rfl h11 dX6_valid_41 ?_
          refine lv_iconst (v := 1) hx hb dX6_valid_42 (by decide) ?_
          refine lv_isub hx hb dX6_valid_43 ?_
          obtain ⟨R13, g14, hf⟩ := bd_B hf
          obtain ⟨r12, rfl⟩ : ∃ z, z = R13 := ⟨_, rfl⟩
          have hPc := hP.sub (ws' := []) [] rfl
          have hDc := hD.sub (ws' := []) [] (by decide) rfl
          have hFc := va_free (wc := []) hD hS hA [] rfl
          refine va_calli (va_runS (As := [.int l2, .int (mg ((130 + l3).toNatClampNeg)), .int ((mg ((190 + l3).toNatClampNeg)) - 1)]) (rest := []) ⟨hx, hb, hml, hown, hts⟩ (c_X6_in l dC dI cI cZ cC cJ cD H7.size l2 (mg ((130 + l3).toNatClampNeg)) ((mg ((190 + l3).toNatClampNeg)) - 1) r12 g14) (cwS 3 hts gX6_valid_X6_in rfl rfl rfl hs_X6_in ⟨Nat.le_of_ble_eq_true rfl, Nat.le_of_ble_eq_true rfl⟩) (preS_ hPc hK hDc rfl) rfl rfl hl.1 rfl (lv_room (Nat.le_of_ble_eq_true rfl)) dX6_valid_44 ⟨Nat.le_of_ble_eq_true rfl, Nat.le_of_ble_eq_true rfl⟩) hS (fun q _ h => hFc q h) hFc (fun z16 u t H15 locs ht hvm hw hB hz1 hk1 hS => ?_)
          have hw : r12 = z16 := hw.symm
          subst hw
          obtain ⟨hP, hD⟩ := aft_ (Wr := wM_ m0 m_g m_kept m_spare m_was m_text m_told cI mg mkept mspare mhasKept mwas mwasMany manew mthrown mtext mlength mspot mvalue merror mtold mtolds) (Wc' := []) (W2 := wM_ m0 m_g m_kept m_spare m_was m_text m_told cI mg mkept mspare mhasKept mwas mwasMany manew mthrown mtext mlength mspot mvalue merror mtold mtolds) hP hD [] [0, 1, 2, 3, 4, 5, 6] [0, 1, 2, 3, 4, 5, 6] rfl rfl (by decide) (by decide) (by decide) hk1 hFc hB ht rfl
          refine lv_if_eq (tgt := 52) hx hb dX6_valid_47 (by decide) (fun c17 => ?_) (fun c17 => ?_)
          · have hf := ite_T c17 hf
            refine lv_iinc (v := l3 + 1) (lv' := [(3, .int (l3 + 1)), (0, .ref m0), (1, .int l1), (2, .int l2)]) hx hb dX6_valid_52 hl (k := 0) rfl (by first | rfl | decide) (by decide) rfl (fun ls hl => ?_)
            refine lv_goto (tgt := 2) hx hb dX6_valid_55 (by decide) ?_
            exact ih (l3 + 1) l1 l2 mg mkept mspare mhasKept mwas mwasMany manew mthrown mtext mlength mspot mvalue merror mtold mtolds _ _ _ hf hP hD hS (lv_sub hl [0, 1, 2, 3] rfl)
          · have hf := ite_F c17 hf
            refine lv_iload_n hx hb dX6_valid_50 rfl (lv_at hl 0 rfl) ?_
            have hR := Option.some.inj hf
            subst hR
            exact W.iret (v := l3) hx hb hr (fun t ht hW => ⟨⟨l3, (), rfl, rfl, by rw [ht]; exact hP, va_K.moved hW.alike hK, hD⟩, hS.F ht⟩) hS.2.2 dX6_valid_51
  exact lp2 fu_ (0 : Int32) a1 a2 mg mkept mspare mhasKept mwas mwasMany manew mthrown mtext mlength mspot mvalue merror mtold mtolds _ _ _ hf hP hD hS hl
theorem hs_X6_valid : yX6_valid.cls = RX6 ∧ yX6_valid.cls ≠ "java/lang/invoke/MethodHandle" ∧ yX6_valid.cls ≠ "java/lang/invoke/VarHandle" ∧ (parseMethodDescriptor yX6_valid.desc).map (fun d => d.parameters.length) = some 2 := by decide +kernel
set_option maxRecDepth 20000 in
theorem in_X6_following_X6 : ∀ w ∈ wsX60, w ∈ wsX6_following := by decide +kernel
def f_X6_following_S5 (k_ : Int32 → Int32 → Int32 → Int32 → tM_ → Option (Int32)) (l4 : Int32) (l3 : Int32) (l1 : Int32) (l2 : Int32) (M_ : tM_) : Option (Int32) :=
match M_ with
| (mg, mkept, mspare, mhasKept, mwas, mwasMany, manew, mthrown, mtext, mlength, mspot, mvalue, merror, mtold, mtolds) =>
gd_ (0 : Int32) 610 (
if (mg ((0 : Int32).toNatClampNeg)) ≤ l4 then
some l3
else
bd_ (f_X6_isOf l4 l1 (mg, mkept, mspare, mhasKept, mwas, mwasMany, manew, mthrown, mtext, mlength, mspot, mvalue, merror, mtold, mtolds)) (fun r4 =>
if r4 = 0 then
k_ (l4 + 1) l3 l1 l2 (mg, mkept, mspare, mhasKept, mwas, mwasMany, manew, mthrown, mtext, mlength, mspot, mvalue, merror, mtold, mtolds)
else
gd_ (130 + l4) 610 (
if (mg ((130 + l4).toNatClampNeg)) ≤ l2 then
k_ (l4 + 1) l3 l1 l2 (mg, mkept, mspare, mhasKept, mwas, mwasMany, manew, mthrown, mtext, mlength, mspot, mvalue, merror, mtold, mtolds)
else
if l3 < 0 then
k_ (l4 + 1) l4 l1 l2 (mg, mkept, mspare, mhasKept, mwas, mwasMany, manew, mthrown, mtext, mlength, mspot, mvalue, merror, mtold, mtolds)
else
gd_ (130 + l4) 610 (
gd_ (130 + l3) 610 (
if (mg ((130 + l3).toNatClampNeg)) ≤ (mg ((130 + l4).toNatClampNeg)) then
k_ (l4 + 1) l3 l1 l2 (mg, mkept, mspare, mhasKept, mwas, mwasMany, manew, mthrown, mtext, mlength, mspot, mvalue, merror, mtold, mtolds)
else
k_ (l4 + 1) l4 l1 l2 (mg, mkept, mspare, mhasKept, mwas, mwasMany, manew, mthrown, mtext, mlength, mspot, mvalue, merror, mtold, mtolds))))))
def f_X6_following_L5 : Nat → Int32 → Int32 → Int32 → Int32 → tM_ → Option (Int32)
  | 0 => fun _ _ _ _ _ => none
  | n + 1 => fun l4 l3 l1 l2 M_ => f_X6_following_S5 (f_X6_following_L5 n) l4 l3 l1 l2 M_
def f_X6_following (a1 : Int32) (a2 : Int32) (M_ : tM_) : Option (Int32) :=
match M_ with
| (mg, mkept, mspare, mhasKept, mwas, mwasMany, manew, mthrown, mtext, mlength, mspot, mvalue, merror, mtold, mtolds) =>
f_X6_following_L5 fu_ (0 : Int32) (-1 : Int32) a1 a2 (mg, mkept, mspare, mhasKept, mwas, mwasMany, manew, mthrown, mtext, mlength, mspot, mvalue, merror, mtold, mtolds)
abbrev rm_X6_following : Room := { frames := 1, cells := 0, slots := 0, locals := 22 }
set_option maxHeartbeats 4000000 in
set_option maxRecDepth 100000 in
theorem c_X6_following (l : Launch) (dC : Nat → ClassId) (dI : Nat → Nat → Nat) (cI cZ cC cJ cD : ClassId) (m0 m_g m_kept m_spare m_was m_text m_told : Nat) (sz : Nat) (mg : Nat → Int32) (mkept : Nat → Int32) (mspare : Nat → Int32) (mhasKept : Int32) (mwas : Nat → Int32) (mwasMany : Int32) (manew : Int32) (mthrown : Int32) (mtext : Nat → Int32) (mlength : Int32) (mspot : Int32) (mvalue : Int32) (merror : Int32) (mtold : Nat → Int32) (mtolds : Int32) (a1 : Int32) (a2 : Int32) (R : Int32) (hf : f_X6_following a1 a2 (mg, mkept, mspare, mhasKept, mwas, mwasMany, manew, mthrown, mtext, mlength, mspot, mvalue, merror, mtold, mtolds) = some R) : Met l yX6_following wsX6_following rm_X6_following (Pc_ (dC, dI) (ty_ cI cZ cC cJ cD) (wM_ m0 m_g m_kept m_spare m_was m_text m_told cI mg mkept mspare mhasKept mwas mwasMany manew mthrown mtext mlength mspot mvalue merror mtold mtolds) sz [.ref m0, .int a1, .int a2]) (Qi_ (dC, dI) (ty_ cI cZ cC cJ cD) R (wM_ m0 m_g m_kept m_spare m_was m_text m_told cI mg mkept mspare mhasKept mwas mwasMany manew mthrown mtext mlength mspot mvalue merror mtold mtolds) (va_A (wM_ m0 m_g m_kept m_spare m_was m_text m_told cI mg mkept mspare mhasKept mwas mwasMany manew mthrown mtext mlength mspot mvalue merror mtold mtolds) sz)) 0 0 (va_A (wM_ m0 m_g m_kept m_spare m_was m_text m_told cI mg mkept mspare mhasKept mwas mwasMany manew mthrown mtext mlength mspot mvalue merror mtold mtolds) sz) := by
  refine met_ (cc := cX6_following) (maxL := 5) (ret := (some .int)) (Qcf := fun A => Qi_ (dC, dI) (ty_ cI cZ cC cJ cD) R (wM_ m0 m_g m_kept m_spare m_was m_text m_told cI mg mkept mspare mhasKept mwas mwasMany manew mthrown mtext mlength mspot mvalue merror mtold mtolds) A) (by decide) rfl (Nat.le_of_ble_eq_true rfl) ?_
  intro p e s m args below meth c A ls hx hb hr hts hown hlocks hml hA hP hK hD hl
  have hown : s.vm.findClass RX6 = some m.cls := hown
  have hl : lv_has ls 5 [(0, .ref m0), (1, .int a1), (2, .int a2)] := hl
  have hS : va_S A s.heap s.heap [] := va_S.rf
  have fl7_ : (Cond.fieldLink RX6 7 "DimensionLoaderModel" "g" "[I").before args s = true := hts _ (List.mem_of_getElem? (i := 1) rfl)
  have inX6_ : ∀ w ∈ wsX60, w ∈ wsX6_following := in_X6_following_X6
  unfold f_X6_following at hf
  dsimp only at hf
  refine lv_iconst (v := (-1)) hx hb dX6_following_0 (by decide) ?_
  refine lv_istore_n (lv' := [(3, .int (-1)), (0, .ref m0), (1, .int a1), (2, .int a2)]) hx hb dX6_following_1 rfl hl (by decide) rfl (fun ls hl => ?_)
  refine lv_iconst (v := 0) hx hb dX6_following_2 (by decide) ?_
  refine lv_istore (lv' := [(4, .int 0), (3, .int (-1)), (0, .ref m0), (1, .int a1), (2, .int a2)]) hx hb dX6_following_3 hl (by decide) rfl (fun ls hl => ?_)
  have lp5 : ∀ (n : Nat) (l4 : Int32) (l3 : Int32) (l1 : Int32) (l2 : Int32) (mg : Nat → Int32) (mkept : Nat → Int32) (mspare : Nat → Int32) (mhasKept : Int32) (mwas : Nat → Int32) (mwasMany : Int32) (manew : Int32) (mthrown : Int32) (mtext : Nat → Int32) (mlength : Int32) (mspot : Int32) (mvalue : Int32) (merror : Int32) (mtold : Nat → Int32) (mtolds : Int32) (H1 : Heap) (locs : List Loc) (ls : Array Slot), f_X6_following_L5 n l4 l3 l1 l2 (mg, mkept, mspare, mhasKept, mwas, mwasMany, manew, mthrown, mtext, mlength, mspot, mvalue, merror, mtold, mtolds) = some R → va_P (dC, dI) vwCl (wM_ m0 m_g m_kept m_spare m_was m_text m_told cI mg mkept mspare mhasKept mwas mwasMany manew mthrown mtext mlength mspot mvalue merror mtold mtolds) H1 → va_D A (wM_ m0 m_g m_kept m_spare m_was m_text m_told cI mg mkept mspare mhasKept mwas mwasMany manew mthrown mtext mlength mspot mvalue merror mtold mtolds) → va_S A s.heap H1 locs → lv_has ls 5 [(4, .int l4), (3, .int l3), (0, .ref m0), (1, .int l1), (2, .int l2)] → W p l e (headSpec wsX6_following rm_X6_following).room s m args below meth c H1 locs 0 0 (MQ below (Qi_ (dC, dI) (ty_ cI cZ cC cJ cD) R (wM_ m0 m_g m_kept m_spare m_was m_text m_told cI mg mkept mspare mhasKept mwas mwasMany manew mthrown mtext mlength mspot mvalue merror mtold mtolds) A) args s 0 0 A) (F0 m 5 ls []) := by
    intro n
    induction n with
    | zero => intro l4 l3 l1 l2 mg mkept mspare mhasKept mwas mwasMany manew mthrown mtext mlength mspot mvalue merror mtold mtolds H1 locs ls hf hP hD hS hl; exact absurd hf (by simp [f_X6_following_L5])
    | succ n ih =>
      intro l4 l3 l1 l2 mg mkept mspare mhasKept mwas mwasMany manew mthrown mtext mlength mspot mvalue merror mtold mtolds H1 locs ls hf hP hD hS hl
      have hf : f_X6_following_S5 (f_X6_following_L5 n) l4 l3 l1 l2 (mg, mkept, mspare, mhasKept, mwas, mwasMany, manew, mthrown, mtext, mlength, mspot, mvalue, merror, mtold, mtolds) = some R := hf
      unfold f_X6_following_S5 at hf
      dsimp only at hf
      refine lv_iload hx hb dX6_following_5 (lv_at hl 0 rfl) ?_
      refine lv_aload_n hx hb dX6_following_7 rfl (lv_at hl 2 rfl) ?_
      refine va_get (D := (dC, dI)) (ci := 8) (v := .ref m_g) (C := RX6) (T := TX6) (N := 15) hx hb hts inX6_ hown hK hP 0 rfl rfl 0 (by decide) fl7_ (fun _ h9 => h9) rfl dX6_following_8 ?_
      refine lv_iconst (v := 0) hx hb dX6_following_11 (by decide) ?_
      obtain ⟨h2, hf⟩ := gd_T hf
      refine va_iald hx hb hK hP 1 0 rfl rfl h2 dX6_following_12 ?_
      refine lv_icmp_ge (tgt := 78) hx hb dX6_following_13 (by decide) (fun c3 => ?_) (fun c3 => ?_)
      · have hf := ite_T c3 hf
        refine lv_iload_n hx hb dX6_following_78 rfl (lv_at hl 1 rfl) ?_
        have hR := Option.some.inj hf
        subst hR
        exact W.iret (v := l3) hx hb hr (fun t ht hW => ⟨⟨l3, (), rfl, rfl, by rw [ht]; exact hP, va_K.moved hW.alike hK, hD⟩, hS.F ht⟩) hS.2.2 dX6_following_79
      · have hf := ite_F c3 hf
        refine lv_aload_n hx hb dX6_following_16 rfl (lv_at hl 2 rfl) ?_
        refine lv_iload hx hb dX6_following_17 (lv_at hl 0 rfl) ?_
        refine lv_iload_n hx hb dX6_following_19 rfl (lv_at hl 3 rfl) ?_
        obtain ⟨R5, g6, hf⟩ := bd_B hf
        obtain ⟨r4, rfl⟩ : ∃ z, z = R5 := ⟨_, rfl⟩
        have hPc := hP
        have hDc := hD
        have hFc := va_free (wc := wM_ m0 m_g m_kept m_spare m_was m_text m_told cI mg mkept mspare mhasKept mwas mwasMany manew mthrown mtext mlength mspot mvalue merror mtold mtolds) hD hS hA [0, 1, 2, 3, 4, 5, 6] rfl
        refine va_calli (va_runV (As := [.int l4, .int l1]) (rest := []) ⟨hx, hb, hml, hown, hts⟩ (c_X6_isOf l dC dI cI cZ cC cJ cD m0 m_g m_kept m_spare m_was m_text m_told H1.size mg mkept mspare mhasKept mwas mwasMany manew mthrown mtext mlength mspot mvalue merror mtold mtolds l4 l1 r4 g6) (cwV 2 hts gX6_following_X6_isOf rfl rfl rfl hs_X6_isOf ⟨Nat.le_of_ble_eq_true rfl, Nat.le_of_ble_eq_true rfl⟩) (preV_ (ci := 8) (q0 := 0) hPc hK hDc rfl rfl rfl rfl) rfl rfl hl.1 rfl (lv_room (Nat.le_of_ble_eq_true rfl)) dX6_following_20 ⟨Nat.le_of_ble_eq_true rfl, Nat.le_of_ble_eq_true rfl⟩) hS (fun q _ h => hFc q h) hFc (fun z8 u t H7 locs ht hvm hw hB hz1 hk1 hS => ?_)
        have hw : r4 = z8 := hw.symm
        subst hw
        obtain ⟨hP, hD⟩ := aft_ (Wr := []) (Wc' := wM_ m0 m_g m_kept m_spare m_was m_text m_told cI mg mkept mspare mhasKept mwas mwasMany manew mthrown mtext mlength mspot mvalue merror mtold mtolds) (W2 := wM_ m0 m_g m_kept m_spare m_was m_text m_told cI mg mkept mspare mhasKept mwas mwasMany manew mthrown mtext mlength mspot mvalue merror mtold mtolds) hP hD [0, 1, 2, 3, 4, 5, 6] [] [0, 1, 2, 3, 4, 5, 6] rfl rfl (by decide) (by decide) (by decide) hk1 hFc hB ht rfl
        refine lv_if_eq (tgt := 72) hx hb dX6_following_23 (by decide) (fun c9 => ?_) (fun c9 => ?_)
        · have hf := ite_T c9 hf
          refine lv_iinc (v := l4 + 1) (lv' := [(4, .int (l4 + 1)), (3, .int l3), (0, .ref m0), (1, .int l1), (2, .int l2)]) hx hb dX6_following_72 hl (k := 0) rfl (by first | rfl | decide) (by decide) rfl (fun ls hl => ?_)
          refine lv_goto (tgt := 5) hx hb dX6_following_75 (by decide) ?_
          exact ih (l4 + 1) l3 l1 l2 mg mkept mspare mhasKept mwas mwasMany manew mthrown mtext mlength mspot mvalue merror mtold mtolds _ _ _ hf hP hD hS (lv_sub hl [0, 1, 2, 3, 4] rfl)
        · have hf := ite_F c9 hf
          refine lv_aload_n hx hb dX6_following_26 rfl (lv_at hl 2 rfl) ?_
          refine va_get (D := (dC, dI)) (ci := 8) (v := .ref m_g) (C := RX6) (T := TX6) (N := 15) hx hb hts inX6_ hown hK hP 0 rfl rfl 0 (by decide) fl7_ (fun _ h9 => h9) rfl dX6_following_27 ?_
          refine lv_sipush (v := 130) hx hb dX6_following_30 (by decide) ?_
          refine lv_iload hx hb dX6_following_33 (lv_at hl 0 rfl) ?_
          refine lv_iadd hx hb dX6_following_35 ?_
          obtain ⟨h10, hf⟩ := gd_T hf
          refine va_iald hx hb hK hP 1 0 rfl rfl h10 dX6_following_36 ?_
          refine lv_iload_n hx hb dX6_following_37 rfl (lv_at hl 4 rfl) ?_
          refine lv_icmp_le (tgt := 72) hx hb dX6_following_38 (by decide) (fun c11 => ?_) (fun c11 => ?_)
          · have hf := ite_T c11 hf
            refine lv_iinc (v := l4 + 1) (lv' := [(4, .int (l4 + 1)), (3, .int l3), (0, .ref m0), (1, .int l1), (2, .int l2)]) hx hb dX6_following_72 hl (k := 0) rfl (by first | rfl | decide) (by decide) rfl (fun ls hl => ?_)
            refine lv_goto (tgt := 5) hx hb dX6_following_75 (by decide) ?_
            exact ih (l4 + 1) l3 l1 l2 mg mkept mspare mhasKept mwas mwasMany manew mthrown mtext mlength mspot mvalue merror mtold mtolds _ _ _ hf hP hD hS (lv_sub hl [0, 1, 2, 3, 4] rfl)
          · have hf := ite_F c11 hf
            refine lv_iload_n hx hb dX6_following_41 rfl (lv_at hl 1 rfl) ?_
            refine lv_if_lt (tgt := 69) hx hb dX6_following_42 (by decide) (fun c12 => ?_) (fun c12 => ?_)
            · have hf := ite_T c12 hf
              refine lv_iload hx hb dX6_following_69 (lv_at hl 0 rfl) ?_
              refine lv_istore_n (lv' := [(3, .int l4), (4, .int l4), (0, .ref m0), (1, .int l1), (2, .int l2)]) hx hb dX6_following_71 rfl hl (by decide) rfl (fun ls hl => ?_)
              refine lv_iinc (v := l4 + 1) (lv' := [(4, .int (l4 + 1)), (3, .int l4), (0, .ref m0), (1, .int l1), (2, .int l2)]) hx hb dX6_following_72 hl (k := 1) rfl (by first | rfl | decide) (by decide) rfl (fun ls hl => ?_)
              refine lv_goto (tgt := 5) hx hb dX6_following_75 (by decide) ?_
              exact ih (l4 + 1) l4 l1 l2 mg mkept mspare mhasKept mwas mwasMany manew mthrown mtext mlength mspot mvalue merror mtold mtolds _ _ _ hf hP hD hS (lv_sub hl [0, 1, 2, 3, 4] rfl)
            · have hf := ite_F c12 hf
              refine lv_aload_n hx hb dX6_following_45 rfl (lv_at hl 2 rfl) ?_
              refine va_get (D := (dC, dI)) (ci := 8) (v := .ref m_g) (C := RX6) (T := TX6) (N := 15) hx hb hts inX6_ hown hK hP 0 rfl rfl 0 (by decide) fl7_ (fun _ h9 => h9) rfl dX6_following_46 ?_
              refine lv_sipush (v := 130) hx hb dX6_following_49 (by decide) ?_
              refine lv_iload hx hb dX6_following_52 (lv_at hl 0 rfl) ?_
              refine lv_iadd hx hb dX6_following_54 ?_
              obtain ⟨h13, hf⟩ := gd_T hf
              refine va_iald hx hb hK hP 1 0 rfl rfl h13 dX6_following_55 ?_
              refine lv_aload_n hx hb dX6_following_56 rfl (lv_at hl 2 rfl) ?_
              refine va_get (D := (dC, dI)) (ci := 8) (v := .ref m_g) (C := RX6) (T := TX6) (N := 15) hx hb hts inX6_ hown hK hP 0 rfl rfl 0 (by decide) fl7_ (fun _ h9 => h9) rfl dX6_following_57 ?_
              refine lv_sipush (v := 130) hx hb dX6_following_60 (by decide) ?_
              refine lv_iload_n hx hb dX6_following_63 rfl (lv_at hl 1 rfl) ?_
              refine lv_iadd hx hb dX6_following_64 ?_
              obtain ⟨h14, hf⟩ := gd_T hf
              refine va_iald hx hb hK hP 1 0 rfl rfl h14 dX6_following_65 ?_
              refine lv_icmp_ge (tgt := 72) hx hb dX6_following_66 (by decide) (fun c15 => ?_) (fun c15 => ?_)
              · have hf := ite_T c15 hf
                refine lv_iinc (v := l4 + 1) (lv' := [(4, .int (l4 + 1)), (3, .int l3), (0, .ref m0), (1, .int l1), (2, .int l2)]) hx hb dX6_following_72 hl (k := 0) rfl (by first | rfl | decide) (by decide) rfl (fun ls hl => ?_)
                refine lv_goto (tgt := 5) hx hb dX6_following_75 (by decide) ?_
                exact ih (l4 + 1) l3 l1 l2 mg mkept mspare mhasKept mwas mwasMany manew mthrown mtext mlength mspot mvalue merror mtold mtolds _ _ _ hf hP hD hS (lv_sub hl [0, 1, 2, 3, 4] rfl)
              · have hf := ite_F c15 hf
                refine lv_iload hx hb dX6_following_69 (lv_at hl 0 rfl) ?_
                refine lv_istore_n (lv' := [(3, .int l4), (4, .int l4), (0, .ref m0), (1, .int l1), (2, .int l2)]) hx hb dX6_following_71 rfl hl (by decide) rfl (fun ls hl => ?_)
                refine lv_iinc (v := l4 + 1) (lv' := [(4, .int (l4 + 1)), (3, .int l4), (0, .ref m0), (1, .int l1), (2, .int l2)]) hx hb dX6_following_72 hl (k := 1) rfl (by first | rfl | decide) (by decide) rfl (fun ls hl => ?_)
                refine lv_goto (tgt := 5) hx hb dX6_following_75 (by decide) ?_
                exact ih (l4 + 1) l4 l1 l2 mg mkept mspare mhasKept mwas mwasMany manew mthrown mtext mlength mspot mvalue merror mtold mtolds _ _ _ hf hP hD hS (lv_sub hl [0, 1, 2, 3, 4] rfl)
  exact lp5 fu_ (0 : Int32) (-1 : Int32) a1 a2 mg mkept mspare mhasKept mwas mwasMany manew mthrown mtext mlength mspot mvalue merror mtold mtolds _ _ _ hf hP hD hS hl
theorem hs_X6_following : yX6_following.cls = RX6 ∧ yX6_following.cls ≠ "java/lang/invoke/MethodHandle" ∧ yX6_following.cls ≠ "java/lang/invoke/VarHandle" ∧ (parseMethodDescriptor yX6_following.desc).map (fun d => d.parameters.length) = some 2 := by decide +kernel
set_option maxRecDepth 20000 in
theorem in_X6_makes_X6 : ∀ w ∈ wsX60, w ∈ wsX6_makes := by decide +kernel
def f_X6_makes (a1 : Int32) (a2 : Int32) (a3 : Int32) (a4 : Int32) (a5 : Int32) (M_ : tM_) : Option (Int32 × tM_) :=
match M_ with
| (mg, mkept, mspare, mhasKept, mwas, mwasMany, manew, mthrown, mtext, mlength, mspot, mvalue, merror, mtold, mtolds) =>
gd_ (0 : Int32) 610 (
gd_ (0 : Int32) 610 (
gd_ (0 : Int32) 610 (nm_ (upd mg ((0 : Int32).toNatClampNeg) ((mg ((0 : Int32).toNatClampNeg)) + 1)) (fun u5 =>
gd_ (10 + (mg ((0 : Int32).toNatClampNeg))) 610 (nm_ (upd u5 ((10 + (mg ((0 : Int32).toNatClampNeg))).toNatClampNeg) (1 : Int32)) (fun u9 =>
gd_ (70 + (mg ((0 : Int32).toNatClampNeg))) 610 (nm_ (upd u9 ((70 + (mg ((0 : Int32).toNatClampNeg))).toNatClampNeg) a1) (fun u13 =>
gd_ (130 + (mg ((0 : Int32).toNatClampNeg))) 610 (nm_ (upd u13 ((130 + (mg ((0 : Int32).toNatClampNeg))).toNatClampNeg) a2) (fun u17 =>
gd_ (190 + (mg ((0 : Int32).toNatClampNeg))) 610 (nm_ (upd u17 ((190 + (mg ((0 : Int32).toNatClampNeg))).toNatClampNeg) a3) (fun u21 =>
gd_ (250 + (mg ((0 : Int32).toNatClampNeg))) 610 (nm_ (upd u21 ((250 + (mg ((0 : Int32).toNatClampNeg))).toNatClampNeg) a4) (fun u25 =>
if a5 = 0 then
gd_ (310 + (mg ((0 : Int32).toNatClampNeg))) 610 (nm_ (upd u25 ((310 + (mg ((0 : Int32).toNatClampNeg))).toNatClampNeg) (0 : Int32)) (fun u30 =>
some (mg ((0 : Int32).toNatClampNeg), (u30, mkept, mspare, mhasKept, mwas, mwasMany, manew, mthrown, mtext, mlength, mspot, mvalue, merror, mtold, mtolds))))
else
gd_ (310 + (mg ((0 : Int32).toNatClampNeg))) 610 (nm_ (upd u25 ((310 + (mg ((0 : Int32).toNatClampNeg))).toNatClampNeg) (1 : Int32)) (fun u34 =>
some (mg ((0 : Int32).toNatClampNeg), (u34, mkept, mspare, mhasKept, mwas, mwasMany, manew, mthrown, mtext, mlength, mspot, mvalue, merror, mtold, mtolds))))))))))))))))))
abbrev rm_X6_makes : Room := { frames := 0, cells := 0, slots := 0, locals := 0 }
set_option maxHeartbeats 4000000 in
set_option maxRecDepth 100000 in
theorem c_X6_makes (l : Launch) (dC : Nat → ClassId) (dI : Nat → Nat → Nat) (cI cZ cC cJ cD : ClassId) (m0 m_g m_kept m_spare m_was m_text m_told : Nat) (sz : Nat) (mg : Nat → Int32) (mkept : Nat → Int32) (mspare : Nat → Int32) (mhasKept : Int32) (mwas : Nat → Int32) (mwasMany : Int32) (manew : Int32) (mthrown : Int32) (mtext : Nat → Int32) (mlength : Int32) (mspot : Int32) (mvalue : Int32) (merror : Int32) (mtold : Nat → Int32) (mtolds : Int32) (a1 : Int32) (a2 : Int32) (a3 : Int32) (a4 : Int32) (a5 : Int32) (R : Int32 × tM_) (hf : f_X6_makes a1 a2 a3 a4 a5 (mg, mkept, mspare, mhasKept, mwas, mwasMany, manew, mthrown, mtext, mlength, mspot, mvalue, merror, mtold, mtolds) = some R) : Met l yX6_makes wsX6_makes rm_X6_makes (Pc_ (dC, dI) (ty_ cI cZ cC cJ cD) (wM_ m0 m_g m_kept m_spare m_was m_text m_told cI mg mkept mspare mhasKept mwas mwasMany manew mthrown mtext mlength mspot mvalue merror mtold mtolds) sz [.ref m0, .int a1, .int a2, .int a3, .int a4, .int a5]) (Qi_ (dC, dI) (ty_ cI cZ cC cJ cD) R.1 (wM_ m0 m_g m_kept m_spare m_was m_text m_told cI R.2.1 R.2.2.1 R.2.2.2.1 R.2.2.2.2.1 R.2.2.2.2.2.1 R.2.2.2.2.2.2.1 R.2.2.2.2.2.2.2.1 R.2.2.2.2.2.2.2.2.1 R.2.2.2.2.2.2.2.2.2.1 R.2.2.2.2.2.2.2.2.2.2.1 R.2.2.2.2.2.2.2.2.2.2.2.1 R.2.2.2.2.2.2.2.2.2.2.2.2.1 R.2.2.2.2.2.2.2.2.2.2.2.2.2.1 R.2.2.2.2.2.2.2.2.2.2.2.2.2.2.1 R.2.2.2.2.2.2.2.2.2.2.2.2.2.2.2) (va_A (wM_ m0 m_g m_kept m_spare m_was m_text m_told cI mg mkept mspare mhasKept mwas mwasMany manew mthrown mtext mlength mspot mvalue merror mtold mtolds) sz)) 0 0 (va_A (wM_ m0 m_g m_kept m_spare m_was m_text m_told cI mg mkept mspare mhasKept mwas mwasMany manew mthrown mtext mlength mspot mvalue merror mtold mtolds) sz) := by
  refine met_ (cc := cX6_makes) (maxL := 7) (ret := (some .int)) (Qcf := fun A => Qi_ (dC, dI) (ty_ cI cZ cC cJ cD) R.1 (wM_ m0 m_g m_kept m_spare m_was m_text m_told cI R.2.1 R.2.2.1 R.2.2.2.1 R.2.2.2.2.1 R.2.2.2.2.2.1 R.2.2.2.2.2.2.1 R.2.2.2.2.2.2.2.1 R.2.2.2.2.2.2.2.2.1 R.2.2.2.2.2.2.2.2.2.1 R.2.2.2.2.2.2.2.2.2.2.1 R.2.2.2.2.2.2.2.2.2.2.2.1 R.2.2.2.2.2.2.2.2.2.2.2.2.1 R.2.2.2.2.2.2.2.2.2.2.2.2.2.1 R.2.2.2.2.2.2.2.2.2.2.2.2.2.2.1 R.2.2.2.2.2.2.2.2.2.2.2.2.2.2.2) A) (by decide) rfl (Nat.le_of_ble_eq_true rfl) ?_
  intro p e s m args below meth c A ls hx hb hr hts hown hlocks hml hA hP hK hD hl
  have hown : s.vm.findClass RX6 = some m.cls := hown
  have hl : lv_has ls 7 [(0, .ref m0), (1, .int a1), (2, .int a2), (3, .int a3), (4, .int a4), (5, .int a5)] := hl
  have hS : va_S A s.heap s.heap [] := va_S.rf
  have fl7_ : (Cond.fieldLink RX6 7 "DimensionLoaderModel" "g" "[I").before args s = true := hts _ (List.mem_of_getElem? (i := 1) rfl)
  have inX6_ : ∀ w ∈ wsX60, w ∈ wsX6_makes := in_X6_makes_X6
  unfold f_X6_makes at hf
  dsimp only at hf
  refine lv_aload_n hx hb dX6_makes_0 rfl (lv_at hl 0 rfl) ?_
  refine va_get (D := (dC, dI)) (ci := 8) (v := .ref m_g) (C := RX6) (T := TX6) (N := 15) hx hb hts inX6_ hown hK hP 0 rfl rfl 0 (by decide) fl7_ (fun _ h9 => h9) rfl dX6_makes_1 ?_
  refine lv_iconst (v := 0) hx hb dX6_makes_4 (by decide) ?_
  obtain ⟨h1, hf⟩ := gd_T hf
  refine va_iald hx hb hK hP 1 0 rfl rfl h1 dX6_makes_5 ?_
  refine lv_istore (lv' := [(6, .int (mg ((0 : Int32).toNatClampNeg))), (0, .ref m0), (1, .int a1), (2, .int a2), (3, .int a3), (4, .int a4), (5, .int a5)]) hx hb dX6_makes_6 hl (by decide) rfl (fun ls hl => ?_)
  refine lv_aload_n hx hb dX6_makes_8 rfl (lv_at hl 1 rfl) ?_
  refine va_get (D := (dC, dI)) (ci := 8) (v := .ref m_g) (C := RX6) (T := TX6) (N := 15) hx hb hts inX6_ hown hK hP 0 rfl rfl 0 (by decide) fl7_ (fun _ h9 => h9) rfl dX6_makes_9 ?_
  refine lv_iconst (v := 0) hx hb dX6_makes_12 (by decide) ?_
  refine lv_dup2_11 hx hb dX6_makes_13 rfl rfl ?_
  obtain ⟨h2, hf⟩ := gd_T hf
  refine va_iald hx hb hK hP 1 0 rfl rfl h2 dX6_makes_14 ?_
  refine lv_iconst (v := 1) hx hb dX6_makes_15 (by decide) ?_
  refine lv_iadd hx hb dX6_makes_16 ?_
  obtain ⟨h3, hf⟩ := gd_T hf
  refine va_iast hx hb hK hP hD hS 1 0 rfl rfl h3 dX6_makes_17 (fun H4 locs hP hD hS => ?_)
  have hP : va_P (dC, dI) vwCl (wM_ m0 m_g m_kept m_spare m_was m_text m_told cI (upd mg ((0 : Int32).toNatClampNeg) ((mg ((0 : Int32).toNatClampNeg)) + 1)) mkept mspare mhasKept mwas mwasMany manew mthrown mtext mlength mspot mvalue merror mtold mtolds) H4 := hP
  have hD : va_D A (wM_ m0 m_g m_kept m_spare m_was m_text m_told cI (upd mg ((0 : Int32).toNatClampNeg) ((mg ((0 : Int32).toNatClampNeg)) + 1)) mkept mspare mhasKept mwas mwasMany manew mthrown mtext mlength mspot mvalue merror mtold mtolds) := hD
  obtain ⟨u5, e6, hf⟩ := nm_T hf
  rw [← e6] at hP hD
  refine lv_aload_n hx hb dX6_makes_18 rfl (lv_at hl 1 rfl) ?_
  refine va_get (D := (dC, dI)) (ci := 8) (v := .ref m_g) (C := RX6) (T := TX6) (N := 15) hx hb hts inX6_ hown hK hP 0 rfl rfl 0 (by decide) fl7_ (fun _ h9 => h9) rfl dX6_makes_19 ?_
  refine lv_bipush (v := 10) hx hb dX6_makes_22 (by decide) ?_
  refine lv_iload hx hb dX6_makes_24 (lv_at hl 0 rfl) ?_
  refine lv_iadd hx hb dX6_makes_26 ?_
  refine lv_iconst (v := 1) hx hb dX6_makes_27 (by decide) ?_
  obtain ⟨h7, hf⟩ := gd_T hf
  refine va_iast hx hb hK hP hD hS 1 0 rfl rfl h7 dX6_makes_28 (fun H8 locs hP hD hS => ?_)
  have hP : va_P (dC, dI) vwCl (wM_ m0 m_g m_kept m_spare m_was m_text m_told cI (upd u5 ((10 + (mg ((0 : Int32).toNatClampNeg))).toNatClampNeg) (1 : Int32)) mkept mspare mhasKept mwas mwasMany manew mthrown mtext mlength mspot mvalue merror mtold mtolds) H8 := hP
  have hD : va_D A (wM_ m0 m_g m_kept m_spare m_was m_text m_told cI (upd u5 ((10 + (mg ((0 : Int32).toNatClampNeg))).toNatClampNeg) (1 : Int32)) mkept mspare mhasKept mwas mwasMany manew mthrown mtext mlength mspot mvalue merror mtold mtolds) := hD
  obtain ⟨u9, e10, hf⟩ := nm_T hf
  rw [← e10] at hP hD
  refine lv_aload_n hx hb dX6_makes_29 rfl (lv_at hl 1 rfl) ?_
  refine va_get (D := (dC, dI)) (ci := 8) (v := .ref m_g) (C := RX6) (T := TX6) (N := 15) hx hb hts inX6_ hown hK hP 0 rfl rfl 0 (by decide) fl7_ (fun _ h9 => h9) rfl dX6_makes_30 ?_
  refine lv_bipush (v := 70) hx hb dX6_makes_33 (by decide) ?_
  refine lv_iload hx hb dX6_makes_35 (lv_at hl 0 rfl) ?_
  refine lv_iadd hx hb dX6_makes_37 ?_
  refine lv_iload_n hx hb dX6_makes_38 rfl (lv_at hl 2 rfl) ?_
  obtain ⟨h11, hf⟩ := gd_T hf
  refine va_iast hx hb hK hP hD hS 1 0 rfl rfl h11 dX6_makes_39 (fun H12 locs hP hD hS => ?_)
  have hP : va_P (dC, dI) vwCl (wM_ m0 m_g m_kept m_spare m_was m_text m_told cI (upd u9 ((70 + (mg ((0 : Int32).toNatClampNeg))).toNatClampNeg) a1) mkept mspare mhasKept mwas mwasMany manew mthrown mtext mlength mspot mvalue merror mtold mtolds) H12 := hP
  have hD : va_D A (wM_ m0 m_g m_kept m_spare m_was m_text m_told cI (upd u9 ((70 + (mg ((0 : Int32).toNatClampNeg))).toNatClampNeg) a1) mkept mspare mhasKept mwas mwasMany manew mthrown mtext mlength mspot mvalue merror mtold mtolds) := hD
  obtain ⟨u13, e14, hf⟩ := nm_T hf
  rw [← e14] at hP hD
  refine lv_aload_n hx hb dX6_makes_40 rfl (lv_at hl 1 rfl) ?_
  refine va_get (D := (dC, dI)) (ci := 8) (v := .ref m_g) (C := RX6) (T := TX6) (N := 15) hx hb hts inX6_ hown hK hP 0 rfl rfl 0 (by decide) fl7_ (fun _ h9 => h9) rfl dX6_makes_41 ?_
  refine lv_sipush (v := 130) hx hb dX6_makes_44 (by decide) ?_
  refine lv_iload hx hb dX6_makes_47 (lv_at hl 0 rfl) ?_
  refine lv_iadd hx hb dX6_makes_49 ?_
  refine lv_iload_n hx hb dX6_makes_50 rfl (lv_at hl 3 rfl) ?_
  obtain ⟨h15, hf⟩ := gd_T hf
  refine va_iast hx hb hK hP hD hS 1 0 rfl rfl h15 dX6_makes_51 (fun H16 locs hP hD hS => ?_)
  have hP : va_P (dC, dI) vwCl (wM_ m0 m_g m_kept m_spare m_was m_text m_told cI (upd u13 ((130 + (mg ((0 : Int32).toNatClampNeg))).toNatClampNeg) a2) mkept mspare mhasKept mwas mwasMany manew mthrown mtext mlength mspot mvalue merror mtold mtolds) H16 := hP
  have hD : va_D A (wM_ m0 m_g m_kept m_spare m_was m_text m_told cI (upd u13 ((130 + (mg ((0 : Int32).toNatClampNeg))).toNatClampNeg) a2) mkept mspare mhasKept mwas mwasMany manew mthrown mtext mlength mspot mvalue merror mtold mtolds) := hD
  obtain ⟨u17, e18, hf⟩ := nm_T hf
  rw [← e18] at hP hD
  refine lv_aload_n hx hb dX6_makes_52 rfl (lv_at hl 1 rfl) ?_
  refine va_get (D := (dC, dI)) (ci := 8) (v := .ref m_g) (C := RX6) (T := TX6) (N := 15) hx hb hts inX6_ hown hK hP 0 rfl rfl 0 (by decide) fl7_ (fun _ h9 => h9) rfl dX6_makes_53 ?_
  refine lv_sipush (v := 190) hx hb dX6_makes_56 (by decide) ?_
  refine lv_iload hx hb dX6_makes_59 (lv_at hl 0 rfl) ?_
  refine lv_iadd hx hb dX6_makes_61 ?_
  refine lv_iload_n hx hb dX6_makes_62 rfl (lv_at hl 4 rfl) ?_
  obtain ⟨h19, hf⟩ := gd_T hf
  refine va_iast hx hb hK hP hD hS 1 0 rfl rfl h19 dX6_makes_63 (fun H20 locs hP hD hS => ?_)
  have hP : va_P (dC, dI) vwCl (wM_ m0 m_g m_kept m_spare m_was m_text m_told cI (upd u17 ((190 + (mg ((0 : Int32).toNatClampNeg))).toNatClampNeg) a3) mkept mspare mhasKept mwas mwasMany manew mthrown mtext mlength mspot mvalue merror mtold mtolds) H20 := hP
  have hD : va_D A (wM_ m0 m_g m_kept m_spare m_was m_text m_told cI (upd u17 ((190 + (mg ((0 : Int32).toNatClampNeg))).toNatClampNeg) a3) mkept mspare mhasKept mwas mwasMany manew mthrown mtext mlength mspot mvalue merror mtold mtolds) := hD
  obtain ⟨u21, e22, hf⟩ := nm_T hf
  rw [← e22] at hP hD
  refine lv_aload_n hx hb dX6_makes_64 rfl (lv_at hl 1 rfl) ?_
  refine va_get (D := (dC, dI)) (ci := 8) (v := .ref m_g) (C := RX6) (T := TX6) (N := 15) hx hb hts inX6_ hown hK hP 0 rfl rfl 0 (by decide) fl7_ (fun _ h9 => h9) rfl dX6_makes_65 ?_
  refine lv_sipush (v := 250) hx hb dX6_makes_68 (by decide) ?_
  refine lv_iload hx hb dX6_makes_71 (lv_at hl 0 rfl) ?_
  refine lv_iadd hx hb dX6_makes_73 ?_
  refine lv_iload hx hb dX6_makes_74 (lv_at hl 5 rfl) ?_
  obtain ⟨h23, hf⟩ := gd_T hf
  refine va_iast hx hb hK hP hD hS 1 0 rfl rfl h23 dX6_makes_76 (fun H24 locs hP hD hS => ?_)
  have hP : va_P (dC, dI) vwCl (wM_ m0 m_g m_kept m_spare m_was m_text m_told cI (upd u21 ((250 + (mg ((0 : Int32).toNatClampNeg))).toNatClampNeg) a4) mkept mspare mhasKept mwas mwasMany manew mthrown mtext mlength mspot mvalue merror mtold mtolds) H24 := hP
  have hD : va_D A (wM_ m0 m_g m_kept m_spare m_was m_text m_told cI (upd u21 ((250 + (mg ((0 : Int32).toNatClampNeg))).toNatClampNeg) a4) mkept mspare mhasKept mwas mwasMany manew mthrown mtext mlength mspot mvalue merror mtold mtolds) := hD
  obtain ⟨u25, e26, hf⟩ := nm_T hf
  rw [← e26] at hP hD
  refine lv_aload_n hx hb dX6_makes_77 rfl (lv_at hl 1 rfl) ?_
  refine va_get (D := (dC, dI)) (ci := 8) (v := .ref m_g) (C := RX6) (T := TX6) (N := 15) hx hb hts inX6_ hown hK hP 0 rfl rfl 0 (by decide) fl7_ (fun _ h9 => h9) rfl dX6_makes_78 ?_
  refine lv_sipush (v := 310) hx hb dX6_makes_81 (by decide) ?_
  refine lv_iload hx hb dX6_makes_84 (lv_at hl 0 rfl) ?_
  refine lv_iadd hx hb dX6_makes_86 ?_
  refine lv_iload hx hb dX6_makes_87 (lv_at hl 6 rfl) ?_
  refine lv_if_eq (tgt := 96) hx hb dX6_makes_89 (by decide) (fun c27 => ?_) (fun c27 => ?_)
  · have hf := ite_T c27 hf
    refine lv_iconst (v := 0) hx hb dX6_makes_96 (by decide) ?_
    obtain ⟨h28, hf⟩ := gd_T hf
    refine va_iast hx hb hK hP hD hS 1 0 rfl rfl h28 dX6_makes_97 (fun H29 locs hP hD hS => ?_)
    have hP : va_P (dC, dI) vwCl (wM_ m0 m_g m_kept m_spare m_was m_text m_told cI (upd u25 ((310 + (mg ((0 : Int32).toNatClampNeg))).toNatClampNeg) (0 : Int32)) mkept mspare mhasKept mwas mwasMany manew mthrown mtext mlength mspot mvalue merror mtold mtolds) H29 := hP
    have hD : va_D A (wM_ m0 m_g m_kept m_spare m_was m_text m_told cI (upd u25 ((310 + (mg ((0 : Int32).toNatClampNeg))).toNatClampNeg) (0 : Int32)) mkept mspare mhasKept mwas mwasMany manew mthrown mtext mlength mspot mvalue merror mtold mtolds) := hD
    obtain ⟨u30, e31, hf⟩ := nm_T hf
    rw [← e31] at hP hD
    refine lv_iload hx hb dX6_makes_98 (lv_at hl 0 rfl) ?_
    have hR := Option.some.inj hf
    subst hR
    exact W.iret (v := mg ((0 : Int32).toNatClampNeg)) hx hb hr (fun t ht hW => ⟨⟨mg ((0 : Int32).toNatClampNeg), (), rfl, rfl, by rw [ht]; exact hP, va_K.moved hW.alike hK, hD⟩, hS.F ht⟩) hS.2.2 dX6_makes_100
  · have hf := ite_F c27 hf
    refine lv_iconst (v := 1) hx hb dX6_makes_92 (by decide) ?_
    refine lv_goto (tgt := 97) hx hb dX6_makes_93 (by decide) ?_
    obtain ⟨h32, hf⟩ := gd_T hf
    refine va_iast hx hb hK hP hD hS 1 0 rfl rfl h32 dX6_makes_97 (fun H33 locs hP hD hS => ?_)
    have hP : va_P (dC, dI) vwCl (wM_ m0 m_g m_kept m_spare m_was m_text m_told cI (upd u25 ((310 + (mg ((0 : Int32).toNatClampNeg))).toNatClampNeg) (1 : Int32)) mkept mspare mhasKept mwas mwasMany manew mthrown mtext mlength mspot mvalue merror mtold mtolds) H33 := hP
    have hD : va_D A (wM_ m0 m_g m_kept m_spare m_was m_text m_told cI (upd u25 ((310 + (mg ((0 : Int32).toNatClampNeg))).toNatClampNeg) (1 : Int32)) mkept mspare mhasKept mwas mwasMany manew mthrown mtext mlength mspot mvalue merror mtold mtolds) := hD
    obtain ⟨u34, e35, hf⟩ := nm_T hf
    rw [← e35] at hP hD
    refine lv_iload hx hb dX6_makes_98 (lv_at hl 0 rfl) ?_
    have hR := Option.some.inj hf
    subst hR
    exact W.iret (v := mg ((0 : Int32).toNatClampNeg)) hx hb hr (fun t ht hW => ⟨⟨mg ((0 : Int32).toNatClampNeg), (), rfl, rfl, by rw [ht]; exact hP, va_K.moved hW.alike hK, hD⟩, hS.F ht⟩) hS.2.2 dX6_makes_100
theorem hs_X6_makes : yX6_makes.cls = RX6 ∧ yX6_makes.cls ≠ "java/lang/invoke/MethodHandle" ∧ yX6_makes.cls ≠ "java/lang/invoke/VarHandle" ∧ (parseMethodDescriptor yX6_makes.desc).map (fun d => d.parameters.length) = some 5 := by decide +kernel
set_option maxRecDepth 20000 in
theorem in_X6_becomes_X6 : ∀ w ∈ wsX60, w ∈ wsX6_becomes := by decide +kernel
def f_X6_becomes (a1 : Int32) (a2 : Int32) (M_ : tM_) : Option (tM_) :=
match M_ with
| (mg, mkept, mspare, mhasKept, mwas, mwasMany, manew, mthrown, mtext, mlength, mspot, mvalue, merror, mtold, mtolds) =>
gd_ (250 + a1) 610 (nm_ (upd mg ((250 + a1).toNatClampNeg) a2) (fun u3 =>
gd_ (310 + a1) 610 (nm_ (upd u3 ((310 + a1).toNatClampNeg) (0 : Int32)) (fun u7 =>
some (u7, mkept, mspare, mhasKept, mwas, mwasMany, manew, mthrown, mtext, mlength, mspot, mvalue, merror, mtold, mtolds)))))
abbrev rm_X6_becomes : Room := { frames := 0, cells := 0, slots := 0, locals := 0 }
set_option maxHeartbeats 4000000 in
set_option maxRecDepth 100000 in
theorem c_X6_becomes (l : Launch) (dC : Nat → ClassId) (dI : Nat → Nat → Nat) (cI cZ cC cJ cD : ClassId) (m0 m_g m_kept m_spare m_was m_text m_told : Nat) (sz : Nat) (mg : Nat → Int32) (mkept : Nat → Int32) (mspare : Nat → Int32) (mhasKept : Int32) (mwas : Nat → Int32) (mwasMany : Int32) (manew : Int32) (mthrown : Int32) (mtext : Nat → Int32) (mlength : Int32) (mspot : Int32) (mvalue : Int32) (merror : Int32) (mtold : Nat → Int32) (mtolds : Int32) (a1 : Int32) (a2 : Int32) (R : tM_) (hf : f_X6_becomes a1 a2 (mg, mkept, mspare, mhasKept, mwas, mwasMany, manew, mthrown, mtext, mlength, mspot, mvalue, merror, mtold, mtolds) = some R) : Met l yX6_becomes wsX6_becomes rm_X6_becomes (Pc_ (dC, dI) (ty_ cI cZ cC cJ cD) (wM_ m0 m_g m_kept m_spare m_was m_text m_told cI mg mkept mspare mhasKept mwas mwasMany manew mthrown mtext mlength mspot mvalue merror mtold mtolds) sz [.ref m0, .int a1, .int a2]) (Qv_ (dC, dI) (ty_ cI cZ cC cJ cD) (wM_ m0 m_g m_kept m_spare m_was m_text m_told cI R.1 R.2.1 R.2.2.1 R.2.2.2.1 R.2.2.2.2.1 R.2.2.2.2.2.1 R.2.2.2.2.2.2.1 R.2.2.2.2.2.2.2.1 R.2.2.2.2.2.2.2.2.1 R.2.2.2.2.2.2.2.2.2.1 R.2.2.2.2.2.2.2.2.2.2.1 R.2.2.2.2.2.2.2.2.2.2.2.1 R.2.2.2.2.2.2.2.2.2.2.2.2.1 R.2.2.2.2.2.2.2.2.2.2.2.2.2.1 R.2.2.2.2.2.2.2.2.2.2.2.2.2.2) (va_A (wM_ m0 m_g m_kept m_spare m_was m_text m_told cI mg mkept mspare mhasKept mwas mwasMany manew mthrown mtext mlength mspot mvalue merror mtold mtolds) sz)) 0 0 (va_A (wM_ m0 m_g m_kept m_spare m_was m_text m_told cI mg mkept mspare mhasKept mwas mwasMany manew mthrown mtext mlength mspot mvalue merror mtold mtolds) sz) := by
  refine met_ (cc := cX6_becomes) (maxL := 3) (ret := none) (Qcf := fun A => Qv_ (dC, dI) (ty_ cI cZ cC cJ cD) (wM_ m0 m_g m_kept m_spare m_was m_text m_told cI R.1 R.2.1 R.2.2.1 R.2.2.2.1 R.2.2.2.2.1 R.2.2.2.2.2.1 R.2.2.2.2.2.2.1 R.2.2.2.2.2.2.2.1 R.2.2.2.2.2.2.2.2.1 R.2.2.2.2.2.2.2.2.2.1 R.2.2.2.2.2.2.2.2.2.2.1 R.2.2.2.2.2.2.2.2.2.2.2.1 R.2.2.2.2.2.2.2.2.2.2.2.2.1 R.2.2.2.2.2.2.2.2.2.2.2.2.2.1 R.2.2.2.2.2.2.2.2.2.2.2.2.2.2) A) (by decide) rfl (Nat.le_of_ble_eq_true rfl) ?_
  intro p e s m args below meth c A ls hx hb hr hts hown hlocks hml hA hP hK hD hl
  have hown : s.vm.findClass RX6 = some m.cls := hown
  have hl : lv_has ls 3 [(0, .ref m0), (1, .int a1), (2, .int a2)] := hl
  have hS : va_S A s.heap s.heap [] := va_S.rf
  have fl7_ : (Cond.fieldLink RX6 7 "DimensionLoaderModel" "g" "[I").before args s = true := hts _ (List.mem_of_getElem? (i := 1) rfl)
  have inX6_ : ∀ w ∈ wsX60, w ∈ wsX6_becomes := in_X6_becomes_X6
  unfold f_X6_becomes at hf
  dsimp only at hf
  refine lv_aload_n hx hb dX6_becomes_0 rfl (lv_at hl 0 rfl) ?_
  refine va_get (D := (dC, dI)) (ci := 8) (v := .ref m_g) (C := RX6) (T := TX6) (N := 15) hx hb hts inX6_ hown hK hP 0 rfl rfl 0 (by decide) fl7_ (fun _ h9 => h9) rfl dX6_becomes_1 ?_
  refine lv_sipush (v := 250) hx hb dX6_becomes_4 (by decide) ?_
  refine lv_iload_n hx hb dX6_becomes_7 rfl (lv_at hl 1 rfl) ?_
  refine lv_iadd hx hb dX6_becomes_8 ?_
  refine lv_iload_n hx hb dX6_becomes_9 rfl (lv_at hl 2 rfl) ?_
  obtain ⟨h1, hf⟩ := gd_T hf
  refine va_iast hx hb hK hP hD hS 1 0 rfl rfl h1 dX6_becomes_10 (fun H2 locs hP hD hS => ?_)
  have hP : va_P (dC, dI) vwCl (wM_ m0 m_g m_kept m_spare m_was m_text m_told cI (upd mg ((250 + a1).toNatClampNeg) a2) mkept mspare mhasKept mwas mwasMany manew mthrown mtext mlength mspot mvalue merror mtold mtolds) H2 := hP
  have hD : va_D A (wM_ m0 m_g m_kept m_spare m_was m_text m_told cI (upd mg ((250 + a1).toNatClampNeg) a2) mkept mspare mhasKept mwas mwasMany manew mthrown mtext mlength mspot mvalue merror mtold mtolds) := hD
  obtain ⟨u3, e4, hf⟩ := nm_T hf
  rw [← e4] at hP hD
  refine lv_aload_n hx hb dX6_becomes_11 rfl (lv_at hl 0 rfl) ?_
  refine va_get (D := (dC, dI)) (ci := 8) (v := .ref m_g) (C := RX6) (T := TX6) (N := 15) hx hb hts inX6_ hown hK hP 0 rfl rfl 0 (by decide) fl7_ (fun _ h9 => h9) rfl dX6_becomes_12 ?_
  refine lv_sipush (v := 310) hx hb dX6_becomes_15 (by decide) ?_
  refine lv_iload_n hx hb dX6_becomes_18 rfl (lv_at hl 1 rfl) ?_
  refine lv_iadd hx hb dX6_becomes_19 ?_
  refine lv_iconst (v := 0) hx hb dX6_becomes_20 (by decide) ?_
  obtain ⟨h5, hf⟩ := gd_T hf
  refine va_iast hx hb hK hP hD hS 1 0 rfl rfl h5 dX6_becomes_21 (fun H6 locs hP hD hS => ?_)
  have hP : va_P (dC, dI) vwCl (wM_ m0 m_g m_kept m_spare m_was m_text m_told cI (upd u3 ((310 + a1).toNatClampNeg) (0 : Int32)) mkept mspare mhasKept mwas mwasMany manew mthrown mtext mlength mspot mvalue merror mtold mtolds) H6 := hP
  have hD : va_D A (wM_ m0 m_g m_kept m_spare m_was m_text m_told cI (upd u3 ((310 + a1).toNatClampNeg) (0 : Int32)) mkept mspare mhasKept mwas mwasMany manew mthrown mtext mlength mspot mvalue merror mtold mtolds) := hD
  obtain ⟨u7, e8, hf⟩ := nm_T hf
  rw [← e8] at hP hD
  have hR := Option.some.inj hf
  subst hR
  exact W.vret hx hb hr (fun t ht hW => ⟨⟨(), rfl, trivial, by rw [ht]; exact hP, va_K.moved hW.alike hK, hD⟩, hS.F ht⟩) hS.2.2 dX6_becomes_22
theorem hs_X6_becomes : yX6_becomes.cls = RX6 ∧ yX6_becomes.cls ≠ "java/lang/invoke/MethodHandle" ∧ yX6_becomes.cls ≠ "java/lang/invoke/VarHandle" ∧ (parseMethodDescriptor yX6_becomes.desc).map (fun d => d.parameters.length) = some 2 := by decide +kernel
set_option maxRecDepth 20000 in
theorem in_X6_changes_X6 : ∀ w ∈ wsX60, w ∈ wsX6_changes := by decide +kernel
def f_X6_changes_J203 (l1 : Int32) (l2 : Int32) (l3 : Int32) (l4 : Int32) (l5 : Int32) (l6 : Int32) (M_ : tM_) : Option (Int32 × tM_) :=
match M_ with
| (mg, mkept, mspare, mhasKept, mwas, mwasMany, manew, mthrown, mtext, mlength, mspot, mvalue, merror, mtold, mtolds) =>
bd_ (f_X6_makes l1 l2 l6 l3 (0 : Int32) (mg, mkept, mspare, mhasKept, mwas, mwasMany, manew, mthrown, mtext, mlength, mspot, mvalue, merror, mtold, mtolds)) (fun (r24, (mg25, mk26, ms27, mh28, mw29, mw30, ma31, mt32, mt33, ml34, ms35, mv36, me37, mt38, mt39)) =>
some (r24, (mg25, mk26, ms27, mh28, mw29, mw30, ma31, mt32, mt33, ml34, ms35, mv36, me37, mt38, mt39)))
def f_X6_changes_J184 (l1 : Int32) (l2 : Int32) (l3 : Int32) (l4 : Int32) (l5 : Int32) (k0_ : Int32) (M_ : tM_) : Option (Int32 × tM_) :=
match M_ with
| (mg, mkept, mspare, mhasKept, mwas, mwasMany, manew, mthrown, mtext, mlength, mspot, mvalue, merror, mtold, mtolds) =>
if l4 < 0 then
f_X6_changes_J203 l1 l2 l3 l4 l5 k0_ (mg, mkept, mspare, mhasKept, mwas, mwasMany, manew, mthrown, mtext, mlength, mspot, mvalue, merror, mtold, mtolds)
else
gd_ (190 + l4) 610 (nm_ (upd mg ((190 + l4).toNatClampNeg) l2) (fun u46 =>
f_X6_changes_J203 l1 l2 l3 l4 l5 k0_ (u46, mkept, mspare, mhasKept, mwas, mwasMany, manew, mthrown, mtext, mlength, mspot, mvalue, merror, mtold, mtolds)))
def f_X6_changes_J130 (l1 : Int32) (l2 : Int32) (l3 : Int32) (l4 : Int32) (l5 : Int32) (M_ : tM_) : Option (Int32 × tM_) :=
match M_ with
| (mg, mkept, mspare, mhasKept, mwas, mwasMany, manew, mthrown, mtext, mlength, mspot, mvalue, merror, mtold, mtolds) =>
gd_ (0 : Int32) 610 (
if (mg ((0 : Int32).toNatClampNeg)) = 60 then
some ((-1 : Int32), (mg, mkept, mspare, mhasKept, mwas, mwasMany, manew, mthrown, mtext, mlength, mspot, mvalue, merror, mtold, mtolds))
else
if l4 < 0 then
if l5 < 0 then
f_X6_changes_J184 l1 l2 l3 l4 l5 (1000 : Int32) (mg, mkept, mspare, mhasKept, mwas, mwasMany, manew, mthrown, mtext, mlength, mspot, mvalue, merror, mtold, mtolds)
else
gd_ (130 + l5) 610 (
f_X6_changes_J184 l1 l2 l3 l4 l5 (mg ((130 + l5).toNatClampNeg)) (mg, mkept, mspare, mhasKept, mwas, mwasMany, manew, mthrown, mtext, mlength, mspot, mvalue, merror, mtold, mtolds))
else
gd_ (190 + l4) 610 (
f_X6_changes_J184 l1 l2 l3 l4 l5 (mg ((190 + l4).toNatClampNeg)) (mg, mkept, mspare, mhasKept, mwas, mwasMany, manew, mthrown, mtext, mlength, mspot, mvalue, merror, mtold, mtolds)))
def f_X6_changes_J83 (l1 : Int32) (l2 : Int32) (l3 : Int32) (l4 : Int32) (l5 : Int32) (M_ : tM_) : Option (Int32 × tM_) :=
match M_ with
| (mg, mkept, mspare, mhasKept, mwas, mwasMany, manew, mthrown, mtext, mlength, mspot, mvalue, merror, mtold, mtolds) =>
if 0 ≤ l4 then
f_X6_changes_J130 l1 l2 l3 l4 l5 (mg, mkept, mspare, mhasKept, mwas, mwasMany, manew, mthrown, mtext, mlength, mspot, mvalue, merror, mtold, mtolds)
else
if l5 < 0 then
f_X6_changes_J130 l1 l2 l3 l4 l5 (mg, mkept, mspare, mhasKept, mwas, mwasMany, manew, mthrown, mtext, mlength, mspot, mvalue, merror, mtold, mtolds)
else
gd_ (310 + l5) 610 (
if (mg ((310 + l5).toNatClampNeg)) = 1 then
gd_ (130 + l5) 610 (nm_ (upd mg ((130 + l5).toNatClampNeg) l2) (fun u55 =>
bd_ (f_X6_becomes l5 l3 (u55, mkept, mspare, mhasKept, mwas, mwasMany, manew, mthrown, mtext, mlength, mspot, mvalue, merror, mtold, mtolds)) (fun (mg57, mk58, ms59, mh60, mw61, mw62, ma63, mt64, mt65, ml66, ms67, mv68, me69, mt70, mt71) =>
some (l5, (mg57, mk58, ms59, mh60, mw61, mw62, ma63, mt64, mt65, ml66, ms67, mv68, me69, mt70, mt71)))))
else
f_X6_changes_J130 l1 l2 l3 l4 l5 (mg, mkept, mspare, mhasKept, mwas, mwasMany, manew, mthrown, mtext, mlength, mspot, mvalue, merror, mtold, mtolds))
def f_X6_changes_J46 (l1 : Int32) (l2 : Int32) (l3 : Int32) (l4 : Int32) (l5 : Int32) (M_ : tM_) : Option (Int32 × tM_) :=
match M_ with
| (mg, mkept, mspare, mhasKept, mwas, mwasMany, manew, mthrown, mtext, mlength, mspot, mvalue, merror, mtold, mtolds) =>
if l4 < 0 then
f_X6_changes_J83 l1 l2 l3 l4 l5 (mg, mkept, mspare, mhasKept, mwas, mwasMany, manew, mthrown, mtext, mlength, mspot, mvalue, merror, mtold, mtolds)
else
gd_ (310 + l4) 610 (
if (mg ((310 + l4).toNatClampNeg)) = 0 then
gd_ (250 + l4) 610 (
if (mg ((250 + l4).toNatClampNeg)) = l3 then
some (l4, (mg, mkept, mspare, mhasKept, mwas, mwasMany, manew, mthrown, mtext, mlength, mspot, mvalue, merror, mtold, mtolds))
else
f_X6_changes_J83 l1 l2 l3 l4 l5 (mg, mkept, mspare, mhasKept, mwas, mwasMany, manew, mthrown, mtext, mlength, mspot, mvalue, merror, mtold, mtolds))
else
f_X6_changes_J83 l1 l2 l3 l4 l5 (mg, mkept, mspare, mhasKept, mwas, mwasMany, manew, mthrown, mtext, mlength, mspot, mvalue, merror, mtold, mtolds))
def f_X6_changes (a1 : Int32) (a2 : Int32) (a3 : Int32) (M_ : tM_) : Option (Int32 × tM_) :=
match M_ with
| (mg, mkept, mspare, mhasKept, mwas, mwasMany, manew, mthrown, mtext, mlength, mspot, mvalue, merror, mtold, mtolds) =>
bd_ (f_X6_valid a1 a2 (mg, mkept, mspare, mhasKept, mwas, mwasMany, manew, mthrown, mtext, mlength, mspot, mvalue, merror, mtold, mtolds)) (fun r1 =>
bd_ (f_X6_following a1 a2 (mg, mkept, mspare, mhasKept, mwas, mwasMany, manew, mthrown, mtext, mlength, mspot, mvalue, merror, mtold, mtolds)) (fun r6 =>
if r1 < 0 then
f_X6_changes_J46 a1 a2 a3 r1 r6 (mg, mkept, mspare, mhasKept, mwas, mwasMany, manew, mthrown, mtext, mlength, mspot, mvalue, merror, mtold, mtolds)
else
gd_ (130 + r1) 610 (
if (mg ((130 + r1).toNatClampNeg)) = a2 then
bd_ (f_X6_becomes r1 a3 (mg, mkept, mspare, mhasKept, mwas, mwasMany, manew, mthrown, mtext, mlength, mspot, mvalue, merror, mtold, mtolds)) (fun (mg82, mk83, ms84, mh85, mw86, mw87, ma88, mt89, mt90, ml91, ms92, mv93, me94, mt95, mt96) =>
some (r1, (mg82, mk83, ms84, mh85, mw86, mw87, ma88, mt89, mt90, ml91, ms92, mv93, me94, mt95, mt96)))
else
f_X6_changes_J46 a1 a2 a3 r1 r6 (mg, mkept, mspare, mhasKept, mwas, mwasMany, manew, mthrown, mtext, mlength, mspot, mvalue, merror, mtold, mtolds))))
abbrev rm_X6_changes : Room := { frames := 2, cells := 0, slots := 0, locals := 46 }
set_option maxHeartbeats 4000000 in
set_option maxRecDepth 100000 in
theorem c_X6_changes (l : Launch) (dC : Nat → ClassId) (dI : Nat → Nat → Nat) (cI cZ cC cJ cD : ClassId) (m0 m_g m_kept m_spare m_was m_text m_told : Nat) (sz : Nat) (mg : Nat → Int32) (mkept : Nat → Int32) (mspare : Nat → Int32) (mhasKept : Int32) (mwas : Nat → Int32) (mwasMany : Int32) (manew : Int32) (mthrown : Int32) (mtext : Nat → Int32) (mlength : Int32) (mspot : Int32) (mvalue : Int32) (merror : Int32) (mtold : Nat → Int32) (mtolds : Int32) (a1 : Int32) (a2 : Int32) (a3 : Int32) (R : Int32 × tM_) (hf : f_X6_changes a1 a2 a3 (mg, mkept, mspare, mhasKept, mwas, mwasMany, manew, mthrown, mtext, mlength, mspot, mvalue, merror, mtold, mtolds) = some R) : Met l yX6_changes wsX6_changes rm_X6_changes (Pc_ (dC, dI) (ty_ cI cZ cC cJ cD) (wM_ m0 m_g m_kept m_spare m_was m_text m_told cI mg mkept mspare mhasKept mwas mwasMany manew mthrown mtext mlength mspot mvalue merror mtold mtolds) sz [.ref m0, .int a1, .int a2, .int a3]) (Qi_ (dC, dI) (ty_ cI cZ cC cJ cD) R.1 (wM_ m0 m_g m_kept m_spare m_was m_text m_told cI R.2.1 R.2.2.1 R.2.2.2.1 R.2.2.2.2.1 R.2.2.2.2.2.1 R.2.2.2.2.2.2.1 R.2.2.2.2.2.2.2.1 R.2.2.2.2.2.2.2.2.1 R.2.2.2.2.2.2.2.2.2.1 R.2.2.2.2.2.2.2.2.2.2.1 R.2.2.2.2.2.2.2.2.2.2.2.1 R.2.2.2.2.2.2.2.2.2.2.2.2.1 R.2.2.2.2.2.2.2.2.2.2.2.2.2.1 R.2.2.2.2.2.2.2.2.2.2.2.2.2.2.1 R.2.2.2.2.2.2.2.2.2.2.2.2.2.2.2) (va_A (wM_ m0 m_g m_kept m_spare m_was m_text m_told cI mg mkept mspare mhasKept mwas mwasMany manew mthrown mtext mlength mspot mvalue merror mtold mtolds) sz)) 0 0 (va_A (wM_ m0 m_g m_kept m_spare m_was m_text m_told cI mg mkept mspare mhasKept mwas mwasMany manew mthrown mtext mlength mspot mvalue merror mtold mtolds) sz) := by
  refine met_ (cc := cX6_changes) (maxL := 7) (ret := (some .int)) (Qcf := fun A => Qi_ (dC, dI) (ty_ cI cZ cC cJ cD) R.1 (wM_ m0 m_g m_kept m_spare m_was m_text m_told cI R.2.1 R.2.2.1 R.2.2.2.1 R.2.2.2.2.1 R.2.2.2.2.2.1 R.2.2.2.2.2.2.1 R.2.2.2.2.2.2.2.1 R.2.2.2.2.2.2.2.2.1 R.2.2.2.2.2.2.2.2.2.1 R.2.2.2.2.2.2.2.2.2.2.1 R.2.2.2.2.2.2.2.2.2.2.2.1 R.2.2.2.2.2.2.2.2.2.2.2.2.1 R.2.2.2.2.2.2.2.2.2.2.2.2.2.1 R.2.2.2.2.2.2.2.2.2.2.2.2.2.2.1 R.2.2.2.2.2.2.2.2.2.2.2.2.2.2.2) A) (by decide) rfl (Nat.le_of_ble_eq_true rfl) ?_
  intro p e s m args below meth c A ls hx hb hr hts hown hlocks hml hA hP hK hD hl
  have hown : s.vm.findClass RX6 = some m.cls := hown
  have hl : lv_has ls 7 [(0, .ref m0), (1, .int a1), (2, .int a2), (3, .int a3)] := hl
  have hS : va_S A s.heap s.heap [] := va_S.rf
  have fl7_ : (Cond.fieldLink RX6 7 "DimensionLoaderModel" "g" "[I").before args s = true := hts _ (List.mem_of_getElem? (i := 1) rfl)
  have inX6_ : ∀ w ∈ wsX60, w ∈ wsX6_changes := in_X6_changes_X6
  unfold f_X6_changes at hf
  dsimp only at hf
  have bl203 : ∀ (l1 : Int32) (l2 : Int32) (l3 : Int32) (l4 : Int32) (l5 : Int32) (l6 : Int32) (mg : Nat → Int32) (mkept : Nat → Int32) (mspare : Nat → Int32) (mhasKept : Int32) (mwas : Nat → Int32) (mwasMany : Int32) (manew : Int32) (mthrown : Int32) (mtext : Nat → Int32) (mlength : Int32) (mspot : Int32) (mvalue : Int32) (merror : Int32) (mtold : Nat → Int32) (mtolds : Int32) (H23 : Heap) (locs : List Loc) (ls : Array Slot), f_X6_changes_J203 l1 l2 l3 l4 l5 l6 (mg, mkept, mspare, mhasKept, mwas, mwasMany, manew, mthrown, mtext, mlength, mspot, mvalue, merror, mtold, mtolds) = some R → va_P (dC, dI) vwCl (wM_ m0 m_g m_kept m_spare m_was m_text m_told cI mg mkept mspare mhasKept mwas mwasMany manew mthrown mtext mlength mspot mvalue merror mtold mtolds) H23 → va_D A (wM_ m0 m_g m_kept m_spare m_was m_text m_told cI mg mkept mspare mhasKept mwas mwasMany manew mthrown mtext mlength mspot mvalue merror mtold mtolds) → va_S A s.heap H23 locs → lv_has ls 7 [(0, .ref m0), (1, .int l1), (2, .int l2), (3, .int l3), (4, .int l4), (5, .int l5), (6, .int l6)] → W p l e (headSpec wsX6_changes rm_X6_changes).room s m args below meth c H23 locs 0 0 (MQ below (Qi_ (dC, dI) (ty_ cI cZ cC cJ cD) R.1 (wM_ m0 m_g m_kept m_spare m_was m_text m_told cI R.2.1 R.2.2.1 R.2.2.2.1 R.2.2.2.2.1 R.2.2.2.2.2.1 R.2.2.2.2.2.2.1 R.2.2.2.2.2.2.2.1 R.2.2.2.2.2.2.2.2.1 R.2.2.2.2.2.2.2.2.2.1 R.2.2.2.2.2.2.2.2.2.2.1 R.2.2.2.2.2.2.2.2.2.2.2.1 R.2.2.2.2.2.2.2.2.2.2.2.2.1 R.2.2.2.2.2.2.2.2.2.2.2.2.2.1 R.2.2.2.2.2.2.2.2.2.2.2.2.2.2.1 R.2.2.2.2.2.2.2.2.2.2.2.2.2.2.2) A) args s 0 0 A) (F0 m 203 ls []) := by
    intro l1 l2 l3 l4 l5 l6 mg mkept mspare mhasKept mwas mwasMany manew mthrown mtext mlength mspot mvalue merror mtold mtolds H23 locs ls hf hP hD hS hl
    unfold f_X6_changes_J203 at hf
    dsimp only at hf
    refine lv_aload_n hx hb dX6_changes_203 rfl (lv_at hl 0 rfl) ?_
    refine lv_iload_n hx hb dX6_changes_204 rfl (lv_at hl 1 rfl) ?_
    refine lv_iload_n hx hb dX6_changes_205 rfl (lv_at hl 2 rfl) ?_
    refine lv_iload hx hb dX6_changes_206 (lv_at hl 6 rfl) ?_
    refine lv_iload_n hx hb dX6_changes_208 rfl (lv_at hl 3 rfl) ?_
    refine lv_iconst (v := 0) hx hb dX6_changes_209 (by decide) ?_
    obtain ⟨R40, g41, hf⟩ := bd_B hf
    obtain ⟨r24, ⟨mg25, mk26, ms27, mh28, mw29, mw30, ma31, mt32, mt33, ml34, ms35, mv36, me37, mt38, mt39⟩⟩ := R40
    dsimp only at hf
    have hPc := hP
    have hDc := hD
    have hFc := va_free (wc := wM_ m0 m_g m_kept m_spare m_was m_text m_told cI mg mkept mspare mhasKept mwas mwasMany manew mthrown mtext mlength mspot mvalue merror mtold mtolds) hD hS hA [0, 1, 2, 3, 4, 5, 6] rfl
    refine va_calli (va_runV (As := [.int l1, .int l2, .int l6, .int l3, .int 0]) (rest := []) ⟨hx, hb, hml, hown, hts⟩ (c_X6_makes l dC dI cI cZ cC cJ cD m0 m_g m_kept m_spare m_was m_text m_told H23.size mg mkept mspare mhasKept mwas mwasMany manew mthrown mtext mlength mspot mvalue merror mtold mtolds l1 l2 l6 l3 (0 : Int32) (r24, (mg25, mk26, ms27, mh28, mw29, mw30, ma31, mt32, mt33, ml34, ms35, mv36, me37, mt38, mt39)) g41) (cwV 5 hts gX6_changes_X6_makes rfl rfl rfl hs_X6_makes ⟨Nat.le_of_ble_eq_true rfl, Nat.le_of_ble_eq_true rfl⟩) (preV_ (ci := 8) (q0 := 0) hPc hK hDc rfl rfl rfl rfl) rfl rfl hl.1 rfl (lv_room (Nat.le_of_ble_eq_true rfl)) dX6_changes_210 ⟨Nat.le_of_ble_eq_true rfl, Nat.le_of_ble_eq_true rfl⟩) hS (fun q _ h => hFc q h) hFc (fun z43 u t H42 locs ht hvm hw hB hz1 hk1 hS => ?_)
    have hw : r24 = z43 := hw.symm
    subst hw
    obtain ⟨hP, hD⟩ := aft_ (Wr := []) (Wc' := wM_ m0 m_g m_kept m_spare m_was m_text m_told cI mg25 mk26 ms27 mh28 mw29 mw30 ma31 mt32 mt33 ml34 ms35 mv36 me37 mt38 mt39) (W2 := wM_ m0 m_g m_kept m_spare m_was m_text m_told cI mg25 mk26 ms27 mh28 mw29 mw30 ma31 mt32 mt33 ml34 ms35 mv36 me37 mt38 mt39) hP hD [0, 1, 2, 3, 4, 5, 6] [] [0, 1, 2, 3, 4, 5, 6] rfl rfl (by decide) (by decide) (by decide) hk1 hFc hB ht rfl
    have hR := Option.some.inj hf
    subst hR
    exact W.iret (v := r24) hx hb hr (fun t ht hW => ⟨⟨r24, (), rfl, rfl, by rw [ht]; exact hP, va_K.moved hW.alike hK, hD⟩, hS.F ht⟩) hS.2.2 dX6_changes_213
  have bl184 : ∀ (l1 : Int32) (l2 : Int32) (l3 : Int32) (l4 : Int32) (l5 : Int32) (k0_ : Int32) (mg : Nat → Int32) (mkept : Nat → Int32) (mspare : Nat → Int32) (mhasKept : Int32) (mwas : Nat → Int32) (mwasMany : Int32) (manew : Int32) (mthrown : Int32) (mtext : Nat → Int32) (mlength : Int32) (mspot : Int32) (mvalue : Int32) (merror : Int32) (mtold : Nat → Int32) (mtolds : Int32) (H21 : Heap) (locs : List Loc) (ls : Array Slot), f_X6_changes_J184 l1 l2 l3 l4 l5 k0_ (mg, mkept, mspare, mhasKept, mwas, mwasMany, manew, mthrown, mtext, mlength, mspot, mvalue, merror, mtold, mtolds) = some R → va_P (dC, dI) vwCl (wM_ m0 m_g m_kept m_spare m_was m_text m_told cI mg mkept mspare mhasKept mwas mwasMany manew mthrown mtext mlength mspot mvalue merror mtold mtolds) H21 → va_D A (wM_ m0 m_g m_kept m_spare m_was m_text m_told cI mg mkept mspare mhasKept mwas mwasMany manew mthrown mtext mlength mspot mvalue merror mtold mtolds) → va_S A s.heap H21 locs → lv_has ls 7 [(0, .ref m0), (1, .int l1), (2, .int l2), (3, .int l3), (4, .int l4), (5, .int l5)] → W p l e (headSpec wsX6_changes rm_X6_changes).room s m args below meth c H21 locs 0 0 (MQ below (Qi_ (dC, dI) (ty_ cI cZ cC cJ cD) R.1 (wM_ m0 m_g m_kept m_spare m_was m_text m_told cI R.2.1 R.2.2.1 R.2.2.2.1 R.2.2.2.2.1 R.2.2.2.2.2.1 R.2.2.2.2.2.2.1 R.2.2.2.2.2.2.2.1 R.2.2.2.2.2.2.2.2.1 R.2.2.2.2.2.2.2.2.2.1 R.2.2.2.2.2.2.2.2.2.2.1 R.2.2.2.2.2.2.2.2.2.2.2.1 R.2.2.2.2.2.2.2.2.2.2.2.2.1 R.2.2.2.2.2.2.2.2.2.2.2.2.2.1 R.2.2.2.2.2.2.2.2.2.2.2.2.2.2.1 R.2.2.2.2.2.2.2.2.2.2.2.2.2.2.2) A) args s 0 0 A) (F0 m 184 ls [.int k0_]) := by
    intro l1 l2 l3 l4 l5 k0_ mg mkept mspare mhasKept mwas mwasMany manew mthrown mtext mlength mspot mvalue merror mtold mtolds H21 locs ls hf hP hD hS hl
    unfold f_X6_changes_J184 at hf
    dsimp only at hf
    refine lv_istore (lv' := [(6, .int k0_), (0, .ref m0), (1, .int l1), (2, .int l2), (3, .int l3), (4, .int l4), (5, .int l5)]) hx hb dX6_changes_184 hl (by decide) rfl (fun ls hl => ?_)
    refine lv_iload hx hb dX6_changes_186 (lv_at hl 5 rfl) ?_
    refine lv_if_lt (tgt := 203) hx hb dX6_changes_188 (by decide) (fun c22 => ?_) (fun c22 => ?_)
    · have hf := ite_T c22 hf
      exact bl203 l1 l2 l3 l4 l5 k0_ mg mkept mspare mhasKept mwas mwasMany manew mthrown mtext mlength mspot mvalue merror mtold mtolds _ _ _ hf hP hD hS (lv_sub hl [1, 2, 3, 4, 5, 6, 0] rfl)
    · have hf := ite_F c22 hf
      refine lv_aload_n hx hb dX6_changes_191 rfl (lv_at hl 1 rfl) ?_
      refine va_get (D := (dC, dI)) (ci := 8) (v := .ref m_g) (C := RX6) (T := TX6) (N := 15) hx hb hts inX6_ hown hK hP 0 rfl rfl 0 (by decide) fl7_ (fun _ h9 => h9) rfl dX6_changes_192 ?_
      refine lv_sipush (v := 190) hx hb dX6_changes_195 (by decide) ?_
      refine lv_iload hx hb dX6_changes_198 (lv_at hl 5 rfl) ?_
      refine lv_iadd hx hb dX6_changes_200 ?_
      refine lv_iload_n hx hb dX6_changes_201 rfl (lv_at hl 3 rfl) ?_
      obtain ⟨h44, hf⟩ := gd_T hf
      refine va_iast hx hb hK hP hD hS 1 0 rfl rfl h44 dX6_changes_202 (fun H45 locs hP hD hS => ?_)
      have hP : va_P (dC, dI) vwCl (wM_ m0 m_g m_kept m_spare m_was m_text m_told cI (upd mg ((190 + l4).toNatClampNeg) l2) mkept mspare mhasKept mwas mwasMany manew mthrown mtext mlength mspot mvalue merror mtold mtolds) H45 := hP
      have hD : va_D A (wM_ m0 m_g m_kept m_spare m_was m_text m_told cI (upd mg ((190 + l4).toNatClampNeg) l2) mkept mspare mhasKept mwas mwasMany manew mthrown mtext mlength mspot mvalue merror mtold mtolds) := hD
      obtain ⟨u46, e47, hf⟩ := nm_T hf
      rw [← e47] at hP hD
      exact bl203 l1 l2 l3 l4 l5 k0_ u46 mkept mspare mhasKept mwas mwasMany manew mthrown mtext mlength mspot mvalue merror mtold mtolds _ _ _ hf hP hD hS (lv_sub hl [1, 2, 3, 4, 5, 6, 0] rfl)
  have bl130 : ∀ (l1 : Int32) (l2 : Int32) (l3 : Int32) (l4 : Int32) (l5 : Int32) (mg : Nat → Int32) (mkept : Nat → Int32) (mspare : Nat → Int32) (mhasKept : Int32) (mwas : Nat → Int32) (mwasMany : Int32) (manew : Int32) (mthrown : Int32) (mtext : Nat → Int32) (mlength : Int32) (mspot : Int32) (mvalue : Int32) (merror : Int32) (mtold : Nat → Int32) (mtolds : Int32) (H16 : Heap) (locs : List Loc) (ls : Array Slot), f_X6_changes_J130 l1 l2 l3 l4 l5 (mg, mkept, mspare, mhasKept, mwas, mwasMany, manew, mthrown, mtext, mlength, mspot, mvalue, merror, mtold, mtolds) = some R → va_P (dC, dI) vwCl (wM_ m0 m_g m_kept m_spare m_was m_text m_told cI mg mkept mspare mhasKept mwas mwasMany manew mthrown mtext mlength mspot mvalue merror mtold mtolds) H16 → va_D A (wM_ m0 m_g m_kept m_spare m_was m_text m_told cI mg mkept mspare mhasKept mwas mwasMany manew mthrown mtext mlength mspot mvalue merror mtold mtolds) → va_S A s.heap H16 locs → lv_has ls 7 [(0, .ref m0), (1, .int l1), (2, .int l2), (3, .int l3), (4, .int l4), (5, .int l5)] → W p l e (headSpec wsX6_changes rm_X6_changes).room s m args below meth c H16 locs 0 0 (MQ below (Qi_ (dC, dI) (ty_ cI cZ cC cJ cD) R.1 (wM_ m0 m_g m_kept m_spare m_was m_text m_told cI R.2.1 R.2.2.1 R.2.2.2.1 R.2.2.2.2.1 R.2.2.2.2.2.1 R.2.2.2.2.2.2.1 R.2.2.2.2.2.2.2.1 R.2.2.2.2.2.2.2.2.1 R.2.2.2.2.2.2.2.2.2.1 R.2.2.2.2.2.2.2.2.2.2.1 R.2.2.2.2.2.2.2.2.2.2.2.1 R.2.2.2.2.2.2.2.2.2.2.2.2.1 R.2.2.2.2.2.2.2.2.2.2.2.2.2.1 R.2.2.2.2.2.2.2.2.2.2.2.2.2.2.1 R.2.2.2.2.2.2.2.2.2.2.2.2.2.2.2) A) args s 0 0 A) (F0 m 130 ls []) := by
    intro l1 l2 l3 l4 l5 mg mkept mspare mhasKept mwas mwasMany manew mthrown mtext mlength mspot mvalue merror mtold mtolds H16 locs ls hf hP hD hS hl
    unfold f_X6_changes_J130 at hf
    dsimp only at hf
    refine lv_aload_n hx hb dX6_changes_130 rfl (lv_at hl 0 rfl) ?_
    refine va_get (D := (dC, dI)) (ci := 8) (v := .ref m_g) (C := RX6) (T := TX6) (N := 15) hx hb hts inX6_ hown hK hP 0 rfl rfl 0 (by decide) fl7_ (fun _ h9 => h9) rfl dX6_changes_131 ?_
    refine lv_iconst (v := 0) hx hb dX6_changes_134 (by decide) ?_
    obtain ⟨h17, hf⟩ := gd_T hf
    refine va_iald hx hb hK hP 1 0 rfl rfl h17 dX6_changes_135 ?_
    refine lv_bipush (v := 60) hx hb dX6_changes_136 (by decide) ?_
    refine lv_icmp_ne (tgt := 143) hx hb dX6_changes_138 (by decide) (fun c18 => ?_) (fun c18 => ?_)
    · have hf := ite_F c18 hf
      refine lv_iload hx hb dX6_changes_143 (lv_at hl 4 rfl) ?_
      refine lv_if_lt (tgt := 162) hx hb dX6_changes_145 (by decide) (fun c19 => ?_) (fun c19 => ?_)
      · have hf := ite_T c19 hf
        refine lv_iload hx hb dX6_changes_162 (lv_at hl 5 rfl) ?_
        refine lv_if_lt (tgt := 181) hx hb dX6_changes_164 (by decide) (fun c20 => ?_) (fun c20 => ?_)
        · have hf := ite_T c20 hf
          refine lv_sipush (v := 1000) hx hb dX6_changes_181 (by decide) ?_
          exact bl184 l1 l2 l3 l4 l5 (1000 : Int32) mg mkept mspare mhasKept mwas mwasMany manew mthrown mtext mlength mspot mvalue merror mtold mtolds _ _ _ hf hP hD hS (lv_sub hl [0, 1, 2, 3, 4, 5] rfl)
        · have hf := ite_F c20 hf
          refine lv_aload_n hx hb dX6_changes_167 rfl (lv_at hl 0 rfl) ?_
          refine va_get (D := (dC, dI)) (ci := 8) (v := .ref m_g) (C := RX6) (T := TX6) (N := 15) hx hb hts inX6_ hown hK hP 0 rfl rfl 0 (by decide) fl7_ (fun _ h9 => h9) rfl dX6_changes_168 ?_
          refine lv_sipush (v := 130) hx hb dX6_changes_171 (by decide) ?_
          refine lv_iload hx hb dX6_changes_174 (lv_at hl 5 rfl) ?_
          refine lv_iadd hx hb dX6_changes_176 ?_
          obtain ⟨h48, hf⟩ := gd_T hf
          refine va_iald hx hb hK hP 1 0 rfl rfl h48 dX6_changes_177 ?_
          refine lv_goto (tgt := 184) hx hb dX6_changes_178 (by decide) ?_
          exact bl184 l1 l2 l3 l4 l5 (mg ((130 + l5).toNatClampNeg)) mg mkept mspare mhasKept mwas mwasMany manew mthrown mtext mlength mspot mvalue merror mtold mtolds _ _ _ hf hP hD hS (lv_sub hl [0, 1, 2, 3, 4, 5] rfl)
      · have hf := ite_F c19 hf
        refine lv_aload_n hx hb dX6_changes_148 rfl (lv_at hl 0 rfl) ?_
        refine va_get (D := (dC, dI)) (ci := 8) (v := .ref m_g) (C := RX6) (T := TX6) (N := 15) hx hb hts inX6_ hown hK hP 0 rfl rfl 0 (by decide) fl7_ (fun _ h9 => h9) rfl dX6_changes_149 ?_
        refine lv_sipush (v := 190) hx hb dX6_changes_152 (by decide) ?_
        refine lv_iload hx hb dX6_changes_155 (lv_at hl 4 rfl) ?_
        refine lv_iadd hx hb dX6_changes_157 ?_
        obtain ⟨h49, hf⟩ := gd_T hf
        refine va_iald hx hb hK hP 1 0 rfl rfl h49 dX6_changes_158 ?_
        refine lv_goto (tgt := 184) hx hb dX6_changes_159 (by decide) ?_
        exact bl184 l1 l2 l3 l4 l5 (mg ((190 + l4).toNatClampNeg)) mg mkept mspare mhasKept mwas mwasMany manew mthrown mtext mlength mspot mvalue merror mtold mtolds _ _ _ hf hP hD hS (lv_sub hl [0, 1, 2, 3, 4, 5] rfl)
    · have hf := ite_T c18 hf
      refine lv_iconst (v := (-1)) hx hb dX6_changes_141 (by decide) ?_
      have hR := Option.some.inj hf
      subst hR
      exact W.iret (v := (-1 : Int32)) hx hb hr (fun t ht hW => ⟨⟨(-1 : Int32), (), rfl, rfl, by rw [ht]; exact hP, va_K.moved hW.alike hK, hD⟩, hS.F ht⟩) hS.2.2 dX6_changes_142
  have bl83 : ∀ (l1 : Int32) (l2 : Int32) (l3 : Int32) (l4 : Int32) (l5 : Int32) (mg : Nat → Int32) (mkept : Nat → Int32) (mspare : Nat → Int32) (mhasKept : Int32) (mwas : Nat → Int32) (mwasMany : Int32) (manew : Int32) (mthrown : Int32) (mtext : Nat → Int32) (mlength : Int32) (mspot : Int32) (mvalue : Int32) (merror : Int32) (mtold : Nat → Int32) (mtolds : Int32) (H14 : Heap) (locs : List Loc) (ls : Array Slot), f_X6_changes_J83 l1 l2 l3 l4 l5 (mg, mkept, mspare, mhasKept, mwas, mwasMany, manew, mthrown, mtext, mlength, mspot, mvalue, merror, mtold, mtolds) = some R → va_P (dC, dI) vwCl (wM_ m0 m_g m_kept m_spare m_was m_text m_told cI mg mkept mspare mhasKept mwas mwasMany manew mthrown mtext mlength mspot mvalue merror mtold mtolds) H14 → va_D A (wM_ m0 m_g m_kept m_spare m_was m_text m_told cI mg mkept mspare mhasKept mwas mwasMany manew mthrown mtext mlength mspot mvalue merror mtold mtolds) → va_S A s.heap H14 locs → lv_has ls 7 [(0, .ref m0), (1, .int l1), (2, .int l2), (3, .int l3), (4, .int l4), (5, .int l5)] → W p l e (headSpec wsX6_changes rm_X6_changes).room s m args below meth c H14 locs 0 0 (MQ below (Qi_ (dC, dI) (ty_ cI cZ cC cJ cD) R.1 (wM_ m0 m_g m_kept m_spare m_was m_text m_told cI R.2.1 R.2.2.1 R.2.2.2.1 R.2.2.2.2.1 R.2.2.2.2.2.1 R.2.2.2.2.2.2.1 R.2.2.2.2.2.2.2.1 R.2.2.2.2.2.2.2.2.1 R.2.2.2.2.2.2.2.2.2.1 R.2.2.2.2.2.2.2.2.2.2.1 R.2.2.2.2.2.2.2.2.2.2.2.1 R.2.2.2.2.2.2.2.2.2.2.2.2.1 R.2.2.2.2.2.2.2.2.2.2.2.2.2.1 R.2.2.2.2.2.2.2.2.2.2.2.2.2.2.1 R.2.2.2.2.2.2.2.2.2.2.2.2.2.2.2) A) args s 0 0 A) (F0 m 83 ls []) := by
    intro l1 l2 l3 l4 l5 mg mkept mspare mhasKept mwas mwasMany manew mthrown mtext mlength mspot mvalue merror mtold mtolds H14 locs ls hf hP hD hS hl
    unfold f_X6_changes_J83 at hf
    dsimp only at hf
    refine lv_iload hx hb dX6_changes_83 (lv_at hl 4 rfl) ?_
    refine lv_if_ge (tgt := 130) hx hb dX6_changes_85 (by decide) (fun c15 => ?_) (fun c15 => ?_)
    · have hf := ite_T c15 hf
      exact bl130 l1 l2 l3 l4 l5 mg mkept mspare mhasKept mwas mwasMany manew mthrown mtext mlength mspot mvalue merror mtold mtolds _ _ _ hf hP hD hS (lv_sub hl [0, 1, 2, 3, 4, 5] rfl)
    · have hf := ite_F c15 hf
      refine lv_iload hx hb dX6_changes_88 (lv_at hl 5 rfl) ?_
      refine lv_if_lt (tgt := 130) hx hb dX6_changes_90 (by decide) (fun c50 => ?_) (fun c50 => ?_)
      · have hf := ite_T c50 hf
        exact bl130 l1 l2 l3 l4 l5 mg mkept mspare mhasKept mwas mwasMany manew mthrown mtext mlength mspot mvalue merror mtold mtolds _ _ _ hf hP hD hS (lv_sub hl [0, 1, 2, 3, 4, 5] rfl)
      · have hf := ite_F c50 hf
        refine lv_aload_n hx hb dX6_changes_93 rfl (lv_at hl 0 rfl) ?_
        refine va_get (D := (dC, dI)) (ci := 8) (v := .ref m_g) (C := RX6) (T := TX6) (N := 15) hx hb hts inX6_ hown hK hP 0 rfl rfl 0 (by decide) fl7_ (fun _ h9 => h9) rfl dX6_changes_94 ?_
        refine lv_sipush (v := 310) hx hb dX6_changes_97 (by decide) ?_
        refine lv_iload hx hb dX6_changes_100 (lv_at hl 5 rfl) ?_
        refine lv_iadd hx hb dX6_changes_102 ?_
        obtain ⟨h51, hf⟩ := gd_T hf
        refine va_iald hx hb hK hP 1 0 rfl rfl h51 dX6_changes_103 ?_
        refine lv_iconst (v := 1) hx hb dX6_changes_104 (by decide) ?_
        refine lv_icmp_ne (tgt := 130) hx hb dX6_changes_105 (by decide) (fun c52 => ?_) (fun c52 => ?_)
        · have hf := ite_F c52 hf
          exact bl130 l1 l2 l3 l4 l5 mg mkept mspare mhasKept mwas mwasMany manew mthrown mtext mlength mspot mvalue merror mtold mtolds _ _ _ hf hP hD hS (lv_sub hl [0, 1, 2, 3, 4, 5] rfl)
        · have hf := ite_T c52 hf
          refine lv_aload_n hx hb dX6_changes_108 rfl (lv_at hl 0 rfl) ?_
          refine va_get (D := (dC, dI)) (ci := 8) (v := .ref m_g) (C := RX6) (T := TX6) (N := 15) hx hb hts inX6_ hown hK hP 0 rfl rfl 0 (by decide) fl7_ (fun _ h9 => h9) rfl dX6_changes_109 ?_
          refine lv_sipush (v := 130) hx hb dX6_changes_112 (by decide) ?_
          refine lv_iload hx hb dX6_changes_115 (lv_at hl 5 rfl) ?_
          refine lv_iadd hx hb dX6_changes_117 ?_
          refine lv_iload_n hx hb dX6_changes_118 rfl (lv_at hl 2 rfl) ?_
          obtain ⟨h53, hf⟩ := gd_T hf
          refine va_iast hx hb hK hP hD hS 1 0 rfl rfl h53 dX6_changes_119 (fun H54 locs hP hD hS => ?_)
          have hP : va_P (dC, dI) vwCl (wM_ m0 m_g m_kept m_spare m_was m_text m_told cI (upd mg ((130 + l5).toNatClampNeg) l2) mkept mspare mhasKept mwas mwasMany manew mthrown mtext mlength mspot mvalue merror mtold mtolds) H54 := hP
          have hD : va_D A (wM_ m0 m_g m_kept m_spare m_was m_text m_told cI (upd mg ((130 + l5).toNatClampNeg) l2) mkept mspare mhasKept mwas mwasMany manew mthrown mtext mlength mspot mvalue merror mtold mtolds) := hD
          obtain ⟨u55, e56, hf⟩ := nm_T hf
          rw [← e56] at hP hD
          refine lv_aload_n hx hb dX6_changes_120 rfl (lv_at hl 0 rfl) ?_
          refine lv_iload hx hb dX6_changes_121 (lv_at hl 5 rfl) ?_
          refine lv_iload_n hx hb dX6_changes_123 rfl (lv_at hl 3 rfl) ?_
          obtain ⟨R72, g73, hf⟩ := bd_B hf
          obtain ⟨mg57, mk58, ms59, mh60, mw61, mw62, ma63, mt64, mt65, ml66, ms67, mv68, me69, mt70, mt71⟩ := R72
          dsimp only at hf
          have hPc := hP
          have hDc := hD
          have hFc := va_free (wc := wM_ m0 m_g m_kept m_spare m_was m_text m_told cI u55 mkept mspare mhasKept mwas mwasMany manew mthrown mtext mlength mspot mvalue merror mtold mtolds) hD hS hA [0, 1, 2, 3, 4, 5, 6] rfl
          refine va_callv (va_runV (As := [.int l5, .int l3]) (rest := []) ⟨hx, hb, hml, hown, hts⟩ (c_X6_becomes l dC dI cI cZ cC cJ cD m0 m_g m_kept m_spare m_was m_text m_told H54.size u55 mkept mspare mhasKept mwas mwasMany manew mthrown mtext mlength mspot mvalue merror mtold mtolds l5 l3 (mg57, mk58, ms59, mh60, mw61, mw62, ma63, mt64, mt65, ml66, ms67, mv68, me69, mt70, mt71) g73) (cwV 2 hts gX6_changes_X6_becomes rfl rfl rfl hs_X6_becomes ⟨Nat.le_of_ble_eq_true rfl, Nat.le_of_ble_eq_true rfl⟩) (preV_ (ci := 8) (q0 := 0) hPc hK hDc rfl rfl rfl rfl) rfl rfl hl.1 rfl (lv_room (Nat.le_of_ble_eq_true rfl)) dX6_changes_124 ⟨Nat.le_of_ble_eq_true rfl, Nat.le_of_ble_eq_true rfl⟩) hS (fun q _ h => hFc q h) hFc (fun u t H74 locs ht hvm hw hB hz1 hk1 hS => ?_)
          obtain ⟨hP, hD⟩ := aft_ (Wr := []) (Wc' := wM_ m0 m_g m_kept m_spare m_was m_text m_told cI mg57 mk58 ms59 mh60 mw61 mw62 ma63 mt64 mt65 ml66 ms67 mv68 me69 mt70 mt71) (W2 := wM_ m0 m_g m_kept m_spare m_was m_text m_told cI mg57 mk58 ms59 mh60 mw61 mw62 ma63 mt64 mt65 ml66 ms67 mv68 me69 mt70 mt71) hP hD [0, 1, 2, 3, 4, 5, 6] [] [0, 1, 2, 3, 4, 5, 6] rfl rfl (by decide) (by decide) (by decide) hk1 hFc hB ht rfl
          refine lv_iload hx hb dX6_changes_127 (lv_at hl 5 rfl) ?_
          have hR := Option.some.inj hf
          subst hR
          exact W.iret (v := l5) hx hb hr (fun t ht hW => ⟨⟨l5, (), rfl, rfl, by rw [ht]; exact hP, va_K.moved hW.alike hK, hD⟩, hS.F ht⟩) hS.2.2 dX6_changes_129
  have bl46 : ∀ (l1 : Int32) (l2 : Int32) (l3 : Int32) (l4 : Int32) (l5 : Int32) (mg : Nat → Int32) (mkept : Nat → Int32) (mspare : Nat → Int32) (mhasKept : Int32) (mwas : Nat → Int32) (mwasMany : Int32) (manew : Int32) (mthrown : Int32) (mtext : Nat → Int32) (mlength : Int32) (mspot : Int32) (mvalue : Int32) (merror : Int32) (mtold : Nat → Int32) (mtolds : Int32) (H12 : Heap) (locs : List Loc) (ls : Array Slot), f_X6_changes_J46 l1 l2 l3 l4 l5 (mg, mkept, mspare, mhasKept, mwas, mwasMany, manew, mthrown, mtext, mlength, mspot, mvalue, merror, mtold, mtolds) = some R → va_P (dC, dI) vwCl (wM_ m0 m_g m_kept m_spare m_was m_text m_told cI mg mkept mspare mhasKept mwas mwasMany manew mthrown mtext mlength mspot mvalue merror mtold mtolds) H12 → va_D A (wM_ m0 m_g m_kept m_spare m_was m_text m_told cI mg mkept mspare mhasKept mwas mwasMany manew mthrown mtext mlength mspot mvalue merror mtold mtolds) → va_S A s.heap H12 locs → lv_has ls 7 [(0, .ref m0), (1, .int l1), (2, .int l2), (3, .int l3), (4, .int l4), (5, .int l5)] → W p l e (headSpec wsX6_changes rm_X6_changes).room s m args below meth c H12 locs 0 0 (MQ below (Qi_ (dC, dI) (ty_ cI cZ cC cJ cD) R.1 (wM_ m0 m_g m_kept m_spare m_was m_text m_told cI R.2.1 R.2.2.1 R.2.2.2.1 R.2.2.2.2.1 R.2.2.2.2.2.1 R.2.2.2.2.2.2.1 R.2.2.2.2.2.2.2.1 R.2.2.2.2.2.2.2.2.1 R.2.2.2.2.2.2.2.2.2.1 R.2.2.2.2.2.2.2.2.2.2.1 R.2.2.2.2.2.2.2.2.2.2.2.1 R.2.2.2.2.2.2.2.2.2.2.2.2.1 R.2.2.2.2.2.2.2.2.2.2.2.2.2.1 R.2.2.2.2.2.2.2.2.2.2.2.2.2.2.1 R.2.2.2.2.2.2.2.2.2.2.2.2.2.2.2) A) args s 0 0 A) (F0 m 46 ls []) := by
    intro l1 l2 l3 l4 l5 mg mkept mspare mhasKept mwas mwasMany manew mthrown mtext mlength mspot mvalue merror mtold mtolds H12 locs ls hf hP hD hS hl
    unfold f_X6_changes_J46 at hf
    dsimp only at hf
    refine lv_iload hx hb dX6_changes_46 (lv_at hl 4 rfl) ?_
    refine lv_if_lt (tgt := 83) hx hb dX6_changes_48 (by decide) (fun c13 => ?_) (fun c13 => ?_)
    · have hf := ite_T c13 hf
      exact bl83 l1 l2 l3 l4 l5 mg mkept mspare mhasKept mwas mwasMany manew mthrown mtext mlength mspot mvalue merror mtold mtolds _ _ _ hf hP hD hS (lv_sub hl [0, 1, 2, 3, 4, 5] rfl)
    · have hf := ite_F c13 hf
      refine lv_aload_n hx hb dX6_changes_51 rfl (lv_at hl 0 rfl) ?_
      refine va_get (D := (dC, dI)) (ci := 8) (v := .ref m_g) (C := RX6) (T := TX6) (N := 15) hx hb hts inX6_ hown hK hP 0 rfl rfl 0 (by decide) fl7_ (fun _ h9 => h9) rfl dX6_changes_52 ?_
      refine lv_sipush (v := 310) hx hb dX6_changes_55 (by decide) ?_
      refine lv_iload hx hb dX6_changes_58 (lv_at hl 4 rfl) ?_
      refine lv_iadd hx hb dX6_changes_60 ?_
      obtain ⟨h76, hf⟩ := gd_T hf
      refine va_iald hx hb hK hP 1 0 rfl rfl h76 dX6_changes_61 ?_
      refine lv_if_ne (tgt := 83) hx hb dX6_changes_62 (by decide) (fun c77 => ?_) (fun c77 => ?_)
      · have hf := ite_F c77 hf
        exact bl83 l1 l2 l3 l4 l5 mg mkept mspare mhasKept mwas mwasMany manew mthrown mtext mlength mspot mvalue merror mtold mtolds _ _ _ hf hP hD hS (lv_sub hl [0, 1, 2, 3, 4, 5] rfl)
      · have hf := ite_T c77 hf
        refine lv_aload_n hx hb dX6_changes_65 rfl (lv_at hl 0 rfl) ?_
        refine va_get (D := (dC, dI)) (ci := 8) (v := .ref m_g) (C := RX6) (T := TX6) (N := 15) hx hb hts inX6_ hown hK hP 0 rfl rfl 0 (by decide) fl7_ (fun _ h9 => h9) rfl dX6_changes_66 ?_
        refine lv_sipush (v := 250) hx hb dX6_changes_69 (by decide) ?_
        refine lv_iload hx hb dX6_changes_72 (lv_at hl 4 rfl) ?_
        refine lv_iadd hx hb dX6_changes_74 ?_
        obtain ⟨h78, hf⟩ := gd_T hf
        refine va_iald hx hb hK hP 1 0 rfl rfl h78 dX6_changes_75 ?_
        refine lv_iload_n hx hb dX6_changes_76 rfl (lv_at hl 3 rfl) ?_
        refine lv_icmp_ne (tgt := 83) hx hb dX6_changes_77 (by decide) (fun c79 => ?_) (fun c79 => ?_)
        · have hf := ite_F c79 hf
          exact bl83 l1 l2 l3 l4 l5 mg mkept mspare mhasKept mwas mwasMany manew mthrown mtext mlength mspot mvalue merror mtold mtolds _ _ _ hf hP hD hS (lv_sub hl [0, 1, 2, 3, 4, 5] rfl)
        · have hf := ite_T c79 hf
          refine lv_iload hx hb dX6_changes_80 (lv_at hl 4 rfl) ?_
          have hR := Option.some.inj hf
          subst hR
          exact W.iret (v := l4) hx hb hr (fun t ht hW => ⟨⟨l4, (), rfl, rfl, by rw [ht]; exact hP, va_K.moved hW.alike hK, hD⟩, hS.F ht⟩) hS.2.2 dX6_changes_82
  refine lv_aload_n hx hb dX6_changes_0 rfl (lv_at hl 0 rfl) ?_
  refine lv_iload_n hx hb dX6_changes_1 rfl (lv_at hl 1 rfl) ?_
  refine lv_iload_n hx hb dX6_changes_2 rfl (lv_at hl 2 rfl) ?_
  obtain ⟨R2, g3, hf⟩ := bd_B hf
  obtain ⟨r1, rfl⟩ : ∃ z, z = R2 := ⟨_, rfl⟩
  have hPc := hP
  have hDc := hD
  have hFc := va_free (wc := wM_ m0 m_g m_kept m_spare m_was m_text m_told cI mg mkept mspare mhasKept mwas mwasMany manew mthrown mtext mlength mspot mvalue merror mtold mtolds) hD hS hA [0, 1, 2, 3, 4, 5, 6] rfl
  refine va_calli (va_runV (As := [.int a1, .int a2]) (rest := []) ⟨hx, hb, hml, hown, hts⟩ (c_X6_valid l dC dI cI cZ cC cJ cD m0 m_g m_kept m_spare m_was m_text m_told s.heap.size mg mkept mspare mhasKept mwas mwasMany manew mthrown mtext mlength mspot mvalue merror mtold mtolds a1 a2 r1 g3) (cwV 2 hts gX6_changes_X6_valid rfl rfl rfl hs_X6_valid ⟨Nat.le_of_ble_eq_true rfl, Nat.le_of_ble_eq_true rfl⟩) (preV_ (ci := 8) (q0 := 0) hPc hK hDc rfl rfl rfl rfl) rfl rfl hl.1 rfl (lv_room (Nat.le_of_ble_eq_true rfl)) dX6_changes_3 ⟨Nat.le_of_ble_eq_true rfl, Nat.le_of_ble_eq_true rfl⟩) hS (fun q _ h => hFc q h) hFc (fun z5 u t H4 locs ht hvm hw hB hz1 hk1 hS => ?_)
  have hw : r1 = z5 := hw.symm
  subst hw
  obtain ⟨hP, hD⟩ := aft_ (Wr := []) (Wc' := wM_ m0 m_g m_kept m_spare m_was m_text m_told cI mg mkept mspare mhasKept mwas mwasMany manew mthrown mtext mlength mspot mvalue merror mtold mtolds) (W2 := wM_ m0 m_g m_kept m_spare m_was m_text m_told cI mg mkept mspare mhasKept mwas mwasMany manew mthrown mtext mlength mspot mvalue merror mtold mtolds) hP hD [0, 1, 2, 3, 4, 5, 6] [] [0, 1, 2, 3, 4, 5, 6] rfl rfl (by decide) (by decide) (by decide) hk1 hFc hB ht rfl
  refine lv_istore (lv' := [(4, .int r1), (0, .ref m0), (1, .int a1), (2, .int a2), (3, .int a3)]) hx hb dX6_changes_6 hl (by decide) rfl (fun ls hl => ?_)
  refine lv_aload_n hx hb dX6_changes_8 rfl (lv_at hl 1 rfl) ?_
  refine lv_iload_n hx hb dX6_changes_9 rfl (lv_at hl 2 rfl) ?_
  refine lv_iload_n hx hb dX6_changes_10 rfl (lv_at hl 3 rfl) ?_
  obtain ⟨R7, g8, hf⟩ := bd_B hf
  obtain ⟨r6, rfl⟩ : ∃ z, z = R7 := ⟨_, rfl⟩
  have hPc := hP
  have hDc := hD
  have hFc := va_free (wc := wM_ m0 m_g m_kept m_spare m_was m_text m_told cI mg mkept mspare mhasKept mwas mwasMany manew mthrown mtext mlength mspot mvalue merror mtold mtolds) hD hS hA [0, 1, 2, 3, 4, 5, 6] rfl
  refine va_calli (va_runV (As := [.int a1, .int a2]) (rest := []) ⟨hx, hb, hml, hown, hts⟩ (c_X6_following l dC dI cI cZ cC cJ cD m0 m_g m_kept m_spare m_was m_text m_told H4.size mg mkept mspare mhasKept mwas mwasMany manew mthrown mtext mlength mspot mvalue merror mtold mtolds a1 a2 r6 g8) (cwV 2 hts gX6_changes_X6_following rfl rfl rfl hs_X6_following ⟨Nat.le_of_ble_eq_true rfl, Nat.le_of_ble_eq_true rfl⟩) (preV_ (ci := 8) (q0 := 0) hPc hK hDc rfl rfl rfl rfl) rfl rfl hl.1 rfl (lv_room (Nat.le_of_ble_eq_true rfl)) dX6_changes_11 ⟨Nat.le_of_ble_eq_true rfl, Nat.le_of_ble_eq_true rfl⟩) hS (fun q _ h => hFc q h) hFc (fun z10 u t H9 locs ht hvm hw hB hz1 hk1 hS => ?_)
  have hw : r6 = z10 := hw.symm
  subst hw
  obtain ⟨hP, hD⟩ := aft_ (Wr := []) (Wc' := wM_ m0 m_g m_kept m_spare m_was m_text m_told cI mg mkept mspare mhasKept mwas mwasMany manew mthrown mtext mlength mspot mvalue merror mtold mtolds) (W2 := wM_ m0 m_g m_kept m_spare m_was m_text m_told cI mg mkept mspare mhasKept mwas mwasMany manew mthrown mtext mlength mspot mvalue merror mtold mtolds) hP hD [0, 1, 2, 3, 4, 5, 6] [] [0, 1, 2, 3, 4, 5, 6] rfl rfl (by decide) (by decide) (by decide) hk1 hFc hB ht rfl
  refine lv_istore (lv' := [(5, .int r6), (4, .int r1), (0, .ref m0), (1, .int a1), (2, .int a2), (3, .int a3)]) hx hb dX6_changes_14 hl (by decide) rfl (fun ls hl => ?_)
  refine lv_iload hx hb dX6_changes_16 (lv_at hl 1 rfl) ?_
  refine lv_if_lt (tgt := 46) hx hb dX6_changes_18 (by decide) (fun c11 => ?_) (fun c11 => ?_)
  · have hf := ite_T c11 hf
    exact bl46 a1 a2 a3 r1 r6 mg mkept mspare mhasKept mwas mwasMany manew mthrown mtext mlength mspot mvalue merror mtold mtolds _ _ _ hf hP hD hS (lv_sub hl [2, 3, 4, 5, 1, 0] rfl)
  · have hf := ite_F c11 hf
    refine lv_aload_n hx hb dX6_changes_21 rfl (lv_at hl 2 rfl) ?_
    refine va_get (D := (dC, dI)) (ci := 8) (v := .ref m_g) (C := RX6) (T := TX6) (N := 15) hx hb hts inX6_ hown hK hP 0 rfl rfl 0 (by decide) fl7_ (fun _ h9 => h9) rfl dX6_changes_22 ?_
    refine lv_sipush (v := 130) hx hb dX6_changes_25 (by decide) ?_
    refine lv_iload hx hb dX6_changes_28 (lv_at hl 1 rfl) ?_
    refine lv_iadd hx hb dX6_changes_30 ?_
    obtain ⟨h80, hf⟩ := gd_T hf
    refine va_iald hx hb hK hP 1 0 rfl rfl h80 dX6_changes_31 ?_
    refine lv_iload_n hx hb dX6_changes_32 rfl (lv_at hl 4 rfl) ?_
    refine lv_icmp_ne (tgt := 46) hx hb dX6_changes_33 (by decide) (fun c81 => ?_) (fun c81 => ?_)
    · have hf := ite_F c81 hf
      exact bl46 a1 a2 a3 r1 r6 mg mkept mspare mhasKept mwas mwasMany manew mthrown mtext mlength mspot mvalue merror mtold mtolds _ _ _ hf hP hD hS (lv_sub hl [2, 3, 4, 5, 1, 0] rfl)
    · have hf := ite_T c81 hf
      refine lv_aload_n hx hb dX6_changes_36 rfl (lv_at hl 2 rfl) ?_
      refine lv_iload hx hb dX6_changes_37 (lv_at hl 1 rfl) ?_
      refine lv_iload_n hx hb dX6_changes_39 rfl (lv_at hl 5 rfl) ?_
      obtain ⟨R97, g98, hf⟩ := bd_B hf
      obtain ⟨mg82, mk83, ms84, mh85, mw86, mw87, ma88, mt89, mt90, ml91, ms92, mv93, me94, mt95, mt96⟩ := R97
      dsimp only at hf
      have hPc := hP
      have hDc := hD
      have hFc := va_free (wc := wM_ m0 m_g m_kept m_spare m_was m_text m_told cI mg mkept mspare mhasKept mwas mwasMany manew mthrown mtext mlength mspot mvalue merror mtold mtolds) hD hS hA [0, 1, 2, 3, 4, 5, 6] rfl
      refine va_callv (va_runV (As := [.int r1, .int a3]) (rest := []) ⟨hx, hb, hml, hown, hts⟩ (c_X6_becomes l dC dI cI cZ cC cJ cD m0 m_g m_kept m_spare m_was m_text m_told H9.size mg mkept mspare mhasKept mwas mwasMany manew mthrown mtext mlength mspot mvalue merror mtold mtolds r1 a3 (mg82, mk83, ms84, mh85, mw86, mw87, ma88, mt89, mt90, ml91, ms92, mv93, me94, mt95, mt96) g98) (cwV 2 hts gX6_changes_X6_becomes rfl rfl rfl hs_X6_becomes ⟨Nat.le_of_ble_eq_true rfl, Nat.le_of_ble_eq_true rfl⟩) (preV_ (ci := 8) (q0 := 0) hPc hK hDc rfl rfl rfl rfl) rfl rfl hl.1 rfl (lv_room (Nat.le_of_ble_eq_true rfl)) dX6_changes_40 ⟨Nat.le_of_ble_eq_true rfl, Nat.le_of_ble_eq_true rfl⟩) hS (fun q _ h => hFc q h) hFc (fun u t H99 locs ht hvm hw hB hz1 hk1 hS => ?_)
      obtain ⟨hP, hD⟩ := aft_ (Wr := []) (Wc' := wM_ m0 m_g m_kept m_spare m_was m_text m_told cI mg82 mk83 ms84 mh85 mw86 mw87 ma88 mt89 mt90 ml91 ms92 mv93 me94 mt95 mt96) (W2 := wM_ m0 m_g m_kept m_spare m_was m_text m_told cI mg82 mk83 ms84 mh85 mw86 mw87 ma88 mt89 mt90 ml91 ms92 mv93 me94 mt95 mt96) hP hD [0, 1, 2, 3, 4, 5, 6] [] [0, 1, 2, 3, 4, 5, 6] rfl rfl (by decide) (by decide) (by decide) hk1 hFc hB ht rfl
      refine lv_iload hx hb dX6_changes_43 (lv_at hl 1 rfl) ?_
      have hR := Option.some.inj hf
      subst hR
      exact W.iret (v := r1) hx hb hr (fun t ht hW => ⟨⟨r1, (), rfl, rfl, by rw [ht]; exact hP, va_K.moved hW.alike hK, hD⟩, hS.F ht⟩) hS.2.2 dX6_changes_45
theorem hs_X6_changes : yX6_changes.cls = RX6 ∧ yX6_changes.cls ≠ "java/lang/invoke/MethodHandle" ∧ yX6_changes.cls ≠ "java/lang/invoke/VarHandle" ∧ (parseMethodDescriptor yX6_changes.desc).map (fun d => d.parameters.length) = some 3 := by decide +kernel
set_option maxRecDepth 20000 in
theorem in_X6_versionOf_X6 : ∀ w ∈ wsX60, w ∈ wsX6_versionOf := by decide +kernel
def f_X6_versionOf (a1 : Int32) (M_ : tM_) : Option (Int32) :=
match M_ with
| (mg, mkept, mspare, mhasKept, mwas, mwasMany, manew, mthrown, mtext, mlength, mspot, mvalue, merror, mtold, mtolds) =>
gd_ (370 + a1) 610 (
gd_ (430 + a1) 610 (
bd_ (f_X6_valid (mg ((370 + a1).toNatClampNeg)) (mg ((430 + a1).toNatClampNeg)) (mg, mkept, mspare, mhasKept, mwas, mwasMany, manew, mthrown, mtext, mlength, mspot, mvalue, merror, mtold, mtolds)) (fun r3 =>
some r3)))
abbrev rm_X6_versionOf : Room := { frames := 2, cells := 0, slots := 0, locals := 45 }
set_option maxHeartbeats 4000000 in
set_option maxRecDepth 100000 in
theorem c_X6_versionOf (l : Launch) (dC : Nat → ClassId) (dI : Nat → Nat → Nat) (cI cZ cC cJ cD : ClassId) (m0 m_g m_kept m_spare m_was m_text m_told : Nat) (sz : Nat) (mg : Nat → Int32) (mkept : Nat → Int32) (mspare : Nat → Int32) (mhasKept : Int32) (mwas : Nat → Int32) (mwasMany : Int32) (manew : Int32) (mthrown : Int32) (mtext : Nat → Int32) (mlength : Int32) (mspot : Int32) (mvalue : Int32) (merror : Int32) (mtold : Nat → Int32) (mtolds : Int32) (a1 : Int32) (R : Int32) (hf : f_X6_versionOf a1 (mg, mkept, mspare, mhasKept, mwas, mwasMany, manew, mthrown, mtext, mlength, mspot, mvalue, merror, mtold, mtolds) = some R) : Met l yX6_versionOf wsX6_versionOf rm_X6_versionOf (Pc_ (dC, dI) (ty_ cI cZ cC cJ cD) (wM_ m0 m_g m_kept m_spare m_was m_text m_told cI mg mkept mspare mhasKept mwas mwasMany manew mthrown mtext mlength mspot mvalue merror mtold mtolds) sz [.ref m0, .int a1]) (Qi_ (dC, dI) (ty_ cI cZ cC cJ cD) R (wM_ m0 m_g m_kept m_spare m_was m_text m_told cI mg mkept mspare mhasKept mwas mwasMany manew mthrown mtext mlength mspot mvalue merror mtold mtolds) (va_A (wM_ m0 m_g m_kept m_spare m_was m_text m_told cI mg mkept mspare mhasKept mwas mwasMany manew mthrown mtext mlength mspot mvalue merror mtold mtolds) sz)) 0 0 (va_A (wM_ m0 m_g m_kept m_spare m_was m_text m_told cI mg mkept mspare mhasKept mwas mwasMany manew mthrown mtext mlength mspot mvalue merror mtold mtolds) sz) := by
  refine met_ (cc := cX6_versionOf) (maxL := 2) (ret := (some .int)) (Qcf := fun A => Qi_ (dC, dI) (ty_ cI cZ cC cJ cD) R (wM_ m0 m_g m_kept m_spare m_was m_text m_told cI mg mkept mspare mhasKept mwas mwasMany manew mthrown mtext mlength mspot mvalue merror mtold mtolds) A) (by decide) rfl (Nat.le_of_ble_eq_true rfl) ?_
  intro p e s m args below meth c A ls hx hb hr hts hown hlocks hml hA hP hK hD hl
  have hown : s.vm.findClass RX6 = some m.cls := hown
  have hl : lv_has ls 2 [(0, .ref m0), (1, .int a1)] := hl
  have hS : va_S A s.heap s.heap [] := va_S.rf
  have fl7_ : (Cond.fieldLink RX6 7 "DimensionLoaderModel" "g" "[I").before args s = true := hts _ (List.mem_of_getElem? (i := 1) rfl)
  have inX6_ : ∀ w ∈ wsX60, w ∈ wsX6_versionOf := in_X6_versionOf_X6
  unfold f_X6_versionOf at hf
  dsimp only at hf
  refine lv_aload_n hx hb dX6_versionOf_0 rfl (lv_at hl 0 rfl) ?_
  refine lv_aload_n hx hb dX6_versionOf_1 rfl (lv_at hl 0 rfl) ?_
  refine va_get (D := (dC, dI)) (ci := 8) (v := .ref m_g) (C := RX6) (T := TX6) (N := 15) hx hb hts inX6_ hown hK hP 0 rfl rfl 0 (by decide) fl7_ (fun _ h9 => h9) rfl dX6_versionOf_2 ?_
  refine lv_sipush (v := 370) hx hb dX6_versionOf_5 (by decide) ?_
  refine lv_iload_n hx hb dX6_versionOf_8 rfl (lv_at hl 1 rfl) ?_
  refine lv_iadd hx hb dX6_versionOf_9 ?_
  obtain ⟨h1, hf⟩ := gd_T hf
  refine va_iald hx hb hK hP 1 0 rfl rfl h1 dX6_versionOf_10 ?_
  refine lv_aload_n hx hb dX6_versionOf_11 rfl (lv_at hl 0 rfl) ?_
  refine va_get (D := (dC, dI)) (ci := 8) (v := .ref m_g) (C := RX6) (T := TX6) (N := 15) hx hb hts inX6_ hown hK hP 0 rfl rfl 0 (by decide) fl7_ (fun _ h9 => h9) rfl dX6_versionOf_12 ?_
  refine lv_sipush (v := 430) hx hb dX6_versionOf_15 (by decide) ?_
  refine lv_iload_n hx hb dX6_versionOf_18 rfl (lv_at hl 1 rfl) ?_
  refine lv_iadd hx hb dX6_versionOf_19 ?_
  obtain ⟨h2, hf⟩ := gd_T hf
  refine va_iald hx hb hK hP 1 0 rfl rfl h2 dX6_versionOf_20 ?_
  obtain ⟨R4, g5, hf⟩ := bd_B hf
  obtain ⟨r3, rfl⟩ : ∃ z, z = R4 := ⟨_, rfl⟩
  have hPc := hP
  have hDc := hD
  have hFc := va_free (wc := wM_ m0 m_g m_kept m_spare m_was m_text m_told cI mg mkept mspare mhasKept mwas mwasMany manew mthrown mtext mlength mspot mvalue merror mtold mtolds) hD hS hA [0, 1, 2, 3, 4, 5, 6] rfl
  refine va_calli (va_runV (As := [.int (mg ((370 + a1).toNatClampNeg)), .int (mg ((430 + a1).toNatClampNeg))]) (rest := []) ⟨hx, hb, hml, hown, hts⟩ (c_X6_valid l dC dI cI cZ cC cJ cD m0 m_g m_kept m_spare m_was m_text m_told s.heap.size mg mkept mspare mhasKept mwas mwasMany manew mthrown mtext mlength mspot mvalue merror mtold mtolds (mg ((370 + a1).toNatClampNeg)) (mg ((430 + a1).toNatClampNeg)) r3 g5) (cwV 2 hts gX6_versionOf_X6_valid rfl rfl rfl hs_X6_valid ⟨Nat.le_of_ble_eq_true rfl, Nat.le_of_ble_eq_true rfl⟩) (preV_ (ci := 8) (q0 := 0) hPc hK hDc rfl rfl rfl rfl) rfl rfl hl.1 rfl (lv_room (Nat.le_of_ble_eq_true rfl)) dX6_versionOf_21 ⟨Nat.le_of_ble_eq_true rfl, Nat.le_of_ble_eq_true rfl⟩) hS (fun q _ h => hFc q h) hFc (fun z7 u t H6 locs ht hvm hw hB hz1 hk1 hS => ?_)
  have hw : r3 = z7 := hw.symm
  subst hw
  obtain ⟨hP, hD⟩ := aft_ (Wr := []) (Wc' := wM_ m0 m_g m_kept m_spare m_was m_text m_told cI mg mkept mspare mhasKept mwas mwasMany manew mthrown mtext mlength mspot mvalue merror mtold mtolds) (W2 := wM_ m0 m_g m_kept m_spare m_was m_text m_told cI mg mkept mspare mhasKept mwas mwasMany manew mthrown mtext mlength mspot mvalue merror mtold mtolds) hP hD [0, 1, 2, 3, 4, 5, 6] [] [0, 1, 2, 3, 4, 5, 6] rfl rfl (by decide) (by decide) (by decide) hk1 hFc hB ht rfl
  have hR := Option.some.inj hf
  subst hR
  exact W.iret (v := r3) hx hb hr (fun t ht hW => ⟨⟨r3, (), rfl, rfl, by rw [ht]; exact hP, va_K.moved hW.alike hK, hD⟩, hS.F ht⟩) hS.2.2 dX6_versionOf_24
theorem hs_X6_versionOf : yX6_versionOf.cls = RX6 ∧ yX6_versionOf.cls ≠ "java/lang/invoke/MethodHandle" ∧ yX6_versionOf.cls ≠ "java/lang/invoke/VarHandle" ∧ (parseMethodDescriptor yX6_versionOf.desc).map (fun d => d.parameters.length) = some 1 := by decide +kernel
set_option maxRecDepth 20000 in
theorem in_X6_begins_X6 : ∀ w ∈ wsX60, w ∈ wsX6_begins := by decide +kernel
def f_X6_begins_S12 (k_ : Int32 → tM_ → Option (tM_)) (l1 : Int32) (M_ : tM_) : Option (tM_) :=
match M_ with
| (mg, mkept, mspare, mhasKept, mwas, mwasMany, manew, mthrown, mtext, mlength, mspot, mvalue, merror, mtold, mtolds) =>
if mwasMany ≤ l1 then
some (mg, mkept, mspare, mhasKept, mwas, mwasMany, manew, mthrown, mtext, mlength, mspot, mvalue, merror, mtold, mtolds)
else
bd_ (f_X6_versionOf l1 (mg, mkept, mspare, mhasKept, mwas, mwasMany, manew, mthrown, mtext, mlength, mspot, mvalue, merror, mtold, mtolds)) (fun r5 =>
gd_ l1 60 (nm_ (upd mwas l1.toNatClampNeg r5) (fun u12 =>
k_ (l1 + 1) (mg, mkept, mspare, mhasKept, u12, mwasMany, manew, mthrown, mtext, mlength, mspot, mvalue, merror, mtold, mtolds))))
def f_X6_begins_L12 : Nat → Int32 → tM_ → Option (tM_)
  | 0 => fun _ _ => none
  | n + 1 => fun l1 M_ => f_X6_begins_S12 (f_X6_begins_L12 n) l1 M_
def f_X6_begins  (M_ : tM_) : Option (tM_) :=
match M_ with
| (mg, mkept, mspare, mhasKept, mwas, mwasMany, manew, mthrown, mtext, mlength, mspot, mvalue, merror, mtold, mtolds) =>
gd_ (1 : Int32) 610 (
f_X6_begins_L12 fu_ (0 : Int32) (mg, mkept, mspare, mhasKept, mwas, mg ((1 : Int32).toNatClampNeg), manew, mthrown, mtext, mlength, mspot, mvalue, merror, mtold, mtolds))
abbrev rm_X6_begins : Room := { frames := 3, cells := 0, slots := 0, locals := 66 }
set_option maxHeartbeats 4000000 in
set_option maxRecDepth 100000 in
theorem c_X6_begins (l : Launch) (dC : Nat → ClassId) (dI : Nat → Nat → Nat) (cI cZ cC cJ cD : ClassId) (m0 m_g m_kept m_spare m_was m_text m_told : Nat) (sz : Nat) (mg : Nat → Int32) (mkept : Nat → Int32) (mspare : Nat → Int32) (mhasKept : Int32) (mwas : Nat → Int32) (mwasMany : Int32) (manew : Int32) (mthrown : Int32) (mtext : Nat → Int32) (mlength : Int32) (mspot : Int32) (mvalue : Int32) (merror : Int32) (mtold : Nat → Int32) (mtolds : Int32)  (R : tM_) (hf : f_X6_begins  (mg, mkept, mspare, mhasKept, mwas, mwasMany, manew, mthrown, mtext, mlength, mspot, mvalue, merror, mtold, mtolds) = some R) : Met l yX6_begins wsX6_begins rm_X6_begins (Pc_ (dC, dI) (ty_ cI cZ cC cJ cD) (wM_ m0 m_g m_kept m_spare m_was m_text m_told cI mg mkept mspare mhasKept mwas mwasMany manew mthrown mtext mlength mspot mvalue merror mtold mtolds) sz [.ref m0]) (Qv_ (dC, dI) (ty_ cI cZ cC cJ cD) (wM_ m0 m_g m_kept m_spare m_was m_text m_told cI R.1 R.2.1 R.2.2.1 R.2.2.2.1 R.2.2.2.2.1 R.2.2.2.2.2.1 R.2.2.2.2.2.2.1 R.2.2.2.2.2.2.2.1 R.2.2.2.2.2.2.2.2.1 R.2.2.2.2.2.2.2.2.2.1 R.2.2.2.2.2.2.2.2.2.2.1 R.2.2.2.2.2.2.2.2.2.2.2.1 R.2.2.2.2.2.2.2.2.2.2.2.2.1 R.2.2.2.2.2.2.2.2.2.2.2.2.2.1 R.2.2.2.2.2.2.2.2.2.2.2.2.2.2) (va_A (wM_ m0 m_g m_kept m_spare m_was m_text m_told cI mg mkept mspare mhasKept mwas mwasMany manew mthrown mtext mlength mspot mvalue merror mtold mtolds) sz)) 0 0 (va_A (wM_ m0 m_g m_kept m_spare m_was m_text m_told cI mg mkept mspare mhasKept mwas mwasMany manew mthrown mtext mlength mspot mvalue merror mtold mtolds) sz) := by
  refine met_ (cc := cX6_begins) (maxL := 2) (ret := none) (Qcf := fun A => Qv_ (dC, dI) (ty_ cI cZ cC cJ cD) (wM_ m0 m_g m_kept m_spare m_was m_text m_told cI R.1 R.2.1 R.2.2.1 R.2.2.2.1 R.2.2.2.2.1 R.2.2.2.2.2.1 R.2.2.2.2.2.2.1 R.2.2.2.2.2.2.2.1 R.2.2.2.2.2.2.2.2.1 R.2.2.2.2.2.2.2.2.2.1 R.2.2.2.2.2.2.2.2.2.2.1 R.2.2.2.2.2.2.2.2.2.2.2.1 R.2.2.2.2.2.2.2.2.2.2.2.2.1 R.2.2.2.2.2.2.2.2.2.2.2.2.2.1 R.2.2.2.2.2.2.2.2.2.2.2.2.2.2) A) (by decide) rfl (Nat.le_of_ble_eq_true rfl) ?_
  intro p e s m args below meth c A ls hx hb hr hts hown hlocks hml hA hP hK hD hl
  have hown : s.vm.findClass RX6 = some m.cls := hown
  have hl : lv_has ls 2 [(0, .ref m0)] := hl
  have hS : va_S A s.heap s.heap [] := va_S.rf
  have fl7_ : (Cond.fieldLink RX6 7 "DimensionLoaderModel" "g" "[I").before args s = true := hts _ (List.mem_of_getElem? (i := 1) rfl)
  have fl19_ : (Cond.fieldLink RX6 19 "DimensionLoaderModel" "was" "[I").before args s = true := hts _ (List.mem_of_getElem? (i := 3) rfl)
  have fl58_ : (Cond.fieldLink RX6 58 "DimensionLoaderModel" "wasMany" "I").before args s = true := hts _ (List.mem_of_getElem? (i := 2) rfl)
  have inX6_ : ∀ w ∈ wsX60, w ∈ wsX6_begins := in_X6_begins_X6
  unfold f_X6_begins at hf
  dsimp only at hf
  refine lv_aload_n hx hb dX6_begins_0 rfl (lv_at hl 0 rfl) ?_
  refine lv_aload_n hx hb dX6_begins_1 rfl (lv_at hl 0 rfl) ?_
  refine va_get (D := (dC, dI)) (ci := 8) (v := .ref m_g) (C := RX6) (T := TX6) (N := 15) hx hb hts inX6_ hown hK hP 0 rfl rfl 0 (by decide) fl7_ (fun _ h9 => h9) rfl dX6_begins_2 ?_
  refine lv_iconst (v := 1) hx hb dX6_begins_5 (by decide) ?_
  obtain ⟨h1, hf⟩ := gd_T hf
  refine va_iald hx hb hK hP 1 0 rfl rfl h1 dX6_begins_6 ?_
  refine va_put (D := (dC, dI)) (ci := 8) (v := .int (mg ((1 : Int32).toNatClampNeg))) (ty := .int) (C := RX6) (T := TX6) (N := 15) hx hb hts inX6_ tyX6 tyX6_ok nmX6 hown hK hP hD hS 0 rfl rfl 5 (by decide) fl58_ (fun _ h9 => h9) rfl (by decide +kernel) (by first | rfl | decide) (by first | rfl | decide) (Nat.le_of_ble_eq_true rfl) dX6_begins_7 (fun H2 locs hP hD hS => ?_)
  have hP : va_P (dC, dI) vwCl (wM_ m0 m_g m_kept m_spare m_was m_text m_told cI mg mkept mspare mhasKept mwas (mg ((1 : Int32).toNatClampNeg)) manew mthrown mtext mlength mspot mvalue merror mtold mtolds) H2 := hP
  have hD : va_D A (wM_ m0 m_g m_kept m_spare m_was m_text m_told cI mg mkept mspare mhasKept mwas (mg ((1 : Int32).toNatClampNeg)) manew mthrown mtext mlength mspot mvalue merror mtold mtolds) := hD
  refine lv_iconst (v := 0) hx hb dX6_begins_10 (by decide) ?_
  refine lv_istore_n (lv' := [(1, .int 0), (0, .ref m0)]) hx hb dX6_begins_11 rfl hl (by decide) rfl (fun ls hl => ?_)
  have lp12 : ∀ (n : Nat) (l1 : Int32) (mg : Nat → Int32) (mkept : Nat → Int32) (mspare : Nat → Int32) (mhasKept : Int32) (mwas : Nat → Int32) (mwasMany : Int32) (manew : Int32) (mthrown : Int32) (mtext : Nat → Int32) (mlength : Int32) (mspot : Int32) (mvalue : Int32) (merror : Int32) (mtold : Nat → Int32) (mtolds : Int32) (H3 : Heap) (locs : List Loc) (ls : Array Slot), f_X6_begins_L12 n l1 (mg, mkept, mspare, mhasKept, mwas, mwasMany, manew, mthrown, mtext, mlength, mspot, mvalue, merror, mtold, mtolds) = some R → va_P (dC, dI) vwCl (wM_ m0 m_g m_kept m_spare m_was m_text m_told cI mg mkept mspare mhasKept mwas mwasMany manew mthrown mtext mlength mspot mvalue merror mtold mtolds) H3 → va_D A (wM_ m0 m_g m_kept m_spare m_was m_text m_told cI mg mkept mspare mhasKept mwas mwasMany manew mthrown mtext mlength mspot mvalue merror mtold mtolds) → va_S A s.heap H3 locs → lv_has ls 2 [(1, .int l1), (0, .ref m0)] → W p l e (headSpec wsX6_begins rm_X6_begins).room s m args below meth c H3 locs 0 0 (MQ below (Qv_ (dC, dI) (ty_ cI cZ cC cJ cD) (wM_ m0 m_g m_kept m_spare m_was m_text m_told cI R.1 R.2.1 R.2.2.1 R.2.2.2.1 R.2.2.2.2.1 R.2.2.2.2.2.1 R.2.2.2.2.2.2.1 R.2.2.2.2.2.2.2.1 R.2.2.2.2.2.2.2.2.1 R.2.2.2.2.2.2.2.2.2.1 R.2.2.2.2.2.2.2.2.2.2.1 R.2.2.2.2.2.2.2.2.2.2.2.1 R.2.2.2.2.2.2.2.2.2.2.2.2.1 R.2.2.2.2.2.2.2.2.2.2.2.2.2.1 R.2.2.2.2.2.2.2.2.2.2.2.2.2.2) A) args s 0 0 A) (F0 m 12 ls []) := by
    intro n
    induction n with
    | zero => intro l1 mg mkept mspare mhasKept mwas mwasMany manew mthrown mtext mlength mspot mvalue merror mtold mtolds H3 locs ls hf hP hD hS hl; exact absurd hf (by simp [f_X6_begins_L12])
    | succ n ih =>
      intro l1 mg mkept mspare mhasKept mwas mwasMany manew mthrown mtext mlength mspot mvalue merror mtold mtolds H3 locs ls hf hP hD hS hl
      have hf : f_X6_begins_S12 (f_X6_begins_L12 n) l1 (mg, mkept, mspare, mhasKept, mwas, mwasMany, manew, mthrown, mtext, mlength, mspot, mvalue, merror, mtold, mtolds) = some R := hf
      unfold f_X6_begins_S12 at hf
      dsimp only at hf
      refine lv_iload_n hx hb dX6_begins_12 rfl (lv_at hl 0 rfl) ?_
      refine lv_aload_n hx hb dX6_begins_13 rfl (lv_at hl 1 rfl) ?_
      refine va_get (D := (dC, dI)) (ci := 8) (v := .int mwasMany) (C := RX6) (T := TX6) (N := 15) hx hb hts inX6_ hown hK hP 0 rfl rfl 5 (by decide) fl58_ (fun _ h9 => h9) rfl dX6_begins_14 ?_
      refine lv_icmp_ge (tgt := 37) hx hb dX6_begins_17 (by decide) (fun c4 => ?_) (fun c4 => ?_)
      · have hf := ite_T c4 hf
        have hR := Option.some.inj hf
        subst hR
        exact W.vret hx hb hr (fun t ht hW => ⟨⟨(), rfl, trivial, by rw [ht]; exact hP, va_K.moved hW.alike hK, hD⟩, hS.F ht⟩) hS.2.2 dX6_begins_37
      · have hf := ite_F c4 hf
        refine lv_aload_n hx hb dX6_begins_20 rfl (lv_at hl 1 rfl) ?_
        refine va_get (D := (dC, dI)) (ci := 8) (v := .ref m_was) (C := RX6) (T := TX6) (N := 15) hx hb hts inX6_ hown hK hP 0 rfl rfl 4 (by decide) fl19_ (fun _ h9 => h9) rfl dX6_begins_21 ?_
        refine lv_iload_n hx hb dX6_begins_24 rfl (lv_at hl 0 rfl) ?_
        refine lv_aload_n hx hb dX6_begins_25 rfl (lv_at hl 1 rfl) ?_
        refine lv_iload_n hx hb dX6_begins_26 rfl (lv_at hl 0 rfl) ?_
        obtain ⟨R6, g7, hf⟩ := bd_B hf
        obtain ⟨r5, rfl⟩ : ∃ z, z = R6 := ⟨_, rfl⟩
        have hPc := hP
        have hDc := hD
        have hFc := va_free (wc := wM_ m0 m_g m_kept m_spare m_was m_text m_told cI mg mkept mspare mhasKept mwas mwasMany manew mthrown mtext mlength mspot mvalue merror mtold mtolds) hD hS hA [0, 1, 2, 3, 4, 5, 6] rfl
        refine va_calli (va_runV (As := [.int l1]) (rest := [.int l1, .ref m_was]) ⟨hx, hb, hml, hown, hts⟩ (c_X6_versionOf l dC dI cI cZ cC cJ cD m0 m_g m_kept m_spare m_was m_text m_told H3.size mg mkept mspare mhasKept mwas mwasMany manew mthrown mtext mlength mspot mvalue merror mtold mtolds l1 r5 g7) (cwV 1 hts gX6_begins_X6_versionOf rfl rfl rfl hs_X6_versionOf ⟨Nat.le_of_ble_eq_true rfl, Nat.le_of_ble_eq_true rfl⟩) (preV_ (ci := 8) (q0 := 0) hPc hK hDc rfl rfl rfl rfl) rfl rfl hl.1 rfl (lv_room (Nat.le_of_ble_eq_true rfl)) dX6_begins_27 ⟨Nat.le_of_ble_eq_true rfl, Nat.le_of_ble_eq_true rfl⟩) hS (fun q _ h => hFc q h) hFc (fun z9 u t H8 locs ht hvm hw hB hz1 hk1 hS => ?_)
        have hw : r5 = z9 := hw.symm
        subst hw
        obtain ⟨hP, hD⟩ := aft_ (Wr := []) (Wc' := wM_ m0 m_g m_kept m_spare m_was m_text m_told cI mg mkept mspare mhasKept mwas mwasMany manew mthrown mtext mlength mspot mvalue merror mtold mtolds) (W2 := wM_ m0 m_g m_kept m_spare m_was m_text m_told cI mg mkept mspare mhasKept mwas mwasMany manew mthrown mtext mlength mspot mvalue merror mtold mtolds) hP hD [0, 1, 2, 3, 4, 5, 6] [] [0, 1, 2, 3, 4, 5, 6] rfl rfl (by decide) (by decide) (by decide) hk1 hFc hB ht rfl
        obtain ⟨h10, hf⟩ := gd_T hf
        refine va_iast hx hb hK hP hD hS 4 0 rfl rfl h10 dX6_begins_30 (fun H11 locs hP hD hS => ?_)
        have hP : va_P (dC, dI) vwCl (wM_ m0 m_g m_kept m_spare m_was m_text m_told cI mg mkept mspare mhasKept (upd mwas l1.toNatClampNeg r5) mwasMany manew mthrown mtext mlength mspot mvalue merror mtold mtolds) H11 := hP
        have hD : va_D A (wM_ m0 m_g m_kept m_spare m_was m_text m_told cI mg mkept mspare mhasKept (upd mwas l1.toNatClampNeg r5) mwasMany manew mthrown mtext mlength mspot mvalue merror mtold mtolds) := hD
        obtain ⟨u12, e13, hf⟩ := nm_T hf
        rw [← e13] at hP hD
        refine lv_iinc (v := l1 + 1) (lv' := [(1, .int (l1 + 1)), (0, .ref m0)]) hx hb dX6_begins_31 hl (k := 0) rfl (by first | rfl | decide) (by decide) rfl (fun ls hl => ?_)
        refine lv_goto (tgt := 12) hx hb dX6_begins_34 (by decide) ?_
        exact ih (l1 + 1) mg mkept mspare mhasKept u12 mwasMany manew mthrown mtext mlength mspot mvalue merror mtold mtolds _ _ _ hf hP hD hS (lv_sub hl [0, 1] rfl)
  exact lp12 fu_ (0 : Int32) mg mkept mspare mhasKept mwas (mg ((1 : Int32).toNatClampNeg)) manew mthrown mtext mlength mspot mvalue merror mtold mtolds _ _ _ hf hP hD hS hl
theorem hs_X6_begins : yX6_begins.cls = RX6 ∧ yX6_begins.cls ≠ "java/lang/invoke/MethodHandle" ∧ yX6_begins.cls ≠ "java/lang/invoke/VarHandle" ∧ (parseMethodDescriptor yX6_begins.desc).map (fun d => d.parameters.length) = some 0 := by decide +kernel
set_option maxRecDepth 20000 in
theorem in_X6_ends_X6 : ∀ w ∈ wsX60, w ∈ wsX6_ends := by decide +kernel
def f_X6_ends_S7 (k_ : Int32 → tM_ → Option (tM_)) (l1 : Int32) (M_ : tM_) : Option (tM_) :=
match M_ with
| (mg, mkept, mspare, mhasKept, mwas, mwasMany, manew, mthrown, mtext, mlength, mspot, mvalue, merror, mtold, mtolds) =>
if mwasMany ≤ l1 then
some (mg, mkept, mspare, mhasKept, mwas, mwasMany, manew, mthrown, mtext, mlength, mspot, mvalue, merror, mtold, mtolds)
else
gd_ l1 60 (
bd_ (f_X6_versionOf l1 (mg, mkept, mspare, mhasKept, mwas, mwasMany, manew, mthrown, mtext, mlength, mspot, mvalue, merror, mtold, mtolds)) (fun r5 =>
if (mwas l1.toNatClampNeg) = r5 then
k_ (l1 + 1) (mg, mkept, mspare, mhasKept, mwas, mwasMany, manew + 0, mthrown, mtext, mlength, mspot, mvalue, merror, mtold, mtolds)
else
k_ (l1 + 1) (mg, mkept, mspare, mhasKept, mwas, mwasMany, manew + 1, mthrown, mtext, mlength, mspot, mvalue, merror, mtold, mtolds)))
def f_X6_ends_L7 : Nat → Int32 → tM_ → Option (tM_)
  | 0 => fun _ _ => none
  | n + 1 => fun l1 M_ => f_X6_ends_S7 (f_X6_ends_L7 n) l1 M_
def f_X6_ends  (M_ : tM_) : Option (tM_) :=
match M_ with
| (mg, mkept, mspare, mhasKept, mwas, mwasMany, manew, mthrown, mtext, mlength, mspot, mvalue, merror, mtold, mtolds) =>
f_X6_ends_L7 fu_ (0 : Int32) (mg, mkept, mspare, mhasKept, mwas, mwasMany, 0, mthrown, mtext, mlength, mspot, mvalue, merror, mtold, mtolds)
abbrev rm_X6_ends : Room := { frames := 3, cells := 0, slots := 0, locals := 66 }
set_option maxHeartbeats 4000000 in
set_option maxRecDepth 100000 in
theorem c_X6_ends (l : Launch) (dC : Nat → ClassId) (dI : Nat → Nat → Nat) (cI cZ cC cJ cD : ClassId) (m0 m_g m_kept m_spare m_was m_text m_told : Nat) (sz : Nat) (mg : Nat → Int32) (mkept : Nat → Int32) (mspare : Nat → Int32) (mhasKept : Int32) (mwas : Nat → Int32) (mwasMany : Int32) (manew : Int32) (mthrown : Int32) (mtext : Nat → Int32) (mlength : Int32) (mspot : Int32) (mvalue : Int32) (merror : Int32) (mtold : Nat → Int32) (mtolds : Int32)  (R : tM_) (hf : f_X6_ends  (mg, mkept, mspare, mhasKept, mwas, mwasMany, manew, mthrown, mtext, mlength, mspot, mvalue, merror, mtold, mtolds) = some R) : Met l yX6_ends wsX6_ends rm_X6_ends (Pc_ (dC, dI) (ty_ cI cZ cC cJ cD) (wM_ m0 m_g m_kept m_spare m_was m_text m_told cI mg mkept mspare mhasKept mwas mwasMany manew mthrown mtext mlength mspot mvalue merror mtold mtolds) sz [.ref m0]) (Qv_ (dC, dI) (ty_ cI cZ cC cJ cD) (wM_ m0 m_g m_kept m_spare m_was m_text m_told cI R.1 R.2.1 R.2.2.1 R.2.2.2.1 R.2.2.2.2.1 R.2.2.2.2.2.1 R.2.2.2.2.2.2.1 R.2.2.2.2.2.2.2.1 R.2.2.2.2.2.2.2.2.1 R.2.2.2.2.2.2.2.2.2.1 R.2.2.2.2.2.2.2.2.2.2.1 R.2.2.2.2.2.2.2.2.2.2.2.1 R.2.2.2.2.2.2.2.2.2.2.2.2.1 R.2.2.2.2.2.2.2.2.2.2.2.2.2.1 R.2.2.2.2.2.2.2.2.2.2.2.2.2.2) (va_A (wM_ m0 m_g m_kept m_spare m_was m_text m_told cI mg mkept mspare mhasKept mwas mwasMany manew mthrown mtext mlength mspot mvalue merror mtold mtolds) sz)) 0 0 (va_A (wM_ m0 m_g m_kept m_spare m_was m_text m_told cI mg mkept mspare mhasKept mwas mwasMany manew mthrown mtext mlength mspot mvalue merror mtold mtolds) sz) := by
  refine met_ (cc := cX6_ends) (maxL := 2) (ret := none) (Qcf := fun A => Qv_ (dC, dI) (ty_ cI cZ cC cJ cD) (wM_ m0 m_g m_kept m_spare m_was m_text m_told cI R.1 R.2.1 R.2.2.1 R.2.2.2.1 R.2.2.2.2.1 R.2.2.2.2.2.1 R.2.2.2.2.2.2.1 R.2.2.2.2.2.2.2.1 R.2.2.2.2.2.2.2.2.1 R.2.2.2.2.2.2.2.2.2.1 R.2.2.2.2.2.2.2.2.2.2.1 R.2.2.2.2.2.2.2.2.2.2.2.1 R.2.2.2.2.2.2.2.2.2.2.2.2.1 R.2.2.2.2.2.2.2.2.2.2.2.2.2.1 R.2.2.2.2.2.2.2.2.2.2.2.2.2.2) A) (by decide) rfl (Nat.le_of_ble_eq_true rfl) ?_
  intro p e s m args below meth c A ls hx hb hr hts hown hlocks hml hA hP hK hD hl
  have hown : s.vm.findClass RX6 = some m.cls := hown
  have hl : lv_has ls 2 [(0, .ref m0)] := hl
  have hS : va_S A s.heap s.heap [] := va_S.rf
  have fl19_ : (Cond.fieldLink RX6 19 "DimensionLoaderModel" "was" "[I").before args s = true := hts _ (List.mem_of_getElem? (i := 3) rfl)
  have fl58_ : (Cond.fieldLink RX6 58 "DimensionLoaderModel" "wasMany" "I").before args s = true := hts _ (List.mem_of_getElem? (i := 2) rfl)
  have fl65_ : (Cond.fieldLink RX6 65 "DimensionLoaderModel" "anew" "I").before args s = true := hts _ (List.mem_of_getElem? (i := 1) rfl)
  have inX6_ : ∀ w ∈ wsX60, w ∈ wsX6_ends := in_X6_ends_X6
  unfold f_X6_ends at hf
  dsimp only at hf
  refine lv_aload_n hx hb dX6_ends_0 rfl (lv_at hl 0 rfl) ?_
  refine lv_iconst (v := 0) hx hb dX6_ends_1 (by decide) ?_
  refine va_put (D := (dC, dI)) (ci := 8) (v := .int 0) (ty := .int) (C := RX6) (T := TX6) (N := 15) hx hb hts inX6_ tyX6 tyX6_ok nmX6 hown hK hP hD hS 0 rfl rfl 6 (by decide) fl65_ (fun _ h9 => h9) rfl (by decide +kernel) (by first | rfl | decide) (by first | rfl | decide) (Nat.le_of_ble_eq_true rfl) dX6_ends_2 (fun H1 locs hP hD hS => ?_)
  have hP : va_P (dC, dI) vwCl (wM_ m0 m_g m_kept m_spare m_was m_text m_told cI mg mkept mspare mhasKept mwas mwasMany 0 mthrown mtext mlength mspot mvalue merror mtold mtolds) H1 := hP
  have hD : va_D A (wM_ m0 m_g m_kept m_spare m_was m_text m_told cI mg mkept mspare mhasKept mwas mwasMany 0 mthrown mtext mlength mspot mvalue merror mtold mtolds) := hD
  refine lv_iconst (v := 0) hx hb dX6_ends_5 (by decide) ?_
  refine lv_istore_n (lv' := [(1, .int 0), (0, .ref m0)]) hx hb dX6_ends_6 rfl hl (by decide) rfl (fun ls hl => ?_)
  have lp7 : ∀ (n : Nat) (l1 : Int32) (mg : Nat → Int32) (mkept : Nat → Int32) (mspare : Nat → Int32) (mhasKept : Int32) (mwas : Nat → Int32) (mwasMany : Int32) (manew : Int32) (mthrown : Int32) (mtext : Nat → Int32) (mlength : Int32) (mspot : Int32) (mvalue : Int32) (merror : Int32) (mtold : Nat → Int32) (mtolds : Int32) (H2 : Heap) (locs : List Loc) (ls : Array Slot), f_X6_ends_L7 n l1 (mg, mkept, mspare, mhasKept, mwas, mwasMany, manew, mthrown, mtext, mlength, mspot, mvalue, merror, mtold, mtolds) = some R → va_P (dC, dI) vwCl (wM_ m0 m_g m_kept m_spare m_was m_text m_told cI mg mkept mspare mhasKept mwas mwasMany manew mthrown mtext mlength mspot mvalue merror mtold mtolds) H2 → va_D A (wM_ m0 m_g m_kept m_spare m_was m_text m_told cI mg mkept mspare mhasKept mwas mwasMany manew mthrown mtext mlength mspot mvalue merror mtold mtolds) → va_S A s.heap H2 locs → lv_has ls 2 [(1, .int l1), (0, .ref m0)] → W p l e (headSpec wsX6_ends rm_X6_ends).room s m args below meth c H2 locs 0 0 (MQ below (Qv_ (dC, dI) (ty_ cI cZ cC cJ cD) (wM_ m0 m_g m_kept m_spare m_was m_text m_told cI R.1 R.2.1 R.2.2.1 R.2.2.2.1 R.2.2.2.2.1 R.2.2.2.2.2.1 R.2.2.2.2.2.2.1 R.2.2.2.2.2.2.2.1 R.2.2.2.2.2.2.2.2.1 R.2.2.2.2.2.2.2.2.2.1 R.2.2.2.2.2.2.2.2.2.2.1 R.2.2.2.2.2.2.2.2.2.2.2.1 R.2.2.2.2.2.2.2.2.2.2.2.2.1 R.2.2.2.2.2.2.2.2.2.2.2.2.2.1 R.2.2.2.2.2.2.2.2.2.2.2.2.2.2) A) args s 0 0 A) (F0 m 7 ls []) := by
    intro n
    induction n with
    | zero => intro l1 mg mkept mspare mhasKept mwas mwasMany manew mthrown mtext mlength mspot mvalue merror mtold mtolds H2 locs ls hf hP hD hS hl; exact absurd hf (by simp [f_X6_ends_L7])
    | succ n ih =>
      intro l1 mg mkept mspare mhasKept mwas mwasMany manew mthrown mtext mlength mspot mvalue merror mtold mtolds H2 locs ls hf hP hD hS hl
      have hf : f_X6_ends_S7 (f_X6_ends_L7 n) l1 (mg, mkept, mspare, mhasKept, mwas, mwasMany, manew, mthrown, mtext, mlength, mspot, mvalue, merror, mtold, mtolds) = some R := hf
      unfold f_X6_ends_S7 at hf
      dsimp only at hf
      refine lv_iload_n hx hb dX6_ends_7 rfl (lv_at hl 0 rfl) ?_
      refine lv_aload_n hx hb dX6_ends_8 rfl (lv_at hl 1 rfl) ?_
      refine va_get (D := (dC, dI)) (ci := 8) (v := .int mwasMany) (C := RX6) (T := TX6) (N := 15) hx hb hts inX6_ hown hK hP 0 rfl rfl 5 (by decide) fl58_ (fun _ h9 => h9) rfl dX6_ends_9 ?_
      refine lv_icmp_ge (tgt := 49) hx hb dX6_ends_12 (by decide) (fun c3 => ?_) (fun c3 => ?_)
      · have hf := ite_T c3 hf
        have hR := Option.some.inj hf
        subst hR
        exact W.vret hx hb hr (fun t ht hW => ⟨⟨(), rfl, trivial, by rw [ht]; exact hP, va_K.moved hW.alike hK, hD⟩, hS.F ht⟩) hS.2.2 dX6_ends_49
      · have hf := ite_F c3 hf
        refine lv_aload_n hx hb dX6_ends_15 rfl (lv_at hl 1 rfl) ?_
        refine lv_dup hx hb dX6_ends_16 rfl ?_
        refine va_get (D := (dC, dI)) (ci := 8) (v := .int manew) (C := RX6) (T := TX6) (N := 15) hx hb hts inX6_ hown hK hP 0 rfl rfl 6 (by decide) fl65_ (fun _ h9 => h9) rfl dX6_ends_17 ?_
        refine lv_aload_n hx hb dX6_ends_20 rfl (lv_at hl 1 rfl) ?_
        refine va_get (D := (dC, dI)) (ci := 8) (v := .ref m_was) (C := RX6) (T := TX6) (N := 15) hx hb hts inX6_ hown hK hP 0 rfl rfl 4 (by decide) fl19_ (fun _ h9 => h9) rfl dX6_ends_21 ?_
        refine lv_iload_n hx hb dX6_ends_24 rfl (lv_at hl 0 rfl) ?_
        obtain ⟨h4, hf⟩ := gd_T hf
        refine va_iald hx hb hK hP 4 0 rfl rfl h4 dX6_ends_25 ?_
        refine lv_aload_n hx hb dX6_ends_26 rfl (lv_at hl 1 rfl) ?_
        refine lv_iload_n hx hb dX6_ends_27 rfl (lv_at hl 0 rfl) ?_
        obtain ⟨R6, g7, hf⟩ := bd_B hf
        obtain ⟨r5, rfl⟩ : ∃ z, z = R6 := ⟨_, rfl⟩
        have hPc := hP
        have hDc := hD
        have hFc := va_free (wc := wM_ m0 m_g m_kept m_spare m_was m_text m_told cI mg mkept mspare mhasKept mwas mwasMany manew mthrown mtext mlength mspot mvalue merror mtold mtolds) hD hS hA [0, 1, 2, 3, 4, 5, 6] rfl
        refine va_calli (va_runV (As := [.int l1]) (rest := [.int (mwas l1.toNatClampNeg), .int manew, .ref m0]) ⟨hx, hb, hml, hown, hts⟩ (c_X6_versionOf l dC dI cI cZ cC cJ cD m0 m_g m_kept m_spare m_was m_text m_told H2.size mg mkept mspare mhasKept mwas mwasMany manew mthrown mtext mlength mspot mvalue merror mtold mtolds l1 r5 g7) (cwV 1 hts gX6_ends_X6_versionOf rfl rfl rfl hs_X6_versionOf ⟨Nat.le_of_ble_eq_true rfl, Nat.le_of_ble_eq_true rfl⟩) (preV_ (ci := 8) (q0 := 0) hPc hK hDc rfl rfl rfl rfl) rfl rfl hl.1 rfl (lv_room (Nat.le_of_ble_eq_true rfl)) dX6_ends_28 ⟨Nat.le_of_ble_eq_true rfl, Nat.le_of_ble_eq_true rfl⟩) hS (fun q _ h => hFc q h) hFc (fun z9 u t H8 locs ht hvm hw hB hz1 hk1 hS => ?_)
        have hw : r5 = z9 := hw.symm
        subst hw
        obtain ⟨hP, hD⟩ := aft_ (Wr := []) (Wc' := wM_ m0 m_g m_kept m_spare m_was m_text m_told cI mg mkept mspare mhasKept mwas mwasMany manew mthrown mtext mlength mspot mvalue merror mtold mtolds) (W2 := wM_ m0 m_g m_kept m_spare m_was m_text m_told cI mg mkept mspare mhasKept mwas mwasMany manew mthrown mtext mlength mspot mvalue merror mtold mtolds) hP hD [0, 1, 2, 3, 4, 5, 6] [] [0, 1, 2, 3, 4, 5, 6] rfl rfl (by decide) (by decide) (by decide) hk1 hFc hB ht rfl
        refine lv_icmp_ne (tgt := 38) hx hb dX6_ends_31 (by decide) (fun c10 => ?_) (fun c10 => ?_)
        · have hf := ite_F c10 hf
          refine lv_iconst (v := 1) hx hb dX6_ends_38 (by decide) ?_
          refine lv_iadd hx hb dX6_ends_39 ?_
          refine va_put (D := (dC, dI)) (ci := 8) (v := .int (manew + 1)) (ty := .int) (C := RX6) (T := TX6) (N := 15) hx hb hts inX6_ tyX6 tyX6_ok nmX6 hown hK hP hD hS 0 rfl rfl 6 (by decide) fl65_ (fun _ h9 => h9) rfl (by decide +kernel) (by first | rfl | decide) (by first | rfl | decide) (Nat.le_of_ble_eq_true rfl) dX6_ends_40 (fun H11 locs hP hD hS => ?_)
          have hP : va_P (dC, dI) vwCl (wM_ m0 m_g m_kept m_spare m_was m_text m_told cI mg mkept mspare mhasKept mwas mwasMany (manew + 1) mthrown mtext mlength mspot mvalue merror mtold mtolds) H11 := hP
          have hD : va_D A (wM_ m0 m_g m_kept m_spare m_was m_text m_told cI mg mkept mspare mhasKept mwas mwasMany (manew + 1) mthrown mtext mlength mspot mvalue merror mtold mtolds) := hD
          refine lv_iinc (v := l1 + 1) (lv' := [(1, .int (l1 + 1)), (0, .ref m0)]) hx hb dX6_ends_43 hl (k := 0) rfl (by first | rfl | decide) (by decide) rfl (fun ls hl => ?_)
          refine lv_goto (tgt := 7) hx hb dX6_ends_46 (by decide) ?_
          exact ih (l1 + 1) mg mkept mspare mhasKept mwas mwasMany (manew + 1) mthrown mtext mlength mspot mvalue merror mtold mtolds _ _ _ hf hP hD hS (lv_sub hl [0, 1] rfl)
        · have hf := ite_T c10 hf
          refine lv_iconst (v := 0) hx hb dX6_ends_34 (by decide) ?_
          refine lv_goto (tgt := 39) hx hb dX6_ends_35 (by decide) ?_
          refine lv_iadd hx hb dX6_ends_39 ?_
          refine va_put (D := (dC, dI)) (ci := 8) (v := .int (manew + 0)) (ty := .int) (C := RX6) (T := TX6) (N := 15) hx hb hts inX6_ tyX6 tyX6_ok nmX6 hown hK hP hD hS 0 rfl rfl 6 (by decide) fl65_ (fun _ h9 => h9) rfl (by decide +kernel) (by first | rfl | decide) (by first | rfl | decide) (Nat.le_of_ble_eq_true rfl) dX6_ends_40 (fun H12 locs hP hD hS => ?_)
          have hP : va_P (dC, dI) vwCl (wM_ m0 m_g m_kept m_spare m_was m_text m_told cI mg mkept mspare mhasKept mwas mwasMany (manew + 0) mthrown mtext mlength mspot mvalue merror mtold mtolds) H12 := hP
          have hD : va_D A (wM_ m0 m_g m_kept m_spare m_was m_text m_told cI mg mkept mspare mhasKept mwas mwasMany (manew + 0) mthrown mtext mlength mspot mvalue merror mtold mtolds) := hD
          refine lv_iinc (v := l1 + 1) (lv' := [(1, .int (l1 + 1)), (0, .ref m0)]) hx hb dX6_ends_43 hl (k := 0) rfl (by first | rfl | decide) (by decide) rfl (fun ls hl => ?_)
          refine lv_goto (tgt := 7) hx hb dX6_ends_46 (by decide) ?_
          exact ih (l1 + 1) mg mkept mspare mhasKept mwas mwasMany (manew + 0) mthrown mtext mlength mspot mvalue merror mtold mtolds _ _ _ hf hP hD hS (lv_sub hl [0, 1] rfl)
  exact lp7 fu_ (0 : Int32) mg mkept mspare mhasKept mwas mwasMany (0 : Int32) mthrown mtext mlength mspot mvalue merror mtold mtolds _ _ _ hf hP hD hS hl
theorem hs_X6_ends : yX6_ends.cls = RX6 ∧ yX6_ends.cls ≠ "java/lang/invoke/MethodHandle" ∧ yX6_ends.cls ≠ "java/lang/invoke/VarHandle" ∧ (parseMethodDescriptor yX6_ends.desc).map (fun d => d.parameters.length) = some 0 := by decide +kernel
set_option maxRecDepth 20000 in
theorem in_X6_change_X6 : ∀ w ∈ wsX60, w ∈ wsX6_change := by decide +kernel
def f_X6_change (a1 : Int32) (a2 : Int32) (a3 : Int32) (M_ : tM_) : Option (Int32 × tM_) :=
match M_ with
| (mg, mkept, mspare, mhasKept, mwas, mwasMany, manew, mthrown, mtext, mlength, mspot, mvalue, merror, mtold, mtolds) =>
bd_ (f_X6_isKey a1) (fun r1 =>
if r1 = 0 then
some ((0 : Int32), (mg, mkept, mspare, mhasKept, mwas, mwasMany, manew, 1, mtext, mlength, mspot, mvalue, merror, mtold, mtolds))
else
bd_ (f_X6_isDay a2) (fun r8 =>
if r8 = 0 then
some ((0 : Int32), (mg, mkept, mspare, mhasKept, mwas, mwasMany, manew, 2, mtext, mlength, mspot, mvalue, merror, mtold, mtolds))
else
bd_ (f_X6_begins (mg, mkept, mspare, mhasKept, mwas, mwasMany, manew, 0, mtext, mlength, mspot, mvalue, merror, mtold, mtolds)) (fun (mg16, mk17, ms18, mh19, mw20, mw21, ma22, mt23, mt24, ml25, ms26, mv27, me28, mt29, mt30) =>
bd_ (f_X6_changes a1 a2 a3 (mg16, mk17, ms18, mh19, mw20, mw21, ma22, mt23, mt24, ml25, ms26, mv27, me28, mt29, mt30)) (fun (r35, (mg36, mk37, ms38, mh39, mw40, mw41, ma42, mt43, mt44, ml45, ms46, mv47, me48, mt49, mt50)) =>
if 0 ≤ r35 then
bd_ (f_X6_ends (mg36, mk37, ms38, mh39, mw40, mw41, ma42, mt43, mt44, ml45, ms46, mv47, me48, mt49, mt50)) (fun (mg56, mk57, ms58, mh59, mw60, mw61, ma62, mt63, mt64, ml65, ms66, mv67, me68, mt69, mt70) =>
some (r35, (mg56, mk57, ms58, mh59, mw60, mw61, ma62, mt63, mt64, ml65, ms66, mv67, me68, mt69, mt70)))
else
bd_ (f_X6_fails (3 : Int32) (mg36, mk37, ms38, mh39, mw40, mw41, ma42, mt43, mt44, ml45, ms46, mv47, me48, mt49, mt50)) (fun (r75, (mg76, mk77, ms78, mh79, mw80, mw81, ma82, mt83, mt84, ml85, ms86, mv87, me88, mt89, mt90)) =>
some (r75, (mg76, mk77, ms78, mh79, mw80, mw81, ma82, mt83, mt84, ml85, ms86, mv87, me88, mt89, mt90)))))))
abbrev rm_X6_change : Room := { frames := 4, cells := 0, slots := 0, locals := 87 }
set_option maxHeartbeats 4000000 in
set_option maxRecDepth 100000 in
theorem c_X6_change (l : Launch) (dC : Nat → ClassId) (dI : Nat → Nat → Nat) (cI cZ cC cJ cD : ClassId) (m0 m_g m_kept m_spare m_was m_text m_told : Nat) (sz : Nat) (mg : Nat → Int32) (mkept : Nat → Int32) (mspare : Nat → Int32) (mhasKept : Int32) (mwas : Nat → Int32) (mwasMany : Int32) (manew : Int32) (mthrown : Int32) (mtext : Nat → Int32) (mlength : Int32) (mspot : Int32) (mvalue : Int32) (merror : Int32) (mtold : Nat → Int32) (mtolds : Int32) (a1 : Int32) (a2 : Int32) (a3 : Int32) (R : Int32 × tM_) (hf : f_X6_change a1 a2 a3 (mg, mkept, mspare, mhasKept, mwas, mwasMany, manew, mthrown, mtext, mlength, mspot, mvalue, merror, mtold, mtolds) = some R) : Met l yX6_change wsX6_change rm_X6_change (Pc_ (dC, dI) (ty_ cI cZ cC cJ cD) (wM_ m0 m_g m_kept m_spare m_was m_text m_told cI mg mkept mspare mhasKept mwas mwasMany manew mthrown mtext mlength mspot mvalue merror mtold mtolds) sz [.ref m0, .int a1, .int a2, .int a3]) (Qi_ (dC, dI) (ty_ cI cZ cC cJ cD) R.1 (wM_ m0 m_g m_kept m_spare m_was m_text m_told cI R.2.1 R.2.2.1 R.2.2.2.1 R.2.2.2.2.1 R.2.2.2.2.2.1 R.2.2.2.2.2.2.1 R.2.2.2.2.2.2.2.1 R.2.2.2.2.2.2.2.2.1 R.2.2.2.2.2.2.2.2.2.1 R.2.2.2.2.2.2.2.2.2.2.1 R.2.2.2.2.2.2.2.2.2.2.2.1 R.2.2.2.2.2.2.2.2.2.2.2.2.1 R.2.2.2.2.2.2.2.2.2.2.2.2.2.1 R.2.2.2.2.2.2.2.2.2.2.2.2.2.2.1 R.2.2.2.2.2.2.2.2.2.2.2.2.2.2.2) (va_A (wM_ m0 m_g m_kept m_spare m_was m_text m_told cI mg mkept mspare mhasKept mwas mwasMany manew mthrown mtext mlength mspot mvalue merror mtold mtolds) sz)) 0 0 (va_A (wM_ m0 m_g m_kept m_spare m_was m_text m_told cI mg mkept mspare mhasKept mwas mwasMany manew mthrown mtext mlength mspot mvalue merror mtold mtolds) sz) := by
  refine met_ (cc := cX6_change) (maxL := 5) (ret := (some .int)) (Qcf := fun A => Qi_ (dC, dI) (ty_ cI cZ cC cJ cD) R.1 (wM_ m0 m_g m_kept m_spare m_was m_text m_told cI R.2.1 R.2.2.1 R.2.2.2.1 R.2.2.2.2.1 R.2.2.2.2.2.1 R.2.2.2.2.2.2.1 R.2.2.2.2.2.2.2.1 R.2.2.2.2.2.2.2.2.1 R.2.2.2.2.2.2.2.2.2.1 R.2.2.2.2.2.2.2.2.2.2.1 R.2.2.2.2.2.2.2.2.2.2.2.1 R.2.2.2.2.2.2.2.2.2.2.2.2.1 R.2.2.2.2.2.2.2.2.2.2.2.2.2.1 R.2.2.2.2.2.2.2.2.2.2.2.2.2.2.1 R.2.2.2.2.2.2.2.2.2.2.2.2.2.2.2) A) (by decide) rfl (Nat.le_of_ble_eq_true rfl) ?_
  intro p e s m args below meth c A ls hx hb hr hts hown hlocks hml hA hP hK hD hl
  have hown : s.vm.findClass RX6 = some m.cls := hown
  have hl : lv_has ls 5 [(0, .ref m0), (1, .int a1), (2, .int a2), (3, .int a3)] := hl
  have hS : va_S A s.heap s.heap [] := va_S.rf
  have fl32_ : (Cond.fieldLink RX6 32 "DimensionLoaderModel" "thrown" "I").before args s = true := hts _ (List.mem_of_getElem? (i := 1) rfl)
  have inX6_ : ∀ w ∈ wsX60, w ∈ wsX6_change := in_X6_change_X6
  unfold f_X6_change at hf
  dsimp only at hf
  refine lv_aload_n hx hb dX6_change_0 rfl (lv_at hl 0 rfl) ?_
  refine lv_iload_n hx hb dX6_change_1 rfl (lv_at hl 1 rfl) ?_
  obtain ⟨R2, g3, hf⟩ := bd_B hf
  obtain ⟨r1, rfl⟩ : ∃ z, z = R2 := ⟨_, rfl⟩
  have hPc := hP.sub (ws' := []) [] rfl
  have hDc := hD.sub (ws' := []) [] (by decide) rfl
  have hFc := va_free (wc := []) hD hS hA [] rfl
  refine va_calli (va_runS (As := [.int a1]) (rest := [.ref m0]) ⟨hx, hb, hml, hown, hts⟩ (c_X6_isKey l dC dI cI cZ cC cJ cD s.heap.size a1 r1 g3) (cwS 1 hts gX6_change_X6_isKey rfl rfl rfl hs_X6_isKey ⟨Nat.le_of_ble_eq_true rfl, Nat.le_of_ble_eq_true rfl⟩) (preS_ hPc hK hDc rfl) rfl rfl hl.1 rfl (lv_room (Nat.le_of_ble_eq_true rfl)) dX6_change_2 ⟨Nat.le_of_ble_eq_true rfl, Nat.le_of_ble_eq_true rfl⟩) hS (fun q _ h => hFc q h) hFc (fun z5 u t H4 locs ht hvm hw hB hz1 hk1 hS => ?_)
  have hw : r1 = z5 := hw.symm
  subst hw
  obtain ⟨hP, hD⟩ := aft_ (Wr := wM_ m0 m_g m_kept m_spare m_was m_text m_told cI mg mkept mspare mhasKept mwas mwasMany manew mthrown mtext mlength mspot mvalue merror mtold mtolds) (Wc' := []) (W2 := wM_ m0 m_g m_kept m_spare m_was m_text m_told cI mg mkept mspare mhasKept mwas mwasMany manew mthrown mtext mlength mspot mvalue merror mtold mtolds) hP hD [] [0, 1, 2, 3, 4, 5, 6] [0, 1, 2, 3, 4, 5, 6] rfl rfl (by decide) (by decide) (by decide) hk1 hFc hB ht rfl
  refine lv_if_eq (tgt := 23) hx hb dX6_change_5 (by decide) (fun c6 => ?_) (fun c6 => ?_)
  · have hf := ite_T c6 hf
    refine lv_iconst (v := 1) hx hb dX6_change_23 (by decide) ?_
    refine va_put (D := (dC, dI)) (ci := 8) (v := .int 1) (ty := .int) (C := RX6) (T := TX6) (N := 15) hx hb hts inX6_ tyX6 tyX6_ok nmX6 hown hK hP hD hS 0 rfl rfl 7 (by decide) fl32_ (fun _ h9 => h9) rfl (by decide +kernel) (by first | rfl | decide) (by first | rfl | decide) (Nat.le_of_ble_eq_true rfl) dX6_change_24 (fun H7 locs hP hD hS => ?_)
    have hP : va_P (dC, dI) vwCl (wM_ m0 m_g m_kept m_spare m_was m_text m_told cI mg mkept mspare mhasKept mwas mwasMany manew 1 mtext mlength mspot mvalue merror mtold mtolds) H7 := hP
    have hD : va_D A (wM_ m0 m_g m_kept m_spare m_was m_text m_told cI mg mkept mspare mhasKept mwas mwasMany manew 1 mtext mlength mspot mvalue merror mtold mtolds) := hD
    refine lv_aload_n hx hb dX6_change_27 rfl (lv_at hl 0 rfl) ?_
    refine va_get (D := (dC, dI)) (ci := 8) (v := .int 1) (C := RX6) (T := TX6) (N := 15) hx hb hts inX6_ hown hK hP 0 rfl rfl 7 (by decide) fl32_ (fun _ h9 => h9) rfl dX6_change_28 ?_
    refine lv_if_le (tgt := 36) hx hb dX6_change_31 (by decide) (fun c9 => absurd c9 (by decide)) (fun _ => ?_)
    refine lv_iconst (v := 0) hx hb dX6_change_34 (by decide) ?_
    have hR := Option.some.inj hf
    subst hR
    exact W.iret (v := (0 : Int32)) hx hb hr (fun t ht hW => ⟨⟨(0 : Int32), (), rfl, rfl, by rw [ht]; exact hP, va_K.moved hW.alike hK, hD⟩, hS.F ht⟩) hS.2.2 dX6_change_35
  · have hf := ite_F c6 hf
    refine lv_iload_n hx hb dX6_change_8 rfl (lv_at hl 2 rfl) ?_
    obtain ⟨R9, g10, hf⟩ := bd_B hf
    obtain ⟨r8, rfl⟩ : ∃ z, z = R9 := ⟨_, rfl⟩
    have hPc := hP.sub (ws' := []) [] rfl
    have hDc := hD.sub (ws' := []) [] (by decide) rfl
    have hFc := va_free (wc := []) hD hS hA [] rfl
    refine va_calli (va_runS (As := [.int a2]) (rest := [.ref m0]) ⟨hx, hb, hml, hown, hts⟩ (c_X6_isDay l dC dI cI cZ cC cJ cD H4.size a2 r8 g10) (cwS 1 hts gX6_change_X6_isDay rfl rfl rfl hs_X6_isDay ⟨Nat.le_of_ble_eq_true rfl, Nat.le_of_ble_eq_true rfl⟩) (preS_ hPc hK hDc rfl) rfl rfl hl.1 rfl (lv_room (Nat.le_of_ble_eq_true rfl)) dX6_change_9 ⟨Nat.le_of_ble_eq_true rfl, Nat.le_of_ble_eq_true rfl⟩) hS (fun q _ h => hFc q h) hFc (fun z12 u t H11 locs ht hvm hw hB hz1 hk1 hS => ?_)
    have hw : r8 = z12 := hw.symm
    subst hw
    obtain ⟨hP, hD⟩ := aft_ (Wr := wM_ m0 m_g m_kept m_spare m_was m_text m_told cI mg mkept mspare mhasKept mwas mwasMany manew mthrown mtext mlength mspot mvalue merror mtold mtolds) (Wc' := []) (W2 := wM_ m0 m_g m_kept m_spare m_was m_text m_told cI mg mkept mspare mhasKept mwas mwasMany manew mthrown mtext mlength mspot mvalue merror mtold mtolds) hP hD [] [0, 1, 2, 3, 4, 5, 6] [0, 1, 2, 3, 4, 5, 6] rfl rfl (by decide) (by decide) (by decide) hk1 hFc hB ht rfl
    refine lv_if_eq (tgt := 19) hx hb dX6_change_12 (by decide) (fun c13 => ?_) (fun c13 => ?_)
    · have hf := ite_T c13 hf
      refine lv_iconst (v := 2) hx hb dX6_change_19 (by decide) ?_
      refine lv_goto (tgt := 24) hx hb dX6_change_20 (by decide) ?_
      refine va_put (D := (dC, dI)) (ci := 8) (v := .int 2) (ty := .int) (C := RX6) (T := TX6) (N := 15) hx hb hts inX6_ tyX6 tyX6_ok nmX6 hown hK hP hD hS 0 rfl rfl 7 (by decide) fl32_ (fun _ h9 => h9) rfl (by decide +kernel) (by first | rfl | decide) (by first | rfl | decide) (Nat.le_of_ble_eq_true rfl) dX6_change_24 (fun H14 locs hP hD hS => ?_)
      have hP : va_P (dC, dI) vwCl (wM_ m0 m_g m_kept m_spare m_was m_text m_told cI mg mkept mspare mhasKept mwas mwasMany manew 2 mtext mlength mspot mvalue merror mtold mtolds) H14 := hP
      have hD : va_D A (wM_ m0 m_g m_kept m_spare m_was m_text m_told cI mg mkept mspare mhasKept mwas mwasMany manew 2 mtext mlength mspot mvalue merror mtold mtolds) := hD
      refine lv_aload_n hx hb dX6_change_27 rfl (lv_at hl 0 rfl) ?_
      refine va_get (D := (dC, dI)) (ci := 8) (v := .int 2) (C := RX6) (T := TX6) (N := 15) hx hb hts inX6_ hown hK hP 0 rfl rfl 7 (by decide) fl32_ (fun _ h9 => h9) rfl dX6_change_28 ?_
      refine lv_if_le (tgt := 36) hx hb dX6_change_31 (by decide) (fun c9 => absurd c9 (by decide)) (fun _ => ?_)
      refine lv_iconst (v := 0) hx hb dX6_change_34 (by decide) ?_
      have hR := Option.some.inj hf
      subst hR
      exact W.iret (v := (0 : Int32)) hx hb hr (fun t ht hW => ⟨⟨(0 : Int32), (), rfl, rfl, by rw [ht]; exact hP, va_K.moved hW.alike hK, hD⟩, hS.F ht⟩) hS.2.2 dX6_change_35
    · have hf := ite_F c13 hf
      refine lv_iconst (v := 0) hx hb dX6_change_15 (by decide) ?_
      refine lv_goto (tgt := 24) hx hb dX6_change_16 (by decide) ?_
      refine va_put (D := (dC, dI)) (ci := 8) (v := .int 0) (ty := .int) (C := RX6) (T := TX6) (N := 15) hx hb hts inX6_ tyX6 tyX6_ok nmX6 hown hK hP hD hS 0 rfl rfl 7 (by decide) fl32_ (fun _ h9 => h9) rfl (by decide +kernel) (by first | rfl | decide) (by first | rfl | decide) (Nat.le_of_ble_eq_true rfl) dX6_change_24 (fun H15 locs hP hD hS => ?_)
      have hP : va_P (dC, dI) vwCl (wM_ m0 m_g m_kept m_spare m_was m_text m_told cI mg mkept mspare mhasKept mwas mwasMany manew 0 mtext mlength mspot mvalue merror mtold mtolds) H15 := hP
      have hD : va_D A (wM_ m0 m_g m_kept m_spare m_was m_text m_told cI mg mkept mspare mhasKept mwas mwasMany manew 0 mtext mlength mspot mvalue merror mtold mtolds) := hD
      refine lv_aload_n hx hb dX6_change_27 rfl (lv_at hl 0 rfl) ?_
      refine va_get (D := (dC, dI)) (ci := 8) (v := .int 0) (C := RX6) (T := TX6) (N := 15) hx hb hts inX6_ hown hK hP 0 rfl rfl 7 (by decide) fl32_ (fun _ h9 => h9) rfl dX6_change_28 ?_
      refine lv_if_le (tgt := 36) hx hb dX6_change_31 (by decide) (fun _ => ?_) (fun c9 => absurd (by decide) c9)
      refine lv_aload_n hx hb dX6_change_36 rfl (lv_at hl 0 rfl) ?_
      obtain ⟨R31, g32, hf⟩ := bd_B hf
      obtain ⟨mg16, mk17, ms18, mh19, mw20, mw21, ma22, mt23, mt24, ml25, ms26, mv27, me28, mt29, mt30⟩ := R31
      dsimp only at hf
      have hPc := hP
      have hDc := hD
      have hFc := va_free (wc := wM_ m0 m_g m_kept m_spare m_was m_text m_told cI mg mkept mspare mhasKept mwas mwasMany manew 0 mtext mlength mspot mvalue merror mtold mtolds) hD hS hA [0, 1, 2, 3, 4, 5, 6] rfl
      refine va_callv (va_runV (As := []) (rest := []) ⟨hx, hb, hml, hown, hts⟩ (c_X6_begins l dC dI cI cZ cC cJ cD m0 m_g m_kept m_spare m_was m_text m_told H15.size mg mkept mspare mhasKept mwas mwasMany manew (0 : Int32) mtext mlength mspot mvalue merror mtold mtolds (mg16, mk17, ms18, mh19, mw20, mw21, ma22, mt23, mt24, ml25, ms26, mv27, me28, mt29, mt30) g32) (cwV 0 hts gX6_change_X6_begins rfl rfl rfl hs_X6_begins ⟨Nat.le_of_ble_eq_true rfl, Nat.le_of_ble_eq_true rfl⟩) (preV_ (ci := 8) (q0 := 0) hPc hK hDc rfl rfl rfl rfl) rfl rfl hl.1 rfl (lv_room (Nat.le_of_ble_eq_true rfl)) dX6_change_37 ⟨Nat.le_of_ble_eq_true rfl, Nat.le_of_ble_eq_true rfl⟩) hS (fun q _ h => hFc q h) hFc (fun u t H33 locs ht hvm hw hB hz1 hk1 hS => ?_)
      obtain ⟨hP, hD⟩ := aft_ (Wr := []) (Wc' := wM_ m0 m_g m_kept m_spare m_was m_text m_told cI mg16 mk17 ms18 mh19 mw20 mw21 ma22 mt23 mt24 ml25 ms26 mv27 me28 mt29 mt30) (W2 := wM_ m0 m_g m_kept m_spare m_was m_text m_told cI mg16 mk17 ms18 mh19 mw20 mw21 ma22 mt23 mt24 ml25 ms26 mv27 me28 mt29 mt30) hP hD [0, 1, 2, 3, 4, 5, 6] [] [0, 1, 2, 3, 4, 5, 6] rfl rfl (by decide) (by decide) (by decide) hk1 hFc hB ht rfl
      refine lv_aload_n hx hb dX6_change_40 rfl (lv_at hl 0 rfl) ?_
      refine lv_iload_n hx hb dX6_change_41 rfl (lv_at hl 1 rfl) ?_
      refine lv_iload_n hx hb dX6_change_42 rfl (lv_at hl 2 rfl) ?_
      refine lv_iload_n hx hb dX6_change_43 rfl (lv_at hl 3 rfl) ?_
      obtain ⟨R51, g52, hf⟩ := bd_B hf
      obtain ⟨r35, ⟨mg36, mk37, ms38, mh39, mw40, mw41, ma42, mt43, mt44, ml45, ms46, mv47, me48, mt49, mt50⟩⟩ := R51
      dsimp only at hf
      have hPc := hP
      have hDc := hD
      have hFc := va_free (wc := wM_ m0 m_g m_kept m_spare m_was m_text m_told cI mg16 mk17 ms18 mh19 mw20 mw21 ma22 mt23 mt24 ml25 ms26 mv27 me28 mt29 mt30) hD hS hA [0, 1, 2, 3, 4, 5, 6] rfl
      refine va_calli (va_runV (As := [.int a1, .int a2, .int a3]) (rest := []) ⟨hx, hb, hml, hown, hts⟩ (c_X6_changes l dC dI cI cZ cC cJ cD m0 m_g m_kept m_spare m_was m_text m_told H33.size mg16 mk17 ms18 mh19 mw20 mw21 ma22 mt23 mt24 ml25 ms26 mv27 me28 mt29 mt30 a1 a2 a3 (r35, (mg36, mk37, ms38, mh39, mw40, mw41, ma42, mt43, mt44, ml45, ms46, mv47, me48, mt49, mt50)) g52) (cwV 3 hts gX6_change_X6_changes rfl rfl rfl hs_X6_changes ⟨Nat.le_of_ble_eq_true rfl, Nat.le_of_ble_eq_true rfl⟩) (preV_ (ci := 8) (q0 := 0) hPc hK hDc rfl rfl rfl rfl) rfl rfl hl.1 rfl (lv_room (Nat.le_of_ble_eq_true rfl)) dX6_change_44 ⟨Nat.le_of_ble_eq_true rfl, Nat.le_of_ble_eq_true rfl⟩) hS (fun q _ h => hFc q h) hFc (fun z54 u t H53 locs ht hvm hw hB hz1 hk1 hS => ?_)
      have hw : r35 = z54 := hw.symm
      subst hw
      obtain ⟨hP, hD⟩ := aft_ (Wr := []) (Wc' := wM_ m0 m_g m_kept m_spare m_was m_text m_told cI mg36 mk37 ms38 mh39 mw40 mw41 ma42 mt43 mt44 ml45 ms46 mv47 me48 mt49 mt50) (W2 := wM_ m0 m_g m_kept m_spare m_was m_text m_told cI mg36 mk37 ms38 mh39 mw40 mw41 ma42 mt43 mt44 ml45 ms46 mv47 me48 mt49 mt50) hP hD [0, 1, 2, 3, 4, 5, 6] [] [0, 1, 2, 3, 4, 5, 6] rfl rfl (by decide) (by decide) (by decide) hk1 hFc hB ht rfl
      refine lv_istore (lv' := [(4, .int r35), (0, .ref m0), (1, .int a1), (2, .int a2), (3, .int a3)]) hx hb dX6_change_47 hl (by decide) rfl (fun ls hl => ?_)
      refine lv_iload hx hb dX6_change_49 (lv_at hl 0 rfl) ?_
      refine lv_if_ge (tgt := 60) hx hb dX6_change_51 (by decide) (fun c55 => ?_) (fun c55 => ?_)
      · have hf := ite_T c55 hf
        refine lv_aload_n hx hb dX6_change_60 rfl (lv_at hl 1 rfl) ?_
        obtain ⟨R71, g72, hf⟩ := bd_B hf
        obtain ⟨mg56, mk57, ms58, mh59, mw60, mw61, ma62, mt63, mt64, ml65, ms66, mv67, me68, mt69, mt70⟩ := R71
        dsimp only at hf
        have hPc := hP
        have hDc := hD
        have hFc := va_free (wc := wM_ m0 m_g m_kept m_spare m_was m_text m_told cI mg36 mk37 ms38 mh39 mw40 mw41 ma42 mt43 mt44 ml45 ms46 mv47 me48 mt49 mt50) hD hS hA [0, 1, 2, 3, 4, 5, 6] rfl
        refine va_callv (va_runV (As := []) (rest := []) ⟨hx, hb, hml, hown, hts⟩ (c_X6_ends l dC dI cI cZ cC cJ cD m0 m_g m_kept m_spare m_was m_text m_told H53.size mg36 mk37 ms38 mh39 mw40 mw41 ma42 mt43 mt44 ml45 ms46 mv47 me48 mt49 mt50 (mg56, mk57, ms58, mh59, mw60, mw61, ma62, mt63, mt64, ml65, ms66, mv67, me68, mt69, mt70) g72) (cwV 0 hts gX6_change_X6_ends rfl rfl rfl hs_X6_ends ⟨Nat.le_of_ble_eq_true rfl, Nat.le_of_ble_eq_true rfl⟩) (preV_ (ci := 8) (q0 := 0) hPc hK hDc rfl rfl rfl rfl) rfl rfl hl.1 rfl (lv_room (Nat.le_of_ble_eq_true rfl)) dX6_change_61 ⟨Nat.le_of_ble_eq_true rfl, Nat.le_of_ble_eq_true rfl⟩) hS (fun q _ h => hFc q h) hFc (fun u t H73 locs ht hvm hw hB hz1 hk1 hS => ?_)
        obtain ⟨hP, hD⟩ := aft_ (Wr := []) (Wc' := wM_ m0 m_g m_kept m_spare m_was m_text m_told cI mg56 mk57 ms58 mh59 mw60 mw61 ma62 mt63 mt64 ml65 ms66 mv67 me68 mt69 mt70) (W2 := wM_ m0 m_g m_kept m_spare m_was m_text m_told cI mg56 mk57 ms58 mh59 mw60 mw61 ma62 mt63 mt64 ml65 ms66 mv67 me68 mt69 mt70) hP hD [0, 1, 2, 3, 4, 5, 6] [] [0, 1, 2, 3, 4, 5, 6] rfl rfl (by decide) (by decide) (by decide) hk1 hFc hB ht rfl
        refine lv_iload hx hb dX6_change_64 (lv_at hl 0 rfl) ?_
        have hR := Option.some.inj hf
        subst hR
        exact W.iret (v := r35) hx hb hr (fun t ht hW => ⟨⟨r35, (), rfl, rfl, by rw [ht]; exact hP, va_K.moved hW.alike hK, hD⟩, hS.F ht⟩) hS.2.2 dX6_change_66
      · have hf := ite_F c55 hf
        refine lv_aload_n hx hb dX6_change_54 rfl (lv_at hl 1 rfl) ?_
        refine lv_iconst (v := 3) hx hb dX6_change_55 (by decide) ?_
        obtain ⟨R91, g92, hf⟩ := bd_B hf
        obtain ⟨r75, ⟨mg76, mk77, ms78, mh79, mw80, mw81, ma82, mt83, mt84, ml85, ms86, mv87, me88, mt89, mt90⟩⟩ := R91
        dsimp only at hf
        have hPc := hP
        have hDc := hD
        have hFc := va_free (wc := wM_ m0 m_g m_kept m_spare m_was m_text m_told cI mg36 mk37 ms38 mh39 mw40 mw41 ma42 mt43 mt44 ml45 ms46 mv47 me48 mt49 mt50) hD hS hA [0, 1, 2, 3, 4, 5, 6] rfl
        refine va_calli (va_runV (As := [.int 3]) (rest := []) ⟨hx, hb, hml, hown, hts⟩ (c_X6_fails l dC dI cI cZ cC cJ cD m0 m_g m_kept m_spare m_was m_text m_told H53.size mg36 mk37 ms38 mh39 mw40 mw41 ma42 mt43 mt44 ml45 ms46 mv47 me48 mt49 mt50 (3 : Int32) (r75, (mg76, mk77, ms78, mh79, mw80, mw81, ma82, mt83, mt84, ml85, ms86, mv87, me88, mt89, mt90)) g92) (cwV 1 hts gX6_change_X6_fails rfl rfl rfl hs_X6_fails ⟨Nat.le_of_ble_eq_true rfl, Nat.le_of_ble_eq_true rfl⟩) (preV_ (ci := 8) (q0 := 0) hPc hK hDc rfl rfl rfl rfl) rfl rfl hl.1 rfl (lv_room (Nat.le_of_ble_eq_true rfl)) dX6_change_56 ⟨Nat.le_of_ble_eq_true rfl, Nat.le_of_ble_eq_true rfl⟩) hS (fun q _ h => hFc q h) hFc (fun z94 u t H93 locs ht hvm hw hB hz1 hk1 hS => ?_)
        have hw : r75 = z94 := hw.symm
        subst hw
        obtain ⟨hP, hD⟩ := aft_ (Wr := []) (Wc' := wM_ m0 m_g m_kept m_spare m_was m_text m_told cI mg76 mk77 ms78 mh79 mw80 mw81 ma82 mt83 mt84 ml85 ms86 mv87 me88 mt89 mt90) (W2 := wM_ m0 m_g m_kept m_spare m_was m_text m_told cI mg76 mk77 ms78 mh79 mw80 mw81 ma82 mt83 mt84 ml85 ms86 mv87 me88 mt89 mt90) hP hD [0, 1, 2, 3, 4, 5, 6] [] [0, 1, 2, 3, 4, 5, 6] rfl rfl (by decide) (by decide) (by decide) hk1 hFc hB ht rfl
        have hR := Option.some.inj hf
        subst hR
        exact W.iret (v := r75) hx hb hr (fun t ht hW => ⟨⟨r75, (), rfl, rfl, by rw [ht]; exact hP, va_K.moved hW.alike hK, hD⟩, hS.F ht⟩) hS.2.2 dX6_change_59
theorem hs_X6_change : yX6_change.cls = RX6 ∧ yX6_change.cls ≠ "java/lang/invoke/MethodHandle" ∧ yX6_change.cls ≠ "java/lang/invoke/VarHandle" ∧ (parseMethodDescriptor yX6_change.desc).map (fun d => d.parameters.length) = some 3 := by decide +kernel
set_option maxRecDepth 20000 in
theorem in_X6_addFact_X6 : ∀ w ∈ wsX60, w ∈ wsX6_addFact := by decide +kernel
def f_X6_addFact_J116 (l1 : Int32) (l2 : Int32) (l3 : Int32) (l4 : Int32) (l5 : Int32) (l6 : Int32) (M_ : tM_) : Option (Int32 × tM_) :=
match M_ with
| (mg, mkept, mspare, mhasKept, mwas, mwasMany, manew, mthrown, mtext, mlength, mspot, mvalue, merror, mtold, mtolds) =>
bd_ (f_X6_fails (3 : Int32) (mg, mkept, mspare, mhasKept, mwas, mwasMany, manew, mthrown, mtext, mlength, mspot, mvalue, merror, mtold, mtolds)) (fun (r26, (mg27, mk28, ms29, mh30, mw31, mw32, ma33, mt34, mt35, ml36, ms37, mv38, me39, mt40, mt41)) =>
some (r26, (mg27, mk28, ms29, mh30, mw31, mw32, ma33, mt34, mt35, ml36, ms37, mv38, me39, mt40, mt41)))
def f_X6_addFact_J182 (l1 : Int32) (l2 : Int32) (l3 : Int32) (l4 : Int32) (l5 : Int32) (l6 : Int32) (M_ : tM_) : Option (Int32 × tM_) :=
match M_ with
| (mg, mkept, mspare, mhasKept, mwas, mwasMany, manew, mthrown, mtext, mlength, mspot, mvalue, merror, mtold, mtolds) =>
gd_ (1 : Int32) 610 (
gd_ (1 : Int32) 610 (
gd_ (1 : Int32) 610 (nm_ (upd mg ((1 : Int32).toNatClampNeg) ((mg ((1 : Int32).toNatClampNeg)) + 1)) (fun u74 =>
gd_ (370 + (mg ((1 : Int32).toNatClampNeg))) 610 (nm_ (upd u74 ((370 + (mg ((1 : Int32).toNatClampNeg))).toNatClampNeg) l1) (fun u78 =>
gd_ (430 + (mg ((1 : Int32).toNatClampNeg))) 610 (nm_ (upd u78 ((430 + (mg ((1 : Int32).toNatClampNeg))).toNatClampNeg) l2) (fun u82 =>
gd_ (490 + (mg ((1 : Int32).toNatClampNeg))) 610 (nm_ (upd u82 ((490 + (mg ((1 : Int32).toNatClampNeg))).toNatClampNeg) l3) (fun u86 =>
bd_ (f_X6_ends (u86, mkept, mspare, mhasKept, mwas, mwasMany, manew, mthrown, mtext, mlength, mspot, mvalue, merror, mtold, mtolds)) (fun (mg88, mk89, ms90, mh91, mw92, mw93, ma94, mt95, mt96, ml97, ms98, mv99, me100, mt101, mt102) =>
bd_ (f_X6_versionOf (mg ((1 : Int32).toNatClampNeg)) (mg88, mk89, ms90, mh91, mw92, mw93, ma94, mt95, mt96, ml97, ms98, mv99, me100, mt101, mt102)) (fun r107 =>
some (r107, (mg88, mk89, ms90, mh91, mw92, mw93, ma94, mt95, mt96, ml97, ms98, mv99, me100, mt101, mt102))))))))))))))
def f_X6_addFact_J176 (l1 : Int32) (l2 : Int32) (l3 : Int32) (l4 : Int32) (l5 : Int32) (l6 : Int32) (k1_ : Int32) (k2_ : Int32) (k3_ : Int32) (M_ : tM_) : Option (Int32 × tM_) :=
match M_ with
| (mg, mkept, mspare, mhasKept, mwas, mwasMany, manew, mthrown, mtext, mlength, mspot, mvalue, merror, mtold, mtolds) =>
bd_ (f_X6_makes k1_ k2_ k3_ (0 : Int32) (1 : Int32) (mg, mkept, mspare, mhasKept, mwas, mwasMany, manew, mthrown, mtext, mlength, mspot, mvalue, merror, mtold, mtolds)) (fun (r114, (mg115, mk116, ms117, mh118, mw119, mw120, ma121, mt122, mt123, ml124, ms125, mv126, me127, mt128, mt129)) =>
f_X6_addFact_J182 l1 l2 l3 l4 l5 l6 (mg115, mk116, ms117, mh118, mw119, mw120, ma121, mt122, mt123, ml124, ms125, mv126, me127, mt128, mt129))
def f_X6_addFact_J122 (l1 : Int32) (l2 : Int32) (l3 : Int32) (l4 : Int32) (l5 : Int32) (l6 : Int32) (M_ : tM_) : Option (Int32 × tM_) :=
match M_ with
| (mg, mkept, mspare, mhasKept, mwas, mwasMany, manew, mthrown, mtext, mlength, mspot, mvalue, merror, mtold, mtolds) =>
bd_ (f_X6_begins (mg, mkept, mspare, mhasKept, mwas, mwasMany, manew, mthrown, mtext, mlength, mspot, mvalue, merror, mtold, mtolds)) (fun (mg48, mk49, ms50, mh51, mw52, mw53, ma54, mt55, mt56, ml57, ms58, mv59, me60, mt61, mt62) =>
if l6 = 0 then
if 0 ≤ l4 then
f_X6_addFact_J182 l1 l2 l3 l4 l5 l6 (mg48, mk49, ms50, mh51, mw52, mw53, ma54, mt55, mt56, ml57, ms58, mv59, me60, mt61, mt62)
else
if l5 < 0 then
f_X6_addFact_J176 l1 l2 l3 l4 l5 l6 l1 l2 (1000 : Int32) (mg48, mk49, ms50, mh51, mw52, mw53, ma54, mt55, mt56, ml57, ms58, mv59, me60, mt61, mt62)
else
gd_ (130 + l5) 610 (
f_X6_addFact_J176 l1 l2 l3 l4 l5 l6 l1 l2 (mg48 ((130 + l5).toNatClampNeg)) (mg48, mk49, ms50, mh51, mw52, mw53, ma54, mt55, mt56, ml57, ms58, mv59, me60, mt61, mt62))
else
gd_ (130 + l5) 610 (nm_ (upd mg48 ((130 + l5).toNatClampNeg) l2) (fun u137 =>
f_X6_addFact_J182 l1 l2 l3 l4 l5 l6 (u137, mk49, ms50, mh51, mw52, mw53, ma54, mt55, mt56, ml57, ms58, mv59, me60, mt61, mt62))))
def f_X6_addFact_J82 (l1 : Int32) (l2 : Int32) (l3 : Int32) (l4 : Int32) (l5 : Int32) (k0_ : Int32) (M_ : tM_) : Option (Int32 × tM_) :=
match M_ with
| (mg, mkept, mspare, mhasKept, mwas, mwasMany, manew, mthrown, mtext, mlength, mspot, mvalue, merror, mtold, mtolds) =>
gd_ (1 : Int32) 610 (
if (mg ((1 : Int32).toNatClampNeg)) = 60 then
f_X6_addFact_J116 l1 l2 l3 l4 l5 k0_ (mg, mkept, mspare, mhasKept, mwas, mwasMany, manew, mthrown, mtext, mlength, mspot, mvalue, merror, mtold, mtolds)
else
if 0 ≤ l4 then
f_X6_addFact_J122 l1 l2 l3 l4 l5 k0_ (mg, mkept, mspare, mhasKept, mwas, mwasMany, manew, mthrown, mtext, mlength, mspot, mvalue, merror, mtold, mtolds)
else
if k0_ = 0 then
gd_ (0 : Int32) 610 (
if (mg ((0 : Int32).toNatClampNeg)) = 60 then
f_X6_addFact_J116 l1 l2 l3 l4 l5 k0_ (mg, mkept, mspare, mhasKept, mwas, mwasMany, manew, mthrown, mtext, mlength, mspot, mvalue, merror, mtold, mtolds)
else
f_X6_addFact_J122 l1 l2 l3 l4 l5 k0_ (mg, mkept, mspare, mhasKept, mwas, mwasMany, manew, mthrown, mtext, mlength, mspot, mvalue, merror, mtold, mtolds))
else
f_X6_addFact_J122 l1 l2 l3 l4 l5 k0_ (mg, mkept, mspare, mhasKept, mwas, mwasMany, manew, mthrown, mtext, mlength, mspot, mvalue, merror, mtold, mtolds))
def f_X6_addFact_J81 (l1 : Int32) (l2 : Int32) (l3 : Int32) (l4 : Int32) (l5 : Int32) (M_ : tM_) : Option (Int32 × tM_) :=
match M_ with
| (mg, mkept, mspare, mhasKept, mwas, mwasMany, manew, mthrown, mtext, mlength, mspot, mvalue, merror, mtold, mtolds) =>
f_X6_addFact_J82 l1 l2 l3 l4 l5 (0 : Int32) (mg, mkept, mspare, mhasKept, mwas, mwasMany, manew, mthrown, mtext, mlength, mspot, mvalue, merror, mtold, mtolds)
def f_X6_addFact_J24 (l1 : Int32) (l2 : Int32) (l3 : Int32) (k1_ : Int32) (M_ : tM_) : Option (Int32 × tM_) :=
match M_ with
| (mg, mkept, mspare, mhasKept, mwas, mwasMany, manew, mthrown, mtext, mlength, mspot, mvalue, merror, mtold, mtolds) =>
if k1_ ≤ 0 then
bd_ (f_X6_valid l1 l2 (mg, mkept, mspare, mhasKept, mwas, mwasMany, manew, k1_, mtext, mlength, mspot, mvalue, merror, mtold, mtolds)) (fun r10 =>
bd_ (f_X6_following l1 l2 (mg, mkept, mspare, mhasKept, mwas, mwasMany, manew, k1_, mtext, mlength, mspot, mvalue, merror, mtold, mtolds)) (fun r15 =>
if 0 ≤ r10 then
f_X6_addFact_J81 l1 l2 l3 r10 r15 (mg, mkept, mspare, mhasKept, mwas, mwasMany, manew, k1_, mtext, mlength, mspot, mvalue, merror, mtold, mtolds)
else
if r15 < 0 then
f_X6_addFact_J81 l1 l2 l3 r10 r15 (mg, mkept, mspare, mhasKept, mwas, mwasMany, manew, k1_, mtext, mlength, mspot, mvalue, merror, mtold, mtolds)
else
gd_ (310 + r15) 610 (
if (mg ((310 + r15).toNatClampNeg)) = 1 then
f_X6_addFact_J82 l1 l2 l3 r10 r15 (1 : Int32) (mg, mkept, mspare, mhasKept, mwas, mwasMany, manew, k1_, mtext, mlength, mspot, mvalue, merror, mtold, mtolds)
else
f_X6_addFact_J81 l1 l2 l3 r10 r15 (mg, mkept, mspare, mhasKept, mwas, mwasMany, manew, k1_, mtext, mlength, mspot, mvalue, merror, mtold, mtolds))))
else
some ((0 : Int32), (mg, mkept, mspare, mhasKept, mwas, mwasMany, manew, k1_, mtext, mlength, mspot, mvalue, merror, mtold, mtolds))
def f_X6_addFact (a1 : Int32) (a2 : Int32) (a3 : Int32) (M_ : tM_) : Option (Int32 × tM_) :=
match M_ with
| (mg, mkept, mspare, mhasKept, mwas, mwasMany, manew, mthrown, mtext, mlength, mspot, mvalue, merror, mtold, mtolds) =>
bd_ (f_X6_isKey a1) (fun r1 =>
if r1 = 0 then
f_X6_addFact_J24 a1 a2 a3 (1 : Int32) (mg, mkept, mspare, mhasKept, mwas, mwasMany, manew, mthrown, mtext, mlength, mspot, mvalue, merror, mtold, mtolds)
else
bd_ (f_X6_isDay a2) (fun r145 =>
if r145 = 0 then
f_X6_addFact_J24 a1 a2 a3 (2 : Int32) (mg, mkept, mspare, mhasKept, mwas, mwasMany, manew, mthrown, mtext, mlength, mspot, mvalue, merror, mtold, mtolds)
else
f_X6_addFact_J24 a1 a2 a3 (0 : Int32) (mg, mkept, mspare, mhasKept, mwas, mwasMany, manew, mthrown, mtext, mlength, mspot, mvalue, merror, mtold, mtolds)))
abbrev rm_X6_addFact : Room := { frames := 4, cells := 0, slots := 0, locals := 87 }
set_option maxHeartbeats 4000000 in
set_option maxRecDepth 100000 in
theorem c_X6_addFact (l : Launch) (dC : Nat → ClassId) (dI : Nat → Nat → Nat) (cI cZ cC cJ cD : ClassId) (m0 m_g m_kept m_spare m_was m_text m_told : Nat) (sz : Nat) (mg : Nat → Int32) (mkept : Nat → Int32) (mspare : Nat → Int32) (mhasKept : Int32) (mwas : Nat → Int32) (mwasMany : Int32) (manew : Int32) (mthrown : Int32) (mtext : Nat → Int32) (mlength : Int32) (mspot : Int32) (mvalue : Int32) (merror : Int32) (mtold : Nat → Int32) (mtolds : Int32) (a1 : Int32) (a2 : Int32) (a3 : Int32) (R : Int32 × tM_) (hf : f_X6_addFact a1 a2 a3 (mg, mkept, mspare, mhasKept, mwas, mwasMany, manew, mthrown, mtext, mlength, mspot, mvalue, merror, mtold, mtolds) = some R) : Met l yX6_addFact wsX6_addFact rm_X6_addFact (Pc_ (dC, dI) (ty_ cI cZ cC cJ cD) (wM_ m0 m_g m_kept m_spare m_was m_text m_told cI mg mkept mspare mhasKept mwas mwasMany manew mthrown mtext mlength mspot mvalue merror mtold mtolds) sz [.ref m0, .int a1, .int a2, .int a3]) (Qi_ (dC, dI) (ty_ cI cZ cC cJ cD) R.1 (wM_ m0 m_g m_kept m_spare m_was m_text m_told cI R.2.1 R.2.2.1 R.2.2.2.1 R.2.2.2.2.1 R.2.2.2.2.2.1 R.2.2.2.2.2.2.1 R.2.2.2.2.2.2.2.1 R.2.2.2.2.2.2.2.2.1 R.2.2.2.2.2.2.2.2.2.1 R.2.2.2.2.2.2.2.2.2.2.1 R.2.2.2.2.2.2.2.2.2.2.2.1 R.2.2.2.2.2.2.2.2.2.2.2.2.1 R.2.2.2.2.2.2.2.2.2.2.2.2.2.1 R.2.2.2.2.2.2.2.2.2.2.2.2.2.2.1 R.2.2.2.2.2.2.2.2.2.2.2.2.2.2.2) (va_A (wM_ m0 m_g m_kept m_spare m_was m_text m_told cI mg mkept mspare mhasKept mwas mwasMany manew mthrown mtext mlength mspot mvalue merror mtold mtolds) sz)) 0 0 (va_A (wM_ m0 m_g m_kept m_spare m_was m_text m_told cI mg mkept mspare mhasKept mwas mwasMany manew mthrown mtext mlength mspot mvalue merror mtold mtolds) sz) := by
  refine met_ (cc := cX6_addFact) (maxL := 8) (ret := (some .int)) (Qcf := fun A => Qi_ (dC, dI) (ty_ cI cZ cC cJ cD) R.1 (wM_ m0 m_g m_kept m_spare m_was m_text m_told cI R.2.1 R.2.2.1 R.2.2.2.1 R.2.2.2.2.1 R.2.2.2.2.2.1 R.2.2.2.2.2.2.1 R.2.2.2.2.2.2.2.1 R.2.2.2.2.2.2.2.2.1 R.2.2.2.2.2.2.2.2.2.1 R.2.2.2.2.2.2.2.2.2.2.1 R.2.2.2.2.2.2.2.2.2.2.2.1 R.2.2.2.2.2.2.2.2.2.2.2.2.1 R.2.2.2.2.2.2.2.2.2.2.2.2.2.1 R.2.2.2.2.2.2.2.2.2.2.2.2.2.2.1 R.2.2.2.2.2.2.2.2.2.2.2.2.2.2.2) A) (by decide) rfl (Nat.le_of_ble_eq_true rfl) ?_
  intro p e s m args below meth c A ls hx hb hr hts hown hlocks hml hA hP hK hD hl
  have hown : s.vm.findClass RX6 = some m.cls := hown
  have hl : lv_has ls 8 [(0, .ref m0), (1, .int a1), (2, .int a2), (3, .int a3)] := hl
  have hS : va_S A s.heap s.heap [] := va_S.rf
  have fl7_ : (Cond.fieldLink RX6 7 "DimensionLoaderModel" "g" "[I").before args s = true := hts _ (List.mem_of_getElem? (i := 2) rfl)
  have fl32_ : (Cond.fieldLink RX6 32 "DimensionLoaderModel" "thrown" "I").before args s = true := hts _ (List.mem_of_getElem? (i := 1) rfl)
  have inX6_ : ∀ w ∈ wsX60, w ∈ wsX6_addFact := in_X6_addFact_X6
  unfold f_X6_addFact at hf
  dsimp only at hf
  have bl116 : ∀ (l1 : Int32) (l2 : Int32) (l3 : Int32) (l4 : Int32) (l5 : Int32) (l6 : Int32) (mg : Nat → Int32) (mkept : Nat → Int32) (mspare : Nat → Int32) (mhasKept : Int32) (mwas : Nat → Int32) (mwasMany : Int32) (manew : Int32) (mthrown : Int32) (mtext : Nat → Int32) (mlength : Int32) (mspot : Int32) (mvalue : Int32) (merror : Int32) (mtold : Nat → Int32) (mtolds : Int32) (H25 : Heap) (locs : List Loc) (ls : Array Slot), f_X6_addFact_J116 l1 l2 l3 l4 l5 l6 (mg, mkept, mspare, mhasKept, mwas, mwasMany, manew, mthrown, mtext, mlength, mspot, mvalue, merror, mtold, mtolds) = some R → va_P (dC, dI) vwCl (wM_ m0 m_g m_kept m_spare m_was m_text m_told cI mg mkept mspare mhasKept mwas mwasMany manew mthrown mtext mlength mspot mvalue merror mtold mtolds) H25 → va_D A (wM_ m0 m_g m_kept m_spare m_was m_text m_told cI mg mkept mspare mhasKept mwas mwasMany manew mthrown mtext mlength mspot mvalue merror mtold mtolds) → va_S A s.heap H25 locs → lv_has ls 8 [(0, .ref m0), (1, .int l1), (2, .int l2), (3, .int l3), (4, .int l4), (5, .int l5), (6, .int l6)] → W p l e (headSpec wsX6_addFact rm_X6_addFact).room s m args below meth c H25 locs 0 0 (MQ below (Qi_ (dC, dI) (ty_ cI cZ cC cJ cD) R.1 (wM_ m0 m_g m_kept m_spare m_was m_text m_told cI R.2.1 R.2.2.1 R.2.2.2.1 R.2.2.2.2.1 R.2.2.2.2.2.1 R.2.2.2.2.2.2.1 R.2.2.2.2.2.2.2.1 R.2.2.2.2.2.2.2.2.1 R.2.2.2.2.2.2.2.2.2.1 R.2.2.2.2.2.2.2.2.2.2.1 R.2.2.2.2.2.2.2.2.2.2.2.1 R.2.2.2.2.2.2.2.2.2.2.2.2.1 R.2.2.2.2.2.2.2.2.2.2.2.2.2.1 R.2.2.2.2.2.2.2.2.2.2.2.2.2.2.1 R.2.2.2.2.2.2.2.2.2.2.2.2.2.2.2) A) args s 0 0 A) (F0 m 116 ls []) := by
    intro l1 l2 l3 l4 l5 l6 mg mkept mspare mhasKept mwas mwasMany manew mthrown mtext mlength mspot mvalue merror mtold mtolds H25 locs ls hf hP hD hS hl
    unfold f_X6_addFact_J116 at hf
    dsimp only at hf
    refine lv_aload_n hx hb dX6_addFact_116 rfl (lv_at hl 0 rfl) ?_
    refine lv_iconst (v := 3) hx hb dX6_addFact_117 (by decide) ?_
    obtain ⟨R42, g43, hf⟩ := bd_B hf
    obtain ⟨r26, ⟨mg27, mk28, ms29, mh30, mw31, mw32, ma33, mt34, mt35, ml36, ms37, mv38, me39, mt40, mt41⟩⟩ := R42
    dsimp only at hf
    have hPc := hP
    have hDc := hD
    have hFc := va_free (wc := wM_ m0 m_g m_kept m_spare m_was m_text m_told cI mg mkept mspare mhasKept mwas mwasMany manew mthrown mtext mlength mspot mvalue merror mtold mtolds) hD hS hA [0, 1, 2, 3, 4, 5, 6] rfl
    refine va_calli (va_runV (As := [.int 3]) (rest := []) ⟨hx, hb, hml, hown, hts⟩ (c_X6_fails l dC dI cI cZ cC cJ cD m0 m_g m_kept m_spare m_was m_text m_told H25.size mg mkept mspare mhasKept mwas mwasMany manew mthrown mtext mlength mspot mvalue merror mtold mtolds (3 : Int32) (r26, (mg27, mk28, ms29, mh30, mw31, mw32, ma33, mt34, mt35, ml36, ms37, mv38, me39, mt40, mt41)) g43) (cwV 1 hts gX6_addFact_X6_fails rfl rfl rfl hs_X6_fails ⟨Nat.le_of_ble_eq_true rfl, Nat.le_of_ble_eq_true rfl⟩) (preV_ (ci := 8) (q0 := 0) hPc hK hDc rfl rfl rfl rfl) rfl rfl hl.1 rfl (lv_room (Nat.le_of_ble_eq_true rfl)) dX6_addFact_118 ⟨Nat.le_of_ble_eq_true rfl, Nat.le_of_ble_eq_true rfl⟩) hS (fun q _ h => hFc q h) hFc (fun z45 u t H44 locs ht hvm hw hB hz1 hk1 hS => ?_)
    have hw : r26 = z45 := hw.symm
    subst hw
    obtain ⟨hP, hD⟩ := aft_ (Wr := []) (Wc' := wM_ m0 m_g m_kept m_spare m_was m_text m_told cI mg27 mk28 ms29 mh30 mw31 mw32 ma33 mt34 mt35 ml36 ms37 mv38 me39 mt40 mt41) (W2 := wM_ m0 m_g m_kept m_spare m_was m_text m_told cI mg27 mk28 ms29 mh30 mw31 mw32 ma33 mt34 mt35 ml36 ms37 mv38 me39 mt40 mt41) hP hD [0, 1, 2, 3, 4, 5, 6] [] [0, 1, 2, 3, 4, 5, 6] rfl rfl (by decide) (by decide) (by decide) hk1 hFc hB ht rfl
    have hR := Option.some.inj hf
    subst hR
    exact W.iret (v := r26) hx hb hr (fun t ht hW => ⟨⟨r26, (), rfl, rfl, by rw [ht]; exact hP, va_K.moved hW.alike hK, hD⟩, hS.F ht⟩) hS.2.2 dX6_addFact_121
  have bl182 : ∀ (l1 : Int32) (l2 : Int32) (l3 : Int32) (l4 : Int32) (l5 : Int32) (l6 : Int32) (mg : Nat → Int32) (mkept : Nat → Int32) (mspare : Nat → Int32) (mhasKept : Int32) (mwas : Nat → Int32) (mwasMany : Int32) (manew : Int32) (mthrown : Int32) (mtext : Nat → Int32) (mlength : Int32) (mspot : Int32) (mvalue : Int32) (merror : Int32) (mtold : Nat → Int32) (mtolds : Int32) (H69 : Heap) (locs : List Loc) (ls : Array Slot), f_X6_addFact_J182 l1 l2 l3 l4 l5 l6 (mg, mkept, mspare, mhasKept, mwas, mwasMany, manew, mthrown, mtext, mlength, mspot, mvalue, merror, mtold, mtolds) = some R → va_P (dC, dI) vwCl (wM_ m0 m_g m_kept m_spare m_was m_text m_told cI mg mkept mspare mhasKept mwas mwasMany manew mthrown mtext mlength mspot mvalue merror mtold mtolds) H69 → va_D A (wM_ m0 m_g m_kept m_spare m_was m_text m_told cI mg mkept mspare mhasKept mwas mwasMany manew mthrown mtext mlength mspot mvalue merror mtold mtolds) → va_S A s.heap H69 locs → lv_has ls 8 [(0, .ref m0), (1, .int l1), (2, .int l2), (3, .int l3), (4, .int l4), (5, .int l5), (6, .int l6)] → W p l e (headSpec wsX6_addFact rm_X6_addFact).room s m args below meth c H69 locs 0 0 (MQ below (Qi_ (dC, dI) (ty_ cI cZ cC cJ cD) R.1 (wM_ m0 m_g m_kept m_spare m_was m_text m_told cI R.2.1 R.2.2.1 R.2.2.2.1 R.2.2.2.2.1 R.2.2.2.2.2.1 R.2.2.2.2.2.2.1 R.2.2.2.2.2.2.2.1 R.2.2.2.2.2.2.2.2.1 R.2.2.2.2.2.2.2.2.2.1 R.2.2.2.2.2.2.2.2.2.2.1 R.2.2.2.2.2.2.2.2.2.2.2.1 R.2.2.2.2.2.2.2.2.2.2.2.2.1 R.2.2.2.2.2.2.2.2.2.2.2.2.2.1 R.2.2.2.2.2.2.2.2.2.2.2.2.2.2.1 R.2.2.2.2.2.2.2.2.2.2.2.2.2.2.2) A) args s 0 0 A) (F0 m 182 ls []) := by
    intro l1 l2 l3 l4 l5 l6 mg mkept mspare mhasKept mwas mwasMany manew mthrown mtext mlength mspot mvalue merror mtold mtolds H69 locs ls hf hP hD hS hl
    unfold f_X6_addFact_J182 at hf
    dsimp only at hf
    refine lv_aload_n hx hb dX6_addFact_182 rfl (lv_at hl 0 rfl) ?_
    refine va_get (D := (dC, dI)) (ci := 8) (v := .ref m_g) (C := RX6) (T := TX6) (N := 15) hx hb hts inX6_ hown hK hP 0 rfl rfl 0 (by decide) fl7_ (fun _ h9 => h9) rfl dX6_addFact_183 ?_
    refine lv_iconst (v := 1) hx hb dX6_addFact_186 (by decide) ?_
    obtain ⟨h70, hf⟩ := gd_T hf
    refine va_iald hx hb hK hP 1 0 rfl rfl h70 dX6_addFact_187 ?_
    refine lv_istore (lv' := [(7, .int (mg ((1 : Int32).toNatClampNeg))), (0, .ref m0), (1, .int l1), (2, .int l2), (3, .int l3), (4, .int l4), (5, .int l5), (6, .int l6)]) hx hb dX6_addFact_188 hl (by decide) rfl (fun ls hl => ?_)
    refine lv_aload_n hx hb dX6_addFact_190 rfl (lv_at hl 1 rfl) ?_
    refine va_get (D := (dC, dI)) (ci := 8) (v := .ref m_g) (C := RX6) (T := TX6) (N := 15) hx hb hts inX6_ hown hK hP 0 rfl rfl 0 (by decide) fl7_ (fun _ h9 => h9) rfl dX6_addFact_191 ?_
    refine lv_iconst (v := 1) hx hb dX6_addFact_194 (by decide) ?_
    refine lv_dup2_11 hx hb dX6_addFact_195 rfl rfl ?_
    obtain ⟨h71, hf⟩ := gd_T hf
    refine va_iald hx hb hK hP 1 0 rfl rfl h71 dX6_addFact_196 ?_
    refine lv_iconst (v := 1) hx hb dX6_addFact_197 (by decide) ?_
    refine lv_iadd hx hb dX6_addFact_198 ?_
    obtain ⟨h72, hf⟩ := gd_T hf
    refine va_iast hx hb hK hP hD hS 1 0 rfl rfl h72 dX6_addFact_199 (fun H73 locs hP hD hS => ?_)
    have hP : va_P (dC, dI) vwCl (wM_ m0 m_g m_kept m_spare m_was m_text m_told cI (upd mg ((1 : Int32).toNatClampNeg) ((mg ((1 : Int32).toNatClampNeg)) + 1)) mkept mspare mhasKept mwas mwasMany manew mthrown mtext mlength mspot mvalue merror mtold mtolds) H73 := hP
    have hD : va_D A (wM_ m0 m_g m_kept m_spare m_was m_text m_told cI (upd mg ((1 : Int32).toNatClampNeg) ((mg ((1 : Int32).toNatClampNeg)) + 1)) mkept mspare mhasKept mwas mwasMany manew mthrown mtext mlength mspot mvalue merror mtold mtolds) := hD
    obtain ⟨u74, e75, hf⟩ := nm_T hf
    rw [← e75] at hP hD
    refine lv_aload_n hx hb dX6_addFact_200 rfl (lv_at hl 1 rfl) ?_
    refine va_get (D := (dC, dI)) (ci := 8) (v := .ref m_g) (C := RX6) (T := TX6) (N := 15) hx hb hts inX6_ hown hK hP 0 rfl rfl 0 (by decide) fl7_ (fun _ h9 => h9) rfl dX6_addFact_201 ?_
    refine lv_sipush (v := 370) hx hb dX6_addFact_204 (by decide) ?_
    refine lv_iload hx hb dX6_addFact_207 (lv_at hl 0 rfl) ?_
    refine lv_iadd hx hb dX6_addFact_209 ?_
    refine lv_iload_n hx hb dX6_addFact_210 rfl (lv_at hl 2 rfl) ?_
    obtain ⟨h76, hf⟩ := gd_T hf
    refine va_iast hx hb hK hP hD hS 1 0 rfl rfl h76 dX6_addFact_211 (fun H77 locs hP hD hS => ?_)
    have hP : va_P (dC, dI) vwCl (wM_ m0 m_g m_kept m_spare m_was m_text m_told cI (upd u74 ((370 + (mg ((1 : Int32).toNatClampNeg))).toNatClampNeg) l1) mkept mspare mhasKept mwas mwasMany manew mthrown mtext mlength mspot mvalue merror mtold mtolds) H77 := hP
    have hD : va_D A (wM_ m0 m_g m_kept m_spare m_was m_text m_told cI (upd u74 ((370 + (mg ((1 : Int32).toNatClampNeg))).toNatClampNeg) l1) mkept mspare mhasKept mwas mwasMany manew mthrown mtext mlength mspot mvalue merror mtold mtolds) := hD
    obtain ⟨u78, e79, hf⟩ := nm_T hf
    rw [← e79] at hP hD
    refine lv_aload_n hx hb dX6_addFact_212 rfl (lv_at hl 1 rfl) ?_
    refine va_get (D := (dC, dI)) (ci := 8) (v := .ref m_g) (C := RX6) (T := TX6) (N := 15) hx hb hts inX6_ hown hK hP 0 rfl rfl 0 (by decide) fl7_ (fun _ h9 => h9) rfl dX6_addFact_213 ?_
    refine lv_sipush (v := 430) hx hb dX6_addFact_216 (by decide) ?_
    refine lv_iload hx hb dX6_addFact_219 (lv_at hl 0 rfl) ?_
    refine lv_iadd hx hb dX6_addFact_221 ?_
    refine lv_iload_n hx hb dX6_addFact_222 rfl (lv_at hl 3 rfl) ?_
    obtain ⟨h80, hf⟩ := gd_T hf
    refine va_iast hx hb hK hP hD hS 1 0 rfl rfl h80 dX6_addFact_223 (fun H81 locs hP hD hS => ?_)
    have hP : va_P (dC, dI) vwCl (wM_ m0 m_g m_kept m_spare m_was m_text m_told cI (upd u78 ((430 + (mg ((1 : Int32).toNatClampNeg))).toNatClampNeg) l2) mkept mspare mhasKept mwas mwasMany manew mthrown mtext mlength mspot mvalue merror mtold mtolds) H81 := hP
    have hD : va_D A (wM_ m0 m_g m_kept m_spare m_was m_text m_told cI (upd u78 ((430 + (mg ((1 : Int32).toNatClampNeg))).toNatClampNeg) l2) mkept mspare mhasKept mwas mwasMany manew mthrown mtext mlength mspot mvalue merror mtold mtolds) := hD
    obtain ⟨u82, e83, hf⟩ := nm_T hf
    rw [← e83] at hP hD
    refine lv_aload_n hx hb dX6_addFact_224 rfl (lv_at hl 1 rfl) ?_
    refine va_get (D := (dC, dI)) (ci := 8) (v := .ref m_g) (C := RX6) (T := TX6) (N := 15) hx hb hts inX6_ hown hK hP 0 rfl rfl 0 (by decide) fl7_ (fun _ h9 => h9) rfl dX6_addFact_225 ?_
    refine lv_sipush (v := 490) hx hb dX6_addFact_228 (by decide) ?_
    refine lv_iload hx hb dX6_addFact_231 (lv_at hl 0 rfl) ?_
    refine lv_iadd hx hb dX6_addFact_233 ?_
    refine lv_iload_n hx hb dX6_addFact_234 rfl (lv_at hl 4 rfl) ?_
    obtain ⟨h84, hf⟩ := gd_T hf
    refine va_iast hx hb hK hP hD hS 1 0 rfl rfl h84 dX6_addFact_235 (fun H85 locs hP hD hS => ?_)
    have hP : va_P (dC, dI) vwCl (wM_ m0 m_g m_kept m_spare m_was m_text m_told cI (upd u82 ((490 + (mg ((1 : Int32).toNatClampNeg))).toNatClampNeg) l3) mkept mspare mhasKept mwas mwasMany manew mthrown mtext mlength mspot mvalue merror mtold mtolds) H85 := hP
    have hD : va_D A (wM_ m0 m_g m_kept m_spare m_was m_text m_told cI (upd u82 ((490 + (mg ((1 : Int32).toNatClampNeg))).toNatClampNeg) l3) mkept mspare mhasKept mwas mwasMany manew mthrown mtext mlength mspot mvalue merror mtold mtolds) := hD
    obtain ⟨u86, e87, hf⟩ := nm_T hf
    rw [← e87] at hP hD
    refine lv_aload_n hx hb dX6_addFact_236 rfl (lv_at hl 1 rfl) ?_
    obtain ⟨R103, g104, hf⟩ := bd_B hf
    obtain ⟨mg88, mk89, ms90, mh91, mw92, mw93, ma94, mt95, mt96, ml97, ms98, mv99, me100, mt101, mt102⟩ := R103
    dsimp only at hf
    have hPc := hP
    have hDc := hD
    have hFc := va_free (wc := wM_ m0 m_g m_kept m_spare m_was m_text m_told cI u86 mkept mspare mhasKept mwas mwasMany manew mthrown mtext mlength mspot mvalue merror mtold mtolds) hD hS hA [0, 1, 2, 3, 4, 5, 6] rfl
    refine va_callv (va_runV (As := []) (rest := []) ⟨hx, hb, hml, hown, hts⟩ (c_X6_ends l dC dI cI cZ cC cJ cD m0 m_g m_kept m_spare m_was m_text m_told H85.size u86 mkept mspare mhasKept mwas mwasMany manew mthrown mtext mlength mspot mvalue merror mtold mtolds (mg88, mk89, ms90, mh91, mw92, mw93, ma94, mt95, mt96, ml97, ms98, mv99, me100, mt101, mt102) g104) (cwV 0 hts gX6_addFact_X6_ends rfl rfl rfl hs_X6_ends ⟨Nat.le_of_ble_eq_true rfl, Nat.le_of_ble_eq_true rfl⟩) (preV_ (ci := 8) (q0 := 0) hPc hK hDc rfl rfl rfl rfl) rfl rfl hl.1 rfl (lv_room (Nat.le_of_ble_eq_true rfl)) dX6_addFact_237 ⟨Nat.le_of_ble_eq_true rfl, Nat.le_of_ble_eq_true rfl⟩) hS (fun q _ h => hFc q h) hFc (fun u t H105 locs ht hvm hw hB hz1 hk1 hS => ?_)
    obtain ⟨hP, hD⟩ := aft_ (Wr := []) (Wc' := wM_ m0 m_g m_kept m_spare m_was m_text m_told cI mg88 mk89 ms90 mh91 mw92 mw93 ma94 mt95 mt96 ml97 ms98 mv99 me100 mt101 mt102) (W2 := wM_ m0 m_g m_kept m_spare m_was m_text m_told cI mg88 mk89 ms90 mh91 mw92 mw93 ma94 mt95 mt96 ml97 ms98 mv99 me100 mt101 mt102) hP hD [0, 1, 2, 3, 4, 5, 6] [] [0, 1, 2, 3, 4, 5, 6] rfl rfl (by decide) (by decide) (by decide) hk1 hFc hB ht rfl
    refine lv_aload_n hx hb dX6_addFact_240 rfl (lv_at hl 1 rfl) ?_
    refine lv_iload hx hb dX6_addFact_241 (lv_at hl 0 rfl) ?_
    obtain ⟨R108, g109, hf⟩ := bd_B hf
    obtain ⟨r107, rfl⟩ : ∃ z, z = R108 := ⟨_, rfl⟩
    have hPc := hP
    have hDc := hD
    have hFc := va_free (wc := wM_ m0 m_g m_kept m_spare m_was m_text m_told cI mg88 mk89 ms90 mh91 mw92 mw93 ma94 mt95 mt96 ml97 ms98 mv99 me100 mt101 mt102) hD hS hA [0, 1, 2, 3, 4, 5, 6] rfl
    refine va_calli (va_runV (As := [.int (mg ((1 : Int32).toNatClampNeg))]) (rest := []) ⟨hx, hb, hml, hown, hts⟩ (c_X6_versionOf l dC dI cI cZ cC cJ cD m0 m_g m_kept m_spare m_was m_text m_told H105.size mg88 mk89 ms90 mh91 mw92 mw93 ma94 mt95 mt96 ml97 ms98 mv99 me100 mt101 mt102 (mg ((1 : Int32).toNatClampNeg)) r107 g109) (cwV 1 hts gX6_addFact_X6_versionOf rfl rfl rfl hs_X6_versionOf ⟨Nat.le_of_ble_eq_true rfl, Nat.le_of_ble_eq_true rfl⟩) (preV_ (ci := 8) (q0 := 0) hPc hK hDc rfl rfl rfl rfl) rfl rfl hl.1 rfl (lv_room (Nat.le_of_ble_eq_true rfl)) dX6_addFact_243 ⟨Nat.le_of_ble_eq_true rfl, Nat.le_of_ble_eq_true rfl⟩) hS (fun q _ h => hFc q h) hFc (fun z111 u t H110 locs ht hvm hw hB hz1 hk1 hS => ?_)
    have hw : r107 = z111 := hw.symm
    subst hw
    obtain ⟨hP, hD⟩ := aft_ (Wr := []) (Wc' := wM_ m0 m_g m_kept m_spare m_was m_text m_told cI mg88 mk89 ms90 mh91 mw92 mw93 ma94 mt95 mt96 ml97 ms98 mv99 me100 mt101 mt102) (W2 := wM_ m0 m_g m_kept m_spare m_was m_text m_told cI mg88 mk89 ms90 mh91 mw92 mw93 ma94 mt95 mt96 ml97 ms98 mv99 me100 mt101 mt102) hP hD [0, 1, 2, 3, 4, 5, 6] [] [0, 1, 2, 3, 4, 5, 6] rfl rfl (by decide) (by decide) (by decide) hk1 hFc hB ht rfl
    have hR := Option.some.inj hf
    subst hR
    exact W.iret (v := r107) hx hb hr (fun t ht hW => ⟨⟨r107, (), rfl, rfl, by rw [ht]; exact hP, va_K.moved hW.alike hK, hD⟩, hS.F ht⟩) hS.2.2 dX6_addFact_246
  have bl176 : ∀ (l1 : Int32) (l2 : Int32) (l3 : Int32) (l4 : Int32) (l5 : Int32) (l6 : Int32) (k1_ : Int32) (k2_ : Int32) (k3_ : Int32) (mg : Nat → Int32) (mkept : Nat → Int32) (mspare : Nat → Int32) (mhasKept : Int32) (mwas : Nat → Int32) (mwasMany : Int32) (manew : Int32) (mthrown : Int32) (mtext : Nat → Int32) (mlength : Int32) (mspot : Int32) (mvalue : Int32) (merror : Int32) (mtold : Nat → Int32) (mtolds : Int32) (H113 : Heap) (locs : List Loc) (ls : Array Slot), f_X6_addFact_J176 l1 l2 l3 l4 l5 l6 k1_ k2_ k3_ (mg, mkept, mspare, mhasKept, mwas, mwasMany, manew, mthrown, mtext, mlength, mspot, mvalue, merror, mtold, mtolds) = some R → va_P (dC, dI) vwCl (wM_ m0 m_g m_kept m_spare m_was m_text m_told cI mg mkept mspare mhasKept mwas mwasMany manew mthrown mtext mlength mspot mvalue merror mtold mtolds) H113 → va_D A (wM_ m0 m_g m_kept m_spare m_was m_text m_told cI mg mkept mspare mhasKept mwas mwasMany manew mthrown mtext mlength mspot mvalue merror mtold mtolds) → va_S A s.heap H113 locs → lv_has ls 8 [(0, .ref m0), (1, .int l1), (2, .int l2), (3, .int l3), (4, .int l4), (5, .int l5), (6, .int l6)] → W p l e (headSpec wsX6_addFact rm_X6_addFact).room s m args below meth c H113 locs 0 0 (MQ below (Qi_ (dC, dI) (ty_ cI cZ cC cJ cD) R.1 (wM_ m0 m_g m_kept m_spare m_was m_text m_told cI R.2.1 R.2.2.1 R.2.2.2.1 R.2.2.2.2.1 R.2.2.2.2.2.1 R.2.2.2.2.2.2.1 R.2.2.2.2.2.2.2.1 R.2.2.2.2.2.2.2.2.1 R.2.2.2.2.2.2.2.2.2.1 R.2.2.2.2.2.2.2.2.2.2.1 R.2.2.2.2.2.2.2.2.2.2.2.1 R.2.2.2.2.2.2.2.2.2.2.2.2.1 R.2.2.2.2.2.2.2.2.2.2.2.2.2.1 R.2.2.2.2.2.2.2.2.2.2.2.2.2.2.1 R.2.2.2.2.2.2.2.2.2.2.2.2.2.2.2) A) args s 0 0 A) (F0 m 176 ls [.int k3_, .int k2_, .int k1_, .ref m0]) := by
    intro l1 l2 l3 l4 l5 l6 k1_ k2_ k3_ mg mkept mspare mhasKept mwas mwasMany manew mthrown mtext mlength mspot mvalue merror mtold mtolds H113 locs ls hf hP hD hS hl
    unfold f_X6_addFact_J176 at hf
    dsimp only at hf
    refine lv_iconst (v := 0) hx hb dX6_addFact_176 (by decide) ?_
    refine lv_iconst (v := 1) hx hb dX6_addFact_177 (by decide) ?_
    obtain ⟨R130, g131, hf⟩ := bd_B hf
    obtain ⟨r114, ⟨mg115, mk116, ms117, mh118, mw119, mw120, ma121, mt122, mt123, ml124, ms125, mv126, me127, mt128, mt129⟩⟩ := R130
    dsimp only at hf
    have hPc := hP
    have hDc := hD
    have hFc := va_free (wc := wM_ m0 m_g m_kept m_spare m_was m_text m_told cI mg mkept mspare mhasKept mwas mwasMany manew mthrown mtext mlength mspot mvalue merror mtold mtolds) hD hS hA [0, 1, 2, 3, 4, 5, 6] rfl
    refine va_calli (va_runV (As := [.int k1_, .int k2_, .int k3_, .int 0, .int 1]) (rest := []) ⟨hx, hb, hml, hown, hts⟩ (c_X6_makes l dC dI cI cZ cC cJ cD m0 m_g m_kept m_spare m_was m_text m_told H113.size mg mkept mspare mhasKept mwas mwasMany manew mthrown mtext mlength mspot mvalue merror mtold mtolds k1_ k2_ k3_ (0 : Int32) (1 : Int32) (r114, (mg115, mk116, ms117, mh118, mw119, mw120, ma121, mt122, mt123, ml124, ms125, mv126, me127, mt128, mt129)) g131) (cwV 5 hts gX6_addFact_X6_makes rfl rfl rfl hs_X6_makes ⟨Nat.le_of_ble_eq_true rfl, Nat.le_of_ble_eq_true rfl⟩) (preV_ (ci := 8) (q0 := 0) hPc hK hDc rfl rfl rfl rfl) rfl rfl hl.1 rfl (lv_room (Nat.le_of_ble_eq_true rfl)) dX6_addFact_178 ⟨Nat.le_of_ble_eq_true rfl, Nat.le_of_ble_eq_true rfl⟩) hS (fun q _ h => hFc q h) hFc (fun z133 u t H132 locs ht hvm hw hB hz1 hk1 hS => ?_)
    have hw : r114 = z133 := hw.symm
    subst hw
    obtain ⟨hP, hD⟩ := aft_ (Wr := []) (Wc' := wM_ m0 m_g m_kept m_spare m_was m_text m_told cI mg115 mk116 ms117 mh118 mw119 mw120 ma121 mt122 mt123 ml124 ms125 mv126 me127 mt128 mt129) (W2 := wM_ m0 m_g m_kept m_spare m_was m_text m_told cI mg115 mk116 ms117 mh118 mw119 mw120 ma121 mt122 mt123 ml124 ms125 mv126 me127 mt128 mt129) hP hD [0, 1, 2, 3, 4, 5, 6] [] [0, 1, 2, 3, 4, 5, 6] rfl rfl (by decide) (by decide) (by decide) hk1 hFc hB ht rfl
    refine lv_pop hx hb dX6_addFact_181 rfl ?_
    exact bl182 l1 l2 l3 l4 l5 l6 mg115 mk116 ms117 mh118 mw119 mw120 ma121 mt122 mt123 ml124 ms125 mv126 me127 mt128 mt129 _ _ _ hf hP hD hS (lv_sub hl [0, 1, 2, 3, 4, 5, 6] rfl)
  have bl122 : ∀ (l1 : Int32) (l2 : Int32) (l3 : Int32) (l4 : Int32) (l5 : Int32) (l6 : Int32) (mg : Nat → Int32) (mkept : Nat → Int32) (mspare : Nat → Int32) (mhasKept : Int32) (mwas : Nat → Int32) (mwasMany : Int32) (manew : Int32) (mthrown : Int32) (mtext : Nat → Int32) (mlength : Int32) (mspot : Int32) (mvalue : Int32) (merror : Int32) (mtold : Nat → Int32) (mtolds : Int32) (H47 : Heap) (locs : List Loc) (ls : Array Slot), f_X6_addFact_J122 l1 l2 l3 l4 l5 l6 (mg, mkept, mspare, mhasKept, mwas, mwasMany, manew, mthrown, mtext, mlength, mspot, mvalue, merror, mtold, mtolds) = some R → va_P (dC, dI) vwCl (wM_ m0 m_g m_kept m_spare m_was m_text m_told cI mg mkept mspare mhasKept mwas mwasMany manew mthrown mtext mlength mspot mvalue merror mtold mtolds) H47 → va_D A (wM_ m0 m_g m_kept m_spare m_was m_text m_told cI mg mkept mspare mhasKept mwas mwasMany manew mthrown mtext mlength mspot mvalue merror mtold mtolds) → va_S A s.heap H47 locs → lv_has ls 8 [(0, .ref m0), (1, .int l1), (2, .int l2), (3, .int l3), (4, .int l4), (5, .int l5), (6, .int l6)] → W p l e (headSpec wsX6_addFact rm_X6_addFact).room s m args below meth c H47 locs 0 0 (MQ below (Qi_ (dC, dI) (ty_ cI cZ cC cJ cD) R.1 (wM_ m0 m_g m_kept m_spare m_was m_text m_told cI R.2.1 R.2.2.1 R.2.2.2.1 R.2.2.2.2.1 R.2.2.2.2.2.1 R.2.2.2.2.2.2.1 R.2.2.2.2.2.2.2.1 R.2.2.2.2.2.2.2.2.1 R.2.2.2.2.2.2.2.2.2.1 R.2.2.2.2.2.2.2.2.2.2.1 R.2.2.2.2.2.2.2.2.2.2.2.1 R.2.2.2.2.2.2.2.2.2.2.2.2.1 R.2.2.2.2.2.2.2.2.2.2.2.2.2.1 R.2.2.2.2.2.2.2.2.2.2.2.2.2.2.1 R.2.2.2.2.2.2.2.2.2.2.2.2.2.2.2) A) args s 0 0 A) (F0 m 122 ls []) := by
    intro l1 l2 l3 l4 l5 l6 mg mkept mspare mhasKept mwas mwasMany manew mthrown mtext mlength mspot mvalue merror mtold mtolds H47 locs ls hf hP hD hS hl
    unfold f_X6_addFact_J122 at hf
    dsimp only at hf
    refine lv_aload_n hx hb dX6_addFact_122 rfl (lv_at hl 0 rfl) ?_
    obtain ⟨R63, g64, hf⟩ := bd_B hf
    obtain ⟨mg48, mk49, ms50, mh51, mw52, mw53, ma54, mt55, mt56, ml57, ms58, mv59, me60, mt61, mt62⟩ := R63
    dsimp only at hf
    have hPc := hP
    have hDc := hD
    have hFc := va_free (wc := wM_ m0 m_g m_kept m_spare m_was m_text m_told cI mg mkept mspare mhasKept mwas mwasMany manew mthrown mtext mlength mspot mvalue merror mtold mtolds) hD hS hA [0, 1, 2, 3, 4, 5, 6] rfl
    refine va_callv (va_runV (As := []) (rest := []) ⟨hx, hb, hml, hown, hts⟩ (c_X6_begins l dC dI cI cZ cC cJ cD m0 m_g m_kept m_spare m_was m_text m_told H47.size mg mkept mspare mhasKept mwas mwasMany manew mthrown mtext mlength mspot mvalue merror mtold mtolds (mg48, mk49, ms50, mh51, mw52, mw53, ma54, mt55, mt56, ml57, ms58, mv59, me60, mt61, mt62) g64) (cwV 0 hts gX6_addFact_X6_begins rfl rfl rfl hs_X6_begins ⟨Nat.le_of_ble_eq_true rfl, Nat.le_of_ble_eq_true rfl⟩) (preV_ (ci := 8) (q0 := 0) hPc hK hDc rfl rfl rfl rfl) rfl rfl hl.1 rfl (lv_room (Nat.le_of_ble_eq_true rfl)) dX6_addFact_123 ⟨Nat.le_of_ble_eq_true rfl, Nat.le_of_ble_eq_true rfl⟩) hS (fun q _ h => hFc q h) hFc (fun u t H65 locs ht hvm hw hB hz1 hk1 hS => ?_)
    obtain ⟨hP, hD⟩ := aft_ (Wr := []) (Wc' := wM_ m0 m_g m_kept m_spare m_was m_text m_told cI mg48 mk49 ms50 mh51 mw52 mw53 ma54 mt55 mt56 ml57 ms58 mv59 me60 mt61 mt62) (W2 := wM_ m0 m_g m_kept m_spare m_was m_text m_told cI mg48 mk49 ms50 mh51 mw52 mw53 ma54 mt55 mt56 ml57 ms58 mv59 me60 mt61 mt62) hP hD [0, 1, 2, 3, 4, 5, 6] [] [0, 1, 2, 3, 4, 5, 6] rfl rfl (by decide) (by decide) (by decide) hk1 hFc hB ht rfl
    refine lv_iload hx hb dX6_addFact_126 (lv_at hl 6 rfl) ?_
    refine lv_if_eq (tgt := 146) hx hb dX6_addFact_128 (by decide) (fun c67 => ?_) (fun c67 => ?_)
    · have hf := ite_T c67 hf
      refine lv_iload hx hb dX6_addFact_146 (lv_at hl 4 rfl) ?_
      refine lv_if_ge (tgt := 182) hx hb dX6_addFact_148 (by decide) (fun c68 => ?_) (fun c68 => ?_)
      · have hf := ite_T c68 hf
        exact bl182 l1 l2 l3 l4 l5 l6 mg48 mk49 ms50 mh51 mw52 mw53 ma54 mt55 mt56 ml57 ms58 mv59 me60 mt61 mt62 _ _ _ hf hP hD hS (lv_sub hl [0, 1, 2, 3, 4, 5, 6] rfl)
      · have hf := ite_F c68 hf
        refine lv_aload_n hx hb dX6_addFact_151 rfl (lv_at hl 0 rfl) ?_
        refine lv_iload_n hx hb dX6_addFact_152 rfl (lv_at hl 1 rfl) ?_
        refine lv_iload_n hx hb dX6_addFact_153 rfl (lv_at hl 2 rfl) ?_
        refine lv_iload hx hb dX6_addFact_154 (lv_at hl 5 rfl) ?_
        refine lv_if_lt (tgt := 173) hx hb dX6_addFact_156 (by decide) (fun c112 => ?_) (fun c112 => ?_)
        · have hf := ite_T c112 hf
          refine lv_sipush (v := 1000) hx hb dX6_addFact_173 (by decide) ?_
          exact bl176 l1 l2 l3 l4 l5 l6 l1 l2 (1000 : Int32) mg48 mk49 ms50 mh51 mw52 mw53 ma54 mt55 mt56 ml57 ms58 mv59 me60 mt61 mt62 _ _ _ hf hP hD hS (lv_sub hl [0, 1, 2, 3, 4, 5, 6] rfl)
        · have hf := ite_F c112 hf
          refine lv_aload_n hx hb dX6_addFact_159 rfl (lv_at hl 0 rfl) ?_
          refine va_get (D := (dC, dI)) (ci := 8) (v := .ref m_g) (C := RX6) (T := TX6) (N := 15) hx hb hts inX6_ hown hK hP 0 rfl rfl 0 (by decide) fl7_ (fun _ h9 => h9) rfl dX6_addFact_160 ?_
          refine lv_sipush (v := 130) hx hb dX6_addFact_163 (by decide) ?_
          refine lv_iload hx hb dX6_addFact_166 (lv_at hl 5 rfl) ?_
          refine lv_iadd hx hb dX6_addFact_168 ?_
          obtain ⟨h134, hf⟩ := gd_T hf
          refine va_iald hx hb hK hP 1 0 rfl rfl h134 dX6_addFact_169 ?_
          refine lv_goto (tgt := 176) hx hb dX6_addFact_170 (by decide) ?_
          exact bl176 l1 l2 l3 l4 l5 l6 l1 l2 (mg48 ((130 + l5).toNatClampNeg)) mg48 mk49 ms50 mh51 mw52 mw53 ma54 mt55 mt56 ml57 ms58 mv59 me60 mt61 mt62 _ _ _ hf hP hD hS (lv_sub hl [0, 1, 2, 3, 4, 5, 6] rfl)
    · have hf := ite_F c67 hf
      refine lv_aload_n hx hb dX6_addFact_131 rfl (lv_at hl 0 rfl) ?_
      refine va_get (D := (dC, dI)) (ci := 8) (v := .ref m_g) (C := RX6) (T := TX6) (N := 15) hx hb hts inX6_ hown hK hP 0 rfl rfl 0 (by decide) fl7_ (fun _ h9 => h9) rfl dX6_addFact_132 ?_
      refine lv_sipush (v := 130) hx hb dX6_addFact_135 (by decide) ?_
      refine lv_iload hx hb dX6_addFact_138 (lv_at hl 5 rfl) ?_
      refine lv_iadd hx hb dX6_addFact_140 ?_
      refine lv_iload_n hx hb dX6_addFact_141 rfl (lv_at hl 2 rfl) ?_
      obtain ⟨h135, hf⟩ := gd_T hf
      refine va_iast hx hb hK hP hD hS 1 0 rfl rfl h135 dX6_addFact_142 (fun H136 locs hP hD hS => ?_)
      have hP : va_P (dC, dI) vwCl (wM_ m0 m_g m_kept m_spare m_was m_text m_told cI (upd mg48 ((130 + l5).toNatClampNeg) l2) mk49 ms50 mh51 mw52 mw53 ma54 mt55 mt56 ml57 ms58 mv59 me60 mt61 mt62) H136 := hP
      have hD : va_D A (wM_ m0 m_g m_kept m_spare m_was m_text m_told cI (upd mg48 ((130 + l5).toNatClampNeg) l2) mk49 ms50 mh51 mw52 mw53 ma54 mt55 mt56 ml57 ms58 mv59 me60 mt61 mt62) := hD
      obtain ⟨u137, e138, hf⟩ := nm_T hf
      rw [← e138] at hP hD
      refine lv_goto (tgt := 182) hx hb dX6_addFact_143 (by decide) ?_
      exact bl182 l1 l2 l3 l4 l5 l6 u137 mk49 ms50 mh51 mw52 mw53 ma54 mt55 mt56 ml57 ms58 mv59 me60 mt61 mt62 _ _ _ hf hP hD hS (lv_sub hl [0, 1, 2, 3, 4, 5, 6] rfl)
  have bl82 : ∀ (l1 : Int32) (l2 : Int32) (l3 : Int32) (l4 : Int32) (l5 : Int32) (k0_ : Int32) (mg : Nat → Int32) (mkept : Nat → Int32) (mspare : Nat → Int32) (mhasKept : Int32) (mwas : Nat → Int32) (mwasMany : Int32) (manew : Int32) (mthrown : Int32) (mtext : Nat → Int32) (mlength : Int32) (mspot : Int32) (mvalue : Int32) (merror : Int32) (mtold : Nat → Int32) (mtolds : Int32) (H22 : Heap) (locs : List Loc) (ls : Array Slot), f_X6_addFact_J82 l1 l2 l3 l4 l5 k0_ (mg, mkept, mspare, mhasKept, mwas, mwasMany, manew, mthrown, mtext, mlength, mspot, mvalue, merror, mtold, mtolds) = some R → va_P (dC, dI) vwCl (wM_ m0 m_g m_kept m_spare m_was m_text m_told cI mg mkept mspare mhasKept mwas mwasMany manew mthrown mtext mlength mspot mvalue merror mtold mtolds) H22 → va_D A (wM_ m0 m_g m_kept m_spare m_was m_text m_told cI mg mkept mspare mhasKept mwas mwasMany manew mthrown mtext mlength mspot mvalue merror mtold mtolds) → va_S A s.heap H22 locs → lv_has ls 8 [(0, .ref m0), (1, .int l1), (2, .int l2), (3, .int l3), (4, .int l4), (5, .int l5)] → W p l e (headSpec wsX6_addFact rm_X6_addFact).room s m args below meth c H22 locs 0 0 (MQ below (Qi_ (dC, dI) (ty_ cI cZ cC cJ cD) R.1 (wM_ m0 m_g m_kept m_spare m_was m_text m_told cI R.2.1 R.2.2.1 R.2.2.2.1 R.2.2.2.2.1 R.2.2.2.2.2.1 R.2.2.2.2.2.2.1 R.2.2.2.2.2.2.2.1 R.2.2.2.2.2.2.2.2.1 R.2.2.2.2.2.2.2.2.2.1 R.2.2.2.2.2.2.2.2.2.2.1 R.2.2.2.2.2.2.2.2.2.2.2.1 R.2.2.2.2.2.2.2.2.2.2.2.2.1 R.2.2.2.2.2.2.2.2.2.2.2.2.2.1 R.2.2.2.2.2.2.2.2.2.2.2.2.2.2.1 R.2.2.2.2.2.2.2.2.2.2.2.2.2.2.2) A) args s 0 0 A) (F0 m 82 ls [.int k0_]) := by
    intro l1 l2 l3 l4 l5 k0_ mg mkept mspare mhasKept mwas mwasMany manew mthrown mtext mlength mspot mvalue merror mtold mtolds H22 locs ls hf hP hD hS hl
    unfold f_X6_addFact_J82 at hf
    dsimp only at hf
    refine lv_istore (lv' := [(6, .int k0_), (0, .ref m0), (1, .int l1), (2, .int l2), (3, .int l3), (4, .int l4), (5, .int l5)]) hx hb dX6_addFact_82 hl (by decide) rfl (fun ls hl => ?_)
    refine lv_aload_n hx hb dX6_addFact_84 rfl (lv_at hl 1 rfl) ?_
    refine va_get (D := (dC, dI)) (ci := 8) (v := .ref m_g) (C := RX6) (T := TX6) (N := 15) hx hb hts inX6_ hown hK hP 0 rfl rfl 0 (by decide) fl7_ (fun _ h9 => h9) rfl dX6_addFact_85 ?_
    refine lv_iconst (v := 1) hx hb dX6_addFact_88 (by decide) ?_
    obtain ⟨h23, hf⟩ := gd_T hf
    refine va_iald hx hb hK hP 1 0 rfl rfl h23 dX6_addFact_89 ?_
    refine lv_bipush (v := 60) hx hb dX6_addFact_90 (by decide) ?_
    refine lv_icmp_eq (tgt := 116) hx hb dX6_addFact_92 (by decide) (fun c24 => ?_) (fun c24 => ?_)
    · have hf := ite_T c24 hf
      exact bl116 l1 l2 l3 l4 l5 k0_ mg mkept mspare mhasKept mwas mwasMany manew mthrown mtext mlength mspot mvalue merror mtold mtolds _ _ _ hf hP hD hS (lv_sub hl [1, 2, 3, 4, 5, 6, 0] rfl)
    · have hf := ite_F c24 hf
      refine lv_iload hx hb dX6_addFact_95 (lv_at hl 5 rfl) ?_
      refine lv_if_ge (tgt := 122) hx hb dX6_addFact_97 (by decide) (fun c46 => ?_) (fun c46 => ?_)
      · have hf := ite_T c46 hf
        exact bl122 l1 l2 l3 l4 l5 k0_ mg mkept mspare mhasKept mwas mwasMany manew mthrown mtext mlength mspot mvalue merror mtold mtolds _ _ _ hf hP hD hS (lv_sub hl [1, 2, 3, 4, 5, 6, 0] rfl)
      · have hf := ite_F c46 hf
        refine lv_iload hx hb dX6_addFact_100 (lv_at hl 0 rfl) ?_
        refine lv_if_ne (tgt := 122) hx hb dX6_addFact_102 (by decide) (fun c139 => ?_) (fun c139 => ?_)
        · have hf := ite_F c139 hf
          exact bl122 l1 l2 l3 l4 l5 k0_ mg mkept mspare mhasKept mwas mwasMany manew mthrown mtext mlength mspot mvalue merror mtold mtolds _ _ _ hf hP hD hS (lv_sub hl [1, 2, 3, 4, 5, 6, 0] rfl)
        · have hf := ite_T c139 hf
          refine lv_aload_n hx hb dX6_addFact_105 rfl (lv_at hl 1 rfl) ?_
          refine va_get (D := (dC, dI)) (ci := 8) (v := .ref m_g) (C := RX6) (T := TX6) (N := 15) hx hb hts inX6_ hown hK hP 0 rfl rfl 0 (by decide) fl7_ (fun _ h9 => h9) rfl dX6_addFact_106 ?_
          refine lv_iconst (v := 0) hx hb dX6_addFact_109 (by decide) ?_
          obtain ⟨h140, hf⟩ := gd_T hf
          refine va_iald hx hb hK hP 1 0 rfl rfl h140 dX6_addFact_110 ?_
          refine lv_bipush (v := 60) hx hb dX6_addFact_111 (by decide) ?_
          refine lv_icmp_ne (tgt := 122) hx hb dX6_addFact_113 (by decide) (fun c141 => ?_) (fun c141 => ?_)
          · have hf := ite_F c141 hf
            exact bl122 l1 l2 l3 l4 l5 k0_ mg mkept mspare mhasKept mwas mwasMany manew mthrown mtext mlength mspot mvalue merror mtold mtolds _ _ _ hf hP hD hS (lv_sub hl [1, 2, 3, 4, 5, 6, 0] rfl)
          · have hf := ite_T c141 hf
            exact bl116 l1 l2 l3 l4 l5 k0_ mg mkept mspare mhasKept mwas mwasMany manew mthrown mtext mlength mspot mvalue merror mtold mtolds _ _ _ hf hP hD hS (lv_sub hl [1, 2, 3, 4, 5, 6, 0] rfl)
  have bl81 : ∀ (l1 : Int32) (l2 : Int32) (l3 : Int32) (l4 : Int32) (l5 : Int32) (mg : Nat → Int32) (mkept : Nat → Int32) (mspare : Nat → Int32) (mhasKept : Int32) (mwas : Nat → Int32) (mwasMany : Int32) (manew : Int32) (mthrown : Int32) (mtext : Nat → Int32) (mlength : Int32) (mspot : Int32) (mvalue : Int32) (merror : Int32) (mtold : Nat → Int32) (mtolds : Int32) (H21 : Heap) (locs : List Loc) (ls : Array Slot), f_X6_addFact_J81 l1 l2 l3 l4 l5 (mg, mkept, mspare, mhasKept, mwas, mwasMany, manew, mthrown, mtext, mlength, mspot, mvalue, merror, mtold, mtolds) = some R → va_P (dC, dI) vwCl (wM_ m0 m_g m_kept m_spare m_was m_text m_told cI mg mkept mspare mhasKept mwas mwasMany manew mthrown mtext mlength mspot mvalue merror mtold mtolds) H21 → va_D A (wM_ m0 m_g m_kept m_spare m_was m_text m_told cI mg mkept mspare mhasKept mwas mwasMany manew mthrown mtext mlength mspot mvalue merror mtold mtolds) → va_S A s.heap H21 locs → lv_has ls 8 [(0, .ref m0), (1, .int l1), (2, .int l2), (3, .int l3), (4, .int l4), (5, .int l5)] → W p l e (headSpec wsX6_addFact rm_X6_addFact).room s m args below meth c H21 locs 0 0 (MQ below (Qi_ (dC, dI) (ty_ cI cZ cC cJ cD) R.1 (wM_ m0 m_g m_kept m_spare m_was m_text m_told cI R.2.1 R.2.2.1 R.2.2.2.1 R.2.2.2.2.1 R.2.2.2.2.2.1 R.2.2.2.2.2.2.1 R.2.2.2.2.2.2.2.1 R.2.2.2.2.2.2.2.2.1 R.2.2.2.2.2.2.2.2.2.1 R.2.2.2.2.2.2.2.2.2.2.1 R.2.2.2.2.2.2.2.2.2.2.2.1 R.2.2.2.2.2.2.2.2.2.2.2.2.1 R.2.2.2.2.2.2.2.2.2.2.2.2.2.1 R.2.2.2.2.2.2.2.2.2.2.2.2.2.2.1 R.2.2.2.2.2.2.2.2.2.2.2.2.2.2.2) A) args s 0 0 A) (F0 m 81 ls []) := by
    intro l1 l2 l3 l4 l5 mg mkept mspare mhasKept mwas mwasMany manew mthrown mtext mlength mspot mvalue merror mtold mtolds H21 locs ls hf hP hD hS hl
    unfold f_X6_addFact_J81 at hf
    dsimp only at hf
    refine lv_iconst (v := 0) hx hb dX6_addFact_81 (by decide) ?_
    exact bl82 l1 l2 l3 l4 l5 (0 : Int32) mg mkept mspare mhasKept mwas mwasMany manew mthrown mtext mlength mspot mvalue merror mtold mtolds _ _ _ hf hP hD hS (lv_sub hl [0, 1, 2, 3, 4, 5] rfl)
  have bl24 : ∀ (l1 : Int32) (l2 : Int32) (l3 : Int32) (k1_ : Int32) (mg : Nat → Int32) (mkept : Nat → Int32) (mspare : Nat → Int32) (mhasKept : Int32) (mwas : Nat → Int32) (mwasMany : Int32) (manew : Int32) (mthrown : Int32) (mtext : Nat → Int32) (mlength : Int32) (mspot : Int32) (mvalue : Int32) (merror : Int32) (mtold : Nat → Int32) (mtolds : Int32) (H7 : Heap) (locs : List Loc) (ls : Array Slot), f_X6_addFact_J24 l1 l2 l3 k1_ (mg, mkept, mspare, mhasKept, mwas, mwasMany, manew, mthrown, mtext, mlength, mspot, mvalue, merror, mtold, mtolds) = some R → va_P (dC, dI) vwCl (wM_ m0 m_g m_kept m_spare m_was m_text m_told cI mg mkept mspare mhasKept mwas mwasMany manew mthrown mtext mlength mspot mvalue merror mtold mtolds) H7 → va_D A (wM_ m0 m_g m_kept m_spare m_was m_text m_told cI mg mkept mspare mhasKept mwas mwasMany manew mthrown mtext mlength mspot mvalue merror mtold mtolds) → va_S A s.heap H7 locs → lv_has ls 8 [(0, .ref m0), (1, .int l1), (2, .int l2), (3, .int l3)] → W p l e (headSpec wsX6_addFact rm_X6_addFact).room s m args below meth c H7 locs 0 0 (MQ below (Qi_ (dC, dI) (ty_ cI cZ cC cJ cD) R.1 (wM_ m0 m_g m_kept m_spare m_was m_text m_told cI R.2.1 R.2.2.1 R.2.2.2.1 R.2.2.2.2.1 R.2.2.2.2.2.1 R.2.2.2.2.2.2.1 R.2.2.2.2.2.2.2.1 R.2.2.2.2.2.2.2.2.1 R.2.2.2.2.2.2.2.2.2.1 R.2.2.2.2.2.2.2.2.2.2.1 R.2.2.2.2.2.2.2.2.2.2.2.1 R.2.2.2.2.2.2.2.2.2.2.2.2.1 R.2.2.2.2.2.2.2.2.2.2.2.2.2.1 R.2.2.2.2.2.2.2.2.2.2.2.2.2.2.1 R.2.2.2.2.2.2.2.2.2.2.2.2.2.2.2) A) args s 0 0 A) (F0 m 24 ls [.int k1_, .ref m0]) := by
    intro l1 l2 l3 k1_ mg mkept mspare mhasKept mwas mwasMany manew mthrown mtext mlength mspot mvalue merror mtold mtolds H7 locs ls hf hP hD hS hl
    unfold f_X6_addFact_J24 at hf
    dsimp only at hf
    refine va_put (D := (dC, dI)) (ci := 8) (v := .int k1_) (ty := .int) (C := RX6) (T := TX6) (N := 15) hx hb hts inX6_ tyX6 tyX6_ok nmX6 hown hK hP hD hS 0 rfl rfl 7 (by decide) fl32_ (fun _ h9 => h9) rfl (by decide +kernel) (by first | rfl | decide) (by first | rfl | decide) (Nat.le_of_ble_eq_true rfl) dX6_addFact_24 (fun H8 locs hP hD hS => ?_)
    have hP : va_P (dC, dI) vwCl (wM_ m0 m_g m_kept m_spare m_was m_text m_told cI mg mkept mspare mhasKept mwas mwasMany manew k1_ mtext mlength mspot mvalue merror mtold mtolds) H8 := hP
    have hD : va_D A (wM_ m0 m_g m_kept m_spare m_was m_text m_told cI mg mkept mspare mhasKept mwas mwasMany manew k1_ mtext mlength mspot mvalue merror mtold mtolds) := hD
    refine lv_aload_n hx hb dX6_addFact_27 rfl (lv_at hl 0 rfl) ?_
    refine va_get (D := (dC, dI)) (ci := 8) (v := .int k1_) (C := RX6) (T := TX6) (N := 15) hx hb hts inX6_ hown hK hP 0 rfl rfl 7 (by decide) fl32_ (fun _ h9 => h9) rfl dX6_addFact_28 ?_
    refine lv_if_le (tgt := 36) hx hb dX6_addFact_31 (by decide) (fun c9 => ?_) (fun c9 => ?_)
    · have hf := ite_T c9 hf
      refine lv_aload_n hx hb dX6_addFact_36 rfl (lv_at hl 0 rfl) ?_
      refine lv_iload_n hx hb dX6_addFact_37 rfl (lv_at hl 1 rfl) ?_
      refine lv_iload_n hx hb dX6_addFact_38 rfl (lv_at hl 2 rfl) ?_
      obtain ⟨R11, g12, hf⟩ := bd_B hf
      obtain ⟨r10, rfl⟩ : ∃ z, z = R11 := ⟨_, rfl⟩
      have hPc := hP
      have hDc := hD
      have hFc := va_free (wc := wM_ m0 m_g m_kept m_spare m_was m_text m_told cI mg mkept mspare mhasKept mwas mwasMany manew k1_ mtext mlength mspot mvalue merror mtold mtolds) hD hS hA [0, 1, 2, 3, 4, 5, 6] rfl
      refine va_calli (va_runV (As := [.int l1, .int l2]) (rest := []) ⟨hx, hb, hml, hown, hts⟩ (c_X6_valid l dC dI cI cZ cC cJ cD m0 m_g m_kept m_spare m_was m_text m_told H8.size mg mkept mspare mhasKept mwas mwasMany manew k1_ mtext mlength mspot mvalue merror mtold mtolds l1 l2 r10 g12) (cwV 2 hts gX6_addFact_X6_valid rfl rfl rfl hs_X6_valid ⟨Nat.le_of_ble_eq_true rfl, Nat.le_of_ble_eq_true rfl⟩) (preV_ (ci := 8) (q0 := 0) hPc hK hDc rfl rfl rfl rfl) rfl rfl hl.1 rfl (lv_room (Nat.le_of_ble_eq_true rfl)) dX6_addFact_39 ⟨Nat.le_of_ble_eq_true rfl, Nat.le_of_ble_eq_true rfl⟩) hS (fun q _ h => hFc q h) hFc (fun z14 u t H13 locs ht hvm hw hB hz1 hk1 hS => ?_)
      have hw : r10 = z14 := hw.symm
      subst hw
      obtain ⟨hP, hD⟩ := aft_ (Wr := []) (Wc' := wM_ m0 m_g m_kept m_spare m_was m_text m_told cI mg mkept mspare mhasKept mwas mwasMany manew k1_ mtext mlength mspot mvalue merror mtold mtolds) (W2 := wM_ m0 m_g m_kept m_spare m_was m_text m_told cI mg mkept mspare mhasKept mwas mwasMany manew k1_ mtext mlength mspot mvalue merror mtold mtolds) hP hD [0, 1, 2, 3, 4, 5, 6] [] [0, 1, 2, 3, 4, 5, 6] rfl rfl (by decide) (by decide) (by decide) hk1 hFc hB ht rfl
      refine lv_istore (lv' := [(4, .int r10), (0, .ref m0), (1, .int l1), (2, .int l2), (3, .int l3)]) hx hb dX6_addFact_42 hl (by decide) rfl (fun ls hl => ?_)
      refine lv_aload_n hx hb dX6_addFact_44 rfl (lv_at hl 1 rfl) ?_
      refine lv_iload_n hx hb dX6_addFact_45 rfl (lv_at hl 2 rfl) ?_
      refine lv_iload_n hx hb dX6_addFact_46 rfl (lv_at hl 3 rfl) ?_
      obtain ⟨R16, g17, hf⟩ := bd_B hf
      obtain ⟨r15, rfl⟩ : ∃ z, z = R16 := ⟨_, rfl⟩
      have hPc := hP
      have hDc := hD
      have hFc := va_free (wc := wM_ m0 m_g m_kept m_spare m_was m_text m_told cI mg mkept mspare mhasKept mwas mwasMany manew k1_ mtext mlength mspot mvalue merror mtold mtolds) hD hS hA [0, 1, 2, 3, 4, 5, 6] rfl
      refine va_calli (va_runV (As := [.int l1, .int l2]) (rest := []) ⟨hx, hb, hml, hown, hts⟩ (c_X6_following l dC dI cI cZ cC cJ cD m0 m_g m_kept m_spare m_was m_text m_told H13.size mg mkept mspare mhasKept mwas mwasMany manew k1_ mtext mlength mspot mvalue merror mtold mtolds l1 l2 r15 g17) (cwV 2 hts gX6_addFact_X6_following rfl rfl rfl hs_X6_following ⟨Nat.le_of_ble_eq_true rfl, Nat.le_of_ble_eq_true rfl⟩) (preV_ (ci := 8) (q0 := 0) hPc hK hDc rfl rfl rfl rfl) rfl rfl hl.1 rfl (lv_room (Nat.le_of_ble_eq_true rfl)) dX6_addFact_47 ⟨Nat.le_of_ble_eq_true rfl, Nat.le_of_ble_eq_true rfl⟩) hS (fun q _ h => hFc q h) hFc (fun z19 u t H18 locs ht hvm hw hB hz1 hk1 hS => ?_)
      have hw : r15 = z19 := hw.symm
      subst hw
      obtain ⟨hP, hD⟩ := aft_ (Wr := []) (Wc' := wM_ m0 m_g m_kept m_spare m_was m_text m_told cI mg mkept mspare mhasKept mwas mwasMany manew k1_ mtext mlength mspot mvalue merror mtold mtolds) (W2 := wM_ m0 m_g m_kept m_spare m_was m_text m_told cI mg mkept mspare mhasKept mwas mwasMany manew k1_ mtext mlength mspot mvalue merror mtold mtolds) hP hD [0, 1, 2, 3, 4, 5, 6] [] [0, 1, 2, 3, 4, 5, 6] rfl rfl (by decide) (by decide) (by decide) hk1 hFc hB ht rfl
      refine lv_istore (lv' := [(5, .int r15), (4, .int r10), (0, .ref m0), (1, .int l1), (2, .int l2), (3, .int l3)]) hx hb dX6_addFact_50 hl (by decide) rfl (fun ls hl => ?_)
      refine lv_iload hx hb dX6_addFact_52 (lv_at hl 1 rfl) ?_
      refine lv_if_ge (tgt := 81) hx hb dX6_addFact_54 (by decide) (fun c20 => ?_) (fun c20 => ?_)
      · have hf := ite_T c20 hf
        exact bl81 l1 l2 l3 r10 r15 mg mkept mspare mhasKept mwas mwasMany manew k1_ mtext mlength mspot mvalue merror mtold mtolds _ _ _ hf hP hD hS (lv_sub hl [2, 3, 4, 5, 1, 0] rfl)
      · have hf := ite_F c20 hf
        refine lv_iload hx hb dX6_addFact_57 (lv_at hl 0 rfl) ?_
        refine lv_if_lt (tgt := 81) hx hb dX6_addFact_59 (by decide) (fun c142 => ?_) (fun c142 => ?_)
        · have hf := ite_T c142 hf
          exact bl81 l1 l2 l3 r10 r15 mg mkept mspare mhasKept mwas mwasMany manew k1_ mtext mlength mspot mvalue merror mtold mtolds _ _ _ hf hP hD hS (lv_sub hl [2, 3, 4, 5, 1, 0] rfl)
        · have hf := ite_F c142 hf
          refine lv_aload_n hx hb dX6_addFact_62 rfl (lv_at hl 2 rfl) ?_
          refine va_get (D := (dC, dI)) (ci := 8) (v := .ref m_g) (C := RX6) (T := TX6) (N := 15) hx hb hts inX6_ hown hK hP 0 rfl rfl 0 (by decide) fl7_ (fun _ h9 => h9) rfl dX6_addFact_63 ?_
          refine lv_sipush (v := 310) hx hb dX6_addFact_66 (by decide) ?_
          refine lv_iload hx hb dX6_addFact_69 (lv_at hl 0 rfl) ?_
          refine lv_iadd hx hb dX6_addFact_71 ?_
          obtain ⟨h143, hf⟩ := gd_T hf
          refine va_iald hx hb hK hP 1 0 rfl rfl h143 dX6_addFact_72 ?_
          refine lv_iconst (v := 1) hx hb dX6_addFact_73 (by decide) ?_
          refine lv_icmp_ne (tgt := 81) hx hb dX6_addFact_74 (by decide) (fun c144 => ?_) (fun c144 => ?_)
          · have hf := ite_F c144 hf
            exact bl81 l1 l2 l3 r10 r15 mg mkept mspare mhasKept mwas mwasMany manew k1_ mtext mlength mspot mvalue merror mtold mtolds _ _ _ hf hP hD hS (lv_sub hl [2, 3, 4, 5, 1, 0] rfl)
          · have hf := ite_T c144 hf
            refine lv_iconst (v := 1) hx hb dX6_addFact_77 (by decide) ?_
            refine lv_goto (tgt := 82) hx hb dX6_addFact_78 (by decide) ?_
            exact bl82 l1 l2 l3 r10 r15 (1 : Int32) mg mkept mspare mhasKept mwas mwasMany manew k1_ mtext mlength mspot mvalue merror mtold mtolds _ _ _ hf hP hD hS (lv_sub hl [2, 3, 4, 5, 1, 0] rfl)
    · have hf := ite_F c9 hf
      refine lv_iconst (v := 0) hx hb dX6_addFact_34 (by decide) ?_
      have hR := Option.some.inj hf
      subst hR
      exact W.iret (v := (0 : Int32)) hx hb hr (fun t ht hW => ⟨⟨(0 : Int32), (), rfl, rfl, by rw [ht]; exact hP, va_K.moved hW.alike hK, hD⟩, hS.F ht⟩) hS.2.2 dX6_addFact_35
  refine lv_aload_n hx hb dX6_addFact_0 rfl (lv_at hl 0 rfl) ?_
  refine lv_iload_n hx hb dX6_addFact_1 rfl (lv_at hl 1 rfl) ?_
  obtain ⟨R2, g3, hf⟩ := bd_B hf
  obtain ⟨r1, rfl⟩ : ∃ z, z = R2 := ⟨_, rfl⟩
  have hPc := hP.sub (ws' := []) [] rfl
  have hDc := hD.sub (ws' := []) [] (by decide) rfl
  have hFc := va_free (wc := []) hD hS hA [] rfl
  refine va_calli (va_runS (As := [.int a1]) (rest := [.ref m0]) ⟨hx, hb, hml, hown, hts⟩ (c_X6_isKey l dC dI cI cZ cC cJ cD s.heap.size a1 r1 g3) (cwS 1 hts gX6_addFact_X6_isKey rfl rfl rfl hs_X6_isKey ⟨Nat.le_of_ble_eq_true rfl, Nat.le_of_ble_eq_true rfl⟩) (preS_ hPc hK hDc rfl) rfl rfl hl.1 rfl (lv_room (Nat.le_of_ble_eq_true rfl)) dX6_addFact_2 ⟨Nat.le_of_ble_eq_true rfl, Nat.le_of_ble_eq_true rfl⟩) hS (fun q _ h => hFc q h) hFc (fun z5 u t H4 locs ht hvm hw hB hz1 hk1 hS => ?_)
  have hw : r1 = z5 := hw.symm
  subst hw
  obtain ⟨hP, hD⟩ := aft_ (Wr := wM_ m0 m_g m_kept m_spare m_was m_text m_told cI mg mkept mspare mhasKept mwas mwasMany manew mthrown mtext mlength mspot mvalue merror mtold mtolds) (Wc' := []) (W2 := wM_ m0 m_g m_kept m_spare m_was m_text m_told cI mg mkept mspare mhasKept mwas mwasMany manew mthrown mtext mlength mspot mvalue merror mtold mtolds) hP hD [] [0, 1, 2, 3, 4, 5, 6] [0, 1, 2, 3, 4, 5, 6] rfl rfl (by decide) (by decide) (by decide) hk1 hFc hB ht rfl
  refine lv_if_eq (tgt := 23) hx hb dX6_addFact_5 (by decide) (fun c6 => ?_) (fun c6 => ?_)
  · have hf := ite_T c6 hf
    refine lv_iconst (v := 1) hx hb dX6_addFact_23 (by decide) ?_
    exact bl24 a1 a2 a3 (1 : Int32) mg mkept mspare mhasKept mwas mwasMany manew mthrown mtext mlength mspot mvalue merror mtold mtolds _ _ _ hf hP hD hS (lv_sub hl [0, 1, 2, 3] rfl)
  · have hf := ite_F c6 hf
    refine lv_iload_n hx hb dX6_addFact_8 rfl (lv_at hl 2 rfl) ?_
    obtain ⟨R146, g147, hf⟩ := bd_B hf
    obtain ⟨r145, rfl⟩ : ∃ z, z = R146 := ⟨_, rfl⟩
    have hPc := hP.sub (ws' := []) [] rfl
    have hDc := hD.sub (ws' := []) [] (by decide) rfl
    have hFc := va_free (wc := []) hD hS hA [] rfl
    refine va_calli (va_runS (As := [.int a2]) (rest := [.ref m0]) ⟨hx, hb, hml, hown, hts⟩ (c_X6_isDay l dC dI cI cZ cC cJ cD H4.size a2 r145 g147) (cwS 1 hts gX6_addFact_X6_isDay rfl rfl rfl hs_X6_isDay ⟨Nat.le_of_ble_eq_true rfl, Nat.le_of_ble_eq_true rfl⟩) (preS_ hPc hK hDc rfl) rfl rfl hl.1 rfl (lv_room (Nat.le_of_ble_eq_true rfl)) dX6_addFact_9 ⟨Nat.le_of_ble_eq_true rfl, Nat.le_of_ble_eq_true rfl⟩) hS (fun q _ h => hFc q h) hFc (fun z149 u t H148 locs ht hvm hw hB hz1 hk1 hS => ?_)
    have hw : r145 = z149 := hw.symm
    subst hw
    obtain ⟨hP, hD⟩ := aft_ (Wr := wM_ m0 m_g m_kept m_spare m_was m_text m_told cI mg mkept mspare mhasKept mwas mwasMany manew mthrown mtext mlength mspot mvalue merror mtold mtolds) (Wc' := []) (W2 := wM_ m0 m_g m_kept m_spare m_was m_text m_told cI mg mkept mspare mhasKept mwas mwasMany manew mthrown mtext mlength mspot mvalue merror mtold mtolds) hP hD [] [0, 1, 2, 3, 4, 5, 6] [0, 1, 2, 3, 4, 5, 6] rfl rfl (by decide) (by decide) (by decide) hk1 hFc hB ht rfl
    refine lv_if_eq (tgt := 19) hx hb dX6_addFact_12 (by decide) (fun c150 => ?_) (fun c150 => ?_)
    · have hf := ite_T c150 hf
      refine lv_iconst (v := 2) hx hb dX6_addFact_19 (by decide) ?_
      refine lv_goto (tgt := 24) hx hb dX6_addFact_20 (by decide) ?_
      exact bl24 a1 a2 a3 (2 : Int32) mg mkept mspare mhasKept mwas mwasMany manew mthrown mtext mlength mspot mvalue merror mtold mtolds _ _ _ hf hP hD hS (lv_sub hl [0, 1, 2, 3] rfl)
    · have hf := ite_F c150 hf
      refine lv_iconst (v := 0) hx hb dX6_addFact_15 (by decide) ?_
      refine lv_goto (tgt := 24) hx hb dX6_addFact_16 (by decide) ?_
      exact bl24 a1 a2 a3 (0 : Int32) mg mkept mspare mhasKept mwas mwasMany manew mthrown mtext mlength mspot mvalue merror mtold mtolds _ _ _ hf hP hD hS (lv_sub hl [0, 1, 2, 3] rfl)
theorem hs_X6_addFact : yX6_addFact.cls = RX6 ∧ yX6_addFact.cls ≠ "java/lang/invoke/MethodHandle" ∧ yX6_addFact.cls ≠ "java/lang/invoke/VarHandle" ∧ (parseMethodDescriptor yX6_addFact.desc).map (fun d => d.parameters.length) = some 3 := by decide +kernel
