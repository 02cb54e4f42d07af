set_option maxRecDepth 20000 in
theorem in_X6_clear_X6 : ∀ w ∈ wsX60, w ∈ wsX6_clear := by decide +kernel
def f_X6_clear  (M_ : tM_) : Option (Int32 × tM_) :=
match M_ with
| (mg, mkept, mspare, mhasKept, mwas, mwasMany, manew, mthrown, mtext, mlength, mspot, mvalue, merror, mtold, mtolds) =>
bd_ (f_X6_there (mg, mkept, mspare, mhasKept, mwas, mwasMany, manew, 0, mtext, mlength, mspot, mvalue, merror, mtold, mtolds)) (fun r2 =>
gd_ (0 : Int32) 610 (nm_ (upd mg ((0 : Int32).toNatClampNeg) (0 : Int32)) (fun u9 =>
gd_ (1 : Int32) 610 (nm_ (upd u9 ((1 : Int32).toNatClampNeg) (0 : Int32)) (fun u13 =>
gd_ (2 : Int32) 610 (nm_ (upd u13 ((2 : Int32).toNatClampNeg) (0 : Int32)) (fun u17 =>
some (r2, (u17, mkept, mspare, mhasKept, mwas, mwasMany, 0, 0, mtext, mlength, mspot, mvalue, merror, mtold, mtolds)))))))))
abbrev rm_X6_clear : Room := { frames := 1, cells := 0, slots := 0, locals := 22 }
set_option maxHeartbeats 4000000 in
set_option maxRecDepth 100000 in
theorem c_X6_clear (l : Launch) (dC : Nat → ClassId) (dI : Nat → Nat → Nat) (cI cZ cC cJ cD : ClassId) (m0 m_g m_kept m_spare m_was m_text m_told : Nat) (sz : Nat) (mg : Nat → Int32) (mkept : Nat → Int32) (mspare : Nat → Int32) (mhasKept : Int32) (mwas : Nat → Int32) (mwasMany : Int32) (manew : Int32) (mthrown : Int32) (mtext : Nat → Int32) (mlength : Int32) (mspot : Int32) (mvalue : Int32) (merror : Int32) (mtold : Nat → Int32) (mtolds : Int32)  (R : Int32 × tM_) (hf : f_X6_clear  (mg, mkept, mspare, mhasKept, mwas, mwasMany, manew, mthrown, mtext, mlength, mspot, mvalue, merror, mtold, mtolds) = some R) : Met l yX6_clear wsX6_clear rm_X6_clear (Pc_ (dC, dI) (ty_ cI cZ cC cJ cD) (wM_ m0 m_g m_kept m_spare m_was m_text m_told cI mg mkept mspare mhasKept mwas mwasMany manew mthrown mtext mlength mspot mvalue merror mtold mtolds) sz [.ref m0]) (Qi_ (dC, dI) (ty_ cI cZ cC cJ cD) R.1 (wM_ m0 m_g m_kept m_spare m_was m_text m_told cI R.2.1 R.2.2.1 R.2.2.2.1 R.2.2.2.2.1 R.2.2.2.2.2.1 R.2.2.2.2.2.2.1 R.2.2.2.2.2.2.2.1 R.2.2.2.2.2.2.2.2.1 R.2.2.2.2.2.2.2.2.2.1 R.2.2.2.2.2.2.2.2.2.2.1 R.2.2.2.2.2.2.2.2.2.2.2.1 R.2.2.2.2.2.2.2.2.2.2.2.2.1 R.2.2.2.2.2.2.2.2.2.2.2.2.2.1 R.2.2.2.2.2.2.2.2.2.2.2.2.2.2.1 R.2.2.2.2.2.2.2.2.2.2.2.2.2.2.2) (va_A (wM_ m0 m_g m_kept m_spare m_was m_text m_told cI mg mkept mspare mhasKept mwas mwasMany manew mthrown mtext mlength mspot mvalue merror mtold mtolds) sz)) 0 0 (va_A (wM_ m0 m_g m_kept m_spare m_was m_text m_told cI mg mkept mspare mhasKept mwas mwasMany manew mthrown mtext mlength mspot mvalue merror mtold mtolds) sz) := by
  refine met_ (cc := cX6_clear) (maxL := 2) (ret := (some .int)) (Qcf := fun A => Qi_ (dC, dI) (ty_ cI cZ cC cJ cD) R.1 (wM_ m0 m_g m_kept m_spare m_was m_text m_told cI R.2.1 R.2.2.1 R.2.2.2.1 R.2.2.2.2.1 R.2.2.2.2.2.1 R.2.2.2.2.2.2.1 R.2.2.2.2.2.2.2.1 R.2.2.2.2.2.2.2.2.1 R.2.2.2.2.2.2.2.2.2.1 R.2.2.2.2.2.2.2.2.2.2.1 R.2.2.2.2.2.2.2.2.2.2.2.1 R.2.2.2.2.2.2.2.2.2.2.2.2.1 R.2.2.2.2.2.2.2.2.2.2.2.2.2.1 R.2.2.2.2.2.2.2.2.2.2.2.2.2.2.1 R.2.2.2.2.2.2.2.2.2.2.2.2.2.2.2) A) (by decide) rfl (Nat.le_of_ble_eq_true rfl) ?_
  intro p e s m args below meth c A ls hx hb hr hts hown hlocks hml hA hP hK hD hl
  have hown : s.vm.findClass RX6 = some m.cls := hown
  have hl : lv_has ls 2 [(0, .ref m0)] := hl
  have hS : va_S A s.heap s.heap [] := va_S.rf
  have fl7_ : (Cond.fieldLink RX6 7 "DimensionLoaderModel" "g" "[I").before args s = true := hts _ (List.mem_of_getElem? (i := 2) rfl)
  have fl32_ : (Cond.fieldLink RX6 32 "DimensionLoaderModel" "thrown" "I").before args s = true := hts _ (List.mem_of_getElem? (i := 1) rfl)
  have fl65_ : (Cond.fieldLink RX6 65 "DimensionLoaderModel" "anew" "I").before args s = true := hts _ (List.mem_of_getElem? (i := 3) rfl)
  have inX6_ : ∀ w ∈ wsX60, w ∈ wsX6_clear := in_X6_clear_X6
  unfold f_X6_clear at hf
  dsimp only at hf
  refine lv_aload_n hx hb dX6_clear_0 rfl (lv_at hl 0 rfl) ?_
  refine lv_iconst (v := 0) hx hb dX6_clear_1 (by decide) ?_
  refine va_put (D := (dC, dI)) (ci := 8) (v := .int 0) (ty := .int) (C := RX6) (T := TX6) (N := 15) hx hb hts inX6_ tyX6 tyX6_ok nmX6 hown hK hP hD hS 0 rfl rfl 7 (by decide) fl32_ (fun _ h9 => h9) rfl (by decide +kernel) (by first | rfl | decide) (by first | rfl | decide) (Nat.le_of_ble_eq_true rfl) dX6_clear_2 (fun H1 locs hP hD hS => ?_)
  have hP : va_P (dC, dI) vwCl (wM_ m0 m_g m_kept m_spare m_was m_text m_told cI mg mkept mspare mhasKept mwas mwasMany manew 0 mtext mlength mspot mvalue merror mtold mtolds) H1 := hP
  have hD : va_D A (wM_ m0 m_g m_kept m_spare m_was m_text m_told cI mg mkept mspare mhasKept mwas mwasMany manew 0 mtext mlength mspot mvalue merror mtold mtolds) := hD
  refine lv_aload_n hx hb dX6_clear_5 rfl (lv_at hl 0 rfl) ?_
  obtain ⟨R3, g4, hf⟩ := bd_B hf
  obtain ⟨r2, rfl⟩ : ∃ z, z = R3 := ⟨_, rfl⟩
  have hPc := hP
  have hDc := hD
  have hFc := va_free (wc := wM_ m0 m_g m_kept m_spare m_was m_text m_told cI mg mkept mspare mhasKept mwas mwasMany manew 0 mtext mlength mspot mvalue merror mtold mtolds) hD hS hA [0, 1, 2, 3, 4, 5, 6] rfl
  refine va_calli (va_runV (As := []) (rest := []) ⟨hx, hb, hml, hown, hts⟩ (c_X6_there l dC dI cI cZ cC cJ cD m0 m_g m_kept m_spare m_was m_text m_told H1.size mg mkept mspare mhasKept mwas mwasMany manew (0 : Int32) mtext mlength mspot mvalue merror mtold mtolds r2 g4) (cwV 0 hts gX6_clear_X6_there rfl rfl rfl hs_X6_there ⟨Nat.le_of_ble_eq_true rfl, Nat.le_of_ble_eq_true rfl⟩) (preV_ (ci := 8) (q0 := 0) hPc hK hDc rfl rfl rfl rfl) rfl rfl hl.1 rfl (lv_room (Nat.le_of_ble_eq_true rfl)) dX6_clear_6 ⟨Nat.le_of_ble_eq_true rfl, Nat.le_of_ble_eq_true rfl⟩) hS (fun q _ h => hFc q h) hFc (fun z6 u t H5 locs ht hvm hw hB hz1 hk1 hS => ?_)
  have hw : r2 = z6 := hw.symm
  subst hw
  obtain ⟨hP, hD⟩ := aft_ (Wr := []) (Wc' := wM_ m0 m_g m_kept m_spare m_was m_text m_told cI mg mkept mspare mhasKept mwas mwasMany manew 0 mtext mlength mspot mvalue merror mtold mtolds) (W2 := wM_ m0 m_g m_kept m_spare m_was m_text m_told cI mg mkept mspare mhasKept mwas mwasMany manew 0 mtext mlength mspot mvalue merror mtold mtolds) hP hD [0, 1, 2, 3, 4, 5, 6] [] [0, 1, 2, 3, 4, 5, 6] rfl rfl (by decide) (by decide) (by decide) hk1 hFc hB ht rfl
  refine lv_istore_n (lv' := [(1, .int r2), (0, .ref m0)]) hx hb dX6_clear_9 rfl hl (by decide) rfl (fun ls hl => ?_)
  refine lv_aload_n hx hb dX6_clear_10 rfl (lv_at hl 1 rfl) ?_
  refine va_get (D := (dC, dI)) (ci := 8) (v := .ref m_g) (C := RX6) (T := TX6) (N := 15) hx hb hts inX6_ hown hK hP 0 rfl rfl 0 (by decide) fl7_ (fun _ h9 => h9) rfl dX6_clear_11 ?_
  refine lv_iconst (v := 0) hx hb dX6_clear_14 (by decide) ?_
  refine lv_iconst (v := 0) hx hb dX6_clear_15 (by decide) ?_
  obtain ⟨h7, hf⟩ := gd_T hf
  refine va_iast hx hb hK hP hD hS 1 0 rfl rfl h7 dX6_clear_16 (fun H8 locs hP hD hS => ?_)
  have hP : va_P (dC, dI) vwCl (wM_ m0 m_g m_kept m_spare m_was m_text m_told cI (upd mg ((0 : Int32).toNatClampNeg) (0 : Int32)) mkept mspare mhasKept mwas mwasMany manew 0 mtext mlength mspot mvalue merror mtold mtolds) H8 := hP
  have hD : va_D A (wM_ m0 m_g m_kept m_spare m_was m_text m_told cI (upd mg ((0 : Int32).toNatClampNeg) (0 : Int32)) mkept mspare mhasKept mwas mwasMany manew 0 mtext mlength mspot mvalue merror mtold mtolds) := hD
  obtain ⟨u9, e10, hf⟩ := nm_T hf
  rw [← e10] at hP hD
  refine lv_aload_n hx hb dX6_clear_17 rfl (lv_at hl 1 rfl) ?_
  refine va_get (D := (dC, dI)) (ci := 8) (v := .ref m_g) (C := RX6) (T := TX6) (N := 15) hx hb hts inX6_ hown hK hP 0 rfl rfl 0 (by decide) fl7_ (fun _ h9 => h9) rfl dX6_clear_18 ?_
  refine lv_iconst (v := 1) hx hb dX6_clear_21 (by decide) ?_
  refine lv_iconst (v := 0) hx hb dX6_clear_22 (by decide) ?_
  obtain ⟨h11, hf⟩ := gd_T hf
  refine va_iast hx hb hK hP hD hS 1 0 rfl rfl h11 dX6_clear_23 (fun H12 locs hP hD hS => ?_)
  have hP : va_P (dC, dI) vwCl (wM_ m0 m_g m_kept m_spare m_was m_text m_told cI (upd u9 ((1 : Int32).toNatClampNeg) (0 : Int32)) mkept mspare mhasKept mwas mwasMany manew 0 mtext mlength mspot mvalue merror mtold mtolds) H12 := hP
  have hD : va_D A (wM_ m0 m_g m_kept m_spare m_was m_text m_told cI (upd u9 ((1 : Int32).toNatClampNeg) (0 : Int32)) mkept mspare mhasKept mwas mwasMany manew 0 mtext mlength mspot mvalue merror mtold mtolds) := hD
  obtain ⟨u13, e14, hf⟩ := nm_T hf
  rw [← e14] at hP hD
  refine lv_aload_n hx hb dX6_clear_24 rfl (lv_at hl 1 rfl) ?_
  refine va_get (D := (dC, dI)) (ci := 8) (v := .ref m_g) (C := RX6) (T := TX6) (N := 15) hx hb hts inX6_ hown hK hP 0 rfl rfl 0 (by decide) fl7_ (fun _ h9 => h9) rfl dX6_clear_25 ?_
  refine lv_iconst (v := 2) hx hb dX6_clear_28 (by decide) ?_
  refine lv_iconst (v := 0) hx hb dX6_clear_29 (by decide) ?_
  obtain ⟨h15, hf⟩ := gd_T hf
  refine va_iast hx hb hK hP hD hS 1 0 rfl rfl h15 dX6_clear_30 (fun H16 locs hP hD hS => ?_)
  have hP : va_P (dC, dI) vwCl (wM_ m0 m_g m_kept m_spare m_was m_text m_told cI (upd u13 ((2 : Int32).toNatClampNeg) (0 : Int32)) mkept mspare mhasKept mwas mwasMany manew 0 mtext mlength mspot mvalue merror mtold mtolds) H16 := hP
  have hD : va_D A (wM_ m0 m_g m_kept m_spare m_was m_text m_told cI (upd u13 ((2 : Int32).toNatClampNeg) (0 : Int32)) mkept mspare mhasKept mwas mwasMany manew 0 mtext mlength mspot mvalue merror mtold mtolds) := hD
  obtain ⟨u17, e18, hf⟩ := nm_T hf
  rw [← e18] at hP hD
  refine lv_aload_n hx hb dX6_clear_31 rfl (lv_at hl 1 rfl) ?_
  refine lv_iconst (v := 0) hx hb dX6_clear_32 (by decide) ?_
  refine va_put (D := (dC, dI)) (ci := 8) (v := .int 0) (ty := .int) (C := RX6) (T := TX6) (N := 15) hx hb hts inX6_ tyX6 tyX6_ok nmX6 hown hK hP hD hS 0 rfl rfl 6 (by decide) fl65_ (fun _ h9 => h9) rfl (by decide +kernel) (by first | rfl | decide) (by first | rfl | decide) (Nat.le_of_ble_eq_true rfl) dX6_clear_33 (fun H19 locs hP hD hS => ?_)
  have hP : va_P (dC, dI) vwCl (wM_ m0 m_g m_kept m_spare m_was m_text m_told cI u17 mkept mspare mhasKept mwas mwasMany 0 0 mtext mlength mspot mvalue merror mtold mtolds) H19 := hP
  have hD : va_D A (wM_ m0 m_g m_kept m_spare m_was m_text m_told cI u17 mkept mspare mhasKept mwas mwasMany 0 0 mtext mlength mspot mvalue merror mtold mtolds) := hD
  refine lv_iload_n hx hb dX6_clear_36 rfl (lv_at hl 0 rfl) ?_
  have hR := Option.some.inj hf
  subst hR
  exact W.iret (v := r2) hx hb hr (fun t ht hW => ⟨⟨r2, (), rfl, rfl, by rw [ht]; exact hP, va_K.moved hW.alike hK, hD⟩, hS.F ht⟩) hS.2.2 dX6_clear_37
theorem hs_X6_clear : yX6_clear.cls = RX6 ∧ yX6_clear.cls ≠ "java/lang/invoke/MethodHandle" ∧ yX6_clear.cls ≠ "java/lang/invoke/VarHandle" ∧ (parseMethodDescriptor yX6_clear.desc).map (fun d => d.parameters.length) = some 0 := by decide +kernel
set_option maxRecDepth 20000 in
theorem in_X6_versionCount_X6 : ∀ w ∈ wsX60, w ∈ wsX6_versionCount := by decide +kernel
def f_X6_versionCount  (M_ : tM_) : Option (Int32 × tM_) :=
match M_ with
| (mg, mkept, mspare, mhasKept, mwas, mwasMany, manew, mthrown, mtext, mlength, mspot, mvalue, merror, mtold, mtolds) =>
bd_ (f_X6_there (mg, mkept, mspare, mhasKept, mwas, mwasMany, manew, 0, mtext, mlength, mspot, mvalue, merror, mtold, mtolds)) (fun r2 =>
some (r2, (mg, mkept, mspare, mhasKept, mwas, mwasMany, manew, 0, mtext, mlength, mspot, mvalue, merror, mtold, mtolds)))
abbrev rm_X6_versionCount : Room := { frames := 1, cells := 0, slots := 0, locals := 22 }
set_option maxHeartbeats 4000000 in
set_option maxRecDepth 100000 in
theorem c_X6_versionCount (l : Launch) (dC : Nat → ClassId) (dI : Nat → Nat → Nat) (cI cZ cC cJ cD : ClassId) (m0 m_g m_kept m_spare m_was m_text m_told : Nat) (sz : Nat) (mg : Nat → Int32) (mkept : Nat → Int32) (mspare : Nat → Int32) (mhasKept : Int32) (mwas : Nat → Int32) (mwasMany : Int32) (manew : Int32) (mthrown : Int32) (mtext : Nat → Int32) (mlength : Int32) (mspot : Int32) (mvalue : Int32) (merror : Int32) (mtold : Nat → Int32) (mtolds : Int32)  (R : Int32 × tM_) (hf : f_X6_versionCount  (mg, mkept, mspare, mhasKept, mwas, mwasMany, manew, mthrown, mtext, mlength, mspot, mvalue, merror, mtold, mtolds) = some R) : Met l yX6_versionCount wsX6_versionCount rm_X6_versionCount (Pc_ (dC, dI) (ty_ cI cZ cC cJ cD) (wM_ m0 m_g m_kept m_spare m_was m_text m_told cI mg mkept mspare mhasKept mwas mwasMany manew mthrown mtext mlength mspot mvalue merror mtold mtolds) sz [.ref m0]) (Qi_ (dC, dI) (ty_ cI cZ cC cJ cD) R.1 (wM_ m0 m_g m_kept m_spare m_was m_text m_told cI R.2.1 R.2.2.1 R.2.2.2.1 R.2.2.2.2.1 R.2.2.2.2.2.1 R.2.2.2.2.2.2.1 R.2.2.2.2.2.2.2.1 R.2.2.2.2.2.2.2.2.1 R.2.2.2.2.2.2.2.2.2.1 R.2.2.2.2.2.2.2.2.2.2.1 R.2.2.2.2.2.2.2.2.2.2.2.1 R.2.2.2.2.2.2.2.2.2.2.2.2.1 R.2.2.2.2.2.2.2.2.2.2.2.2.2.1 R.2.2.2.2.2.2.2.2.2.2.2.2.2.2.1 R.2.2.2.2.2.2.2.2.2.2.2.2.2.2.2) (va_A (wM_ m0 m_g m_kept m_spare m_was m_text m_told cI mg mkept mspare mhasKept mwas mwasMany manew mthrown mtext mlength mspot mvalue merror mtold mtolds) sz)) 0 0 (va_A (wM_ m0 m_g m_kept m_spare m_was m_text m_told cI mg mkept mspare mhasKept mwas mwasMany manew mthrown mtext mlength mspot mvalue merror mtold mtolds) sz) := by
  refine met_ (cc := cX6_versionCount) (maxL := 1) (ret := (some .int)) (Qcf := fun A => Qi_ (dC, dI) (ty_ cI cZ cC cJ cD) R.1 (wM_ m0 m_g m_kept m_spare m_was m_text m_told cI R.2.1 R.2.2.1 R.2.2.2.1 R.2.2.2.2.1 R.2.2.2.2.2.1 R.2.2.2.2.2.2.1 R.2.2.2.2.2.2.2.1 R.2.2.2.2.2.2.2.2.1 R.2.2.2.2.2.2.2.2.2.1 R.2.2.2.2.2.2.2.2.2.2.1 R.2.2.2.2.2.2.2.2.2.2.2.1 R.2.2.2.2.2.2.2.2.2.2.2.2.1 R.2.2.2.2.2.2.2.2.2.2.2.2.2.1 R.2.2.2.2.2.2.2.2.2.2.2.2.2.2.1 R.2.2.2.2.2.2.2.2.2.2.2.2.2.2.2) A) (by decide) rfl (Nat.le_of_ble_eq_true rfl) ?_
  intro p e s m args below meth c A ls hx hb hr hts hown hlocks hml hA hP hK hD hl
  have hown : s.vm.findClass RX6 = some m.cls := hown
  have hl : lv_has ls 1 [(0, .ref m0)] := hl
  have hS : va_S A s.heap s.heap [] := va_S.rf
  have fl32_ : (Cond.fieldLink RX6 32 "DimensionLoaderModel" "thrown" "I").before args s = true := hts _ (List.mem_of_getElem? (i := 1) rfl)
  have inX6_ : ∀ w ∈ wsX60, w ∈ wsX6_versionCount := in_X6_versionCount_X6
  unfold f_X6_versionCount at hf
  dsimp only at hf
  refine lv_aload_n hx hb dX6_versionCount_0 rfl (lv_at hl 0 rfl) ?_
  refine lv_iconst (v := 0) hx hb dX6_versionCount_1 (by decide) ?_
  refine va_put (D := (dC, dI)) (ci := 8) (v := .int 0) (ty := .int) (C := RX6) (T := TX6) (N := 15) hx hb hts inX6_ tyX6 tyX6_ok nmX6 hown hK hP hD hS 0 rfl rfl 7 (by decide) fl32_ (fun _ h9 => h9) rfl (by decide +kernel) (by first | rfl | decide) (by first | rfl | decide) (Nat.le_of_ble_eq_true rfl) dX6_versionCount_2 (fun H1 locs hP hD hS => ?_)
  have hP : va_P (dC, dI) vwCl (wM_ m0 m_g m_kept m_spare m_was m_text m_told cI mg mkept mspare mhasKept mwas mwasMany manew 0 mtext mlength mspot mvalue merror mtold mtolds) H1 := hP
  have hD : va_D A (wM_ m0 m_g m_kept m_spare m_was m_text m_told cI mg mkept mspare mhasKept mwas mwasMany manew 0 mtext mlength mspot mvalue merror mtold mtolds) := hD
  refine lv_aload_n hx hb dX6_versionCount_5 rfl (lv_at hl 0 rfl) ?_
  obtain ⟨R3, g4, hf⟩ := bd_B hf
  obtain ⟨r2, rfl⟩ : ∃ z, z = R3 := ⟨_, rfl⟩
  have hPc := hP
  have hDc := hD
  have hFc := va_free (wc := wM_ m0 m_g m_kept m_spare m_was m_text m_told cI mg mkept mspare mhasKept mwas mwasMany manew 0 mtext mlength mspot mvalue merror mtold mtolds) hD hS hA [0, 1, 2, 3, 4, 5, 6] rfl
  refine va_calli (va_runV (As := []) (rest := []) ⟨hx, hb, hml, hown, hts⟩ (c_X6_there l dC dI cI cZ cC cJ cD m0 m_g m_kept m_spare m_was m_text m_told H1.size mg mkept mspare mhasKept mwas mwasMany manew (0 : Int32) mtext mlength mspot mvalue merror mtold mtolds r2 g4) (cwV 0 hts gX6_versionCount_X6_there rfl rfl rfl hs_X6_there ⟨Nat.le_of_ble_eq_true rfl, Nat.le_of_ble_eq_true rfl⟩) (preV_ (ci := 8) (q0 := 0) hPc hK hDc rfl rfl rfl rfl) rfl rfl hl.1 rfl (lv_room (Nat.le_of_ble_eq_true rfl)) dX6_versionCount_6 ⟨Nat.le_of_ble_eq_true rfl, Nat.le_of_ble_eq_true rfl⟩) hS (fun q _ h => hFc q h) hFc (fun z6 u t H5 locs ht hvm hw hB hz1 hk1 hS => ?_)
  have hw : r2 = z6 := hw.symm
  subst hw
  obtain ⟨hP, hD⟩ := aft_ (Wr := []) (Wc' := wM_ m0 m_g m_kept m_spare m_was m_text m_told cI mg mkept mspare mhasKept mwas mwasMany manew 0 mtext mlength mspot mvalue merror mtold mtolds) (W2 := wM_ m0 m_g m_kept m_spare m_was m_text m_told cI mg mkept mspare mhasKept mwas mwasMany manew 0 mtext mlength mspot mvalue merror mtold mtolds) hP hD [0, 1, 2, 3, 4, 5, 6] [] [0, 1, 2, 3, 4, 5, 6] rfl rfl (by decide) (by decide) (by decide) hk1 hFc hB ht rfl
  have hR := Option.some.inj hf
  subst hR
  exact W.iret (v := r2) hx hb hr (fun t ht hW => ⟨⟨r2, (), rfl, rfl, by rw [ht]; exact hP, va_K.moved hW.alike hK, hD⟩, hS.F ht⟩) hS.2.2 dX6_versionCount_9
theorem hs_X6_versionCount : yX6_versionCount.cls = RX6 ∧ yX6_versionCount.cls ≠ "java/lang/invoke/MethodHandle" ∧ yX6_versionCount.cls ≠ "java/lang/invoke/VarHandle" ∧ (parseMethodDescriptor yX6_versionCount.desc).map (fun d => d.parameters.length) = some 0 := by decide +kernel
set_option maxRecDepth 20000 in
theorem in_X6_versionsOf_X6 : ∀ w ∈ wsX60, w ∈ wsX6_versionsOf := by decide +kernel
def f_X6_versionsOf (a1 : Int32) (M_ : tM_) : Option (Int32 × tM_) :=
match M_ with
| (mg, mkept, mspare, mhasKept, mwas, mwasMany, manew, mthrown, mtext, mlength, mspot, mvalue, merror, mtold, mtolds) =>
bd_ (f_X6_isKey a1) (fun r2 =>
if r2 = 0 then
bd_ (f_X6_fails (1 : Int32) (mg, mkept, mspare, mhasKept, mwas, mwasMany, manew, 0, mtext, mlength, mspot, mvalue, merror, mtold, mtolds)) (fun (r8, (mg9, mk10, ms11, mh12, mw13, mw14, ma15, mt16, mt17, ml18, ms19, mv20, me21, mt22, mt23)) =>
some (r8, (mg9, mk10, ms11, mh12, mw13, mw14, ma15, mt16, mt17, ml18, ms19, mv20, me21, mt22, mt23)))
else
bd_ (f_X6_many a1 (mg, mkept, mspare, mhasKept, mwas, mwasMany, manew, 0, mtext, mlength, mspot, mvalue, merror, mtold, mtolds)) (fun r28 =>
some (r28, (mg, mkept, mspare, mhasKept, mwas, mwasMany, manew, 0, mtext, mlength, mspot, mvalue, merror, mtold, mtolds))))
abbrev rm_X6_versionsOf : Room := { frames := 2, cells := 0, slots := 0, locals := 45 }
set_option maxHeartbeats 4000000 in
set_option maxRecDepth 100000 in
theorem c_X6_versionsOf (l : Launch) (dC : Nat → ClassId) (dI : Nat → Nat → Nat) (cI cZ cC cJ cD : ClassId) (m0 m_g m_kept m_spare m_was m_text m_told : Nat) (sz : Nat) (mg : Nat → Int32) (mkept : Nat → Int32) (mspare : Nat → Int32) (mhasKept : Int32) (mwas : Nat → Int32) (mwasMany : Int32) (manew : Int32) (mthrown : Int32) (mtext : Nat → Int32) (mlength : Int32) (mspot : Int32) (mvalue : Int32) (merror : Int32) (mtold : Nat → Int32) (mtolds : Int32) (a1 : Int32) (R : Int32 × tM_) (hf : f_X6_versionsOf a1 (mg, mkept, mspare, mhasKept, mwas, mwasMany, manew, mthrown, mtext, mlength, mspot, mvalue, merror, mtold, mtolds) = some R) : Met l yX6_versionsOf wsX6_versionsOf rm_X6_versionsOf (Pc_ (dC, dI) (ty_ cI cZ cC cJ cD) (wM_ m0 m_g m_kept m_spare m_was m_text m_told cI mg mkept mspare mhasKept mwas mwasMany manew mthrown mtext mlength mspot mvalue merror mtold mtolds) sz [.ref m0, .int a1]) (Qi_ (dC, dI) (ty_ cI cZ cC cJ cD) R.1 (wM_ m0 m_g m_kept m_spare m_was m_text m_told cI R.2.1 R.2.2.1 R.2.2.2.1 R.2.2.2.2.1 R.2.2.2.2.2.1 R.2.2.2.2.2.2.1 R.2.2.2.2.2.2.2.1 R.2.2.2.2.2.2.2.2.1 R.2.2.2.2.2.2.2.2.2.1 R.2.2.2.2.2.2.2.2.2.2.1 R.2.2.2.2.2.2.2.2.2.2.2.1 R.2.2.2.2.2.2.2.2.2.2.2.2.1 R.2.2.2.2.2.2.2.2.2.2.2.2.2.1 R.2.2.2.2.2.2.2.2.2.2.2.2.2.2.1 R.2.2.2.2.2.2.2.2.2.2.2.2.2.2.2) (va_A (wM_ m0 m_g m_kept m_spare m_was m_text m_told cI mg mkept mspare mhasKept mwas mwasMany manew mthrown mtext mlength mspot mvalue merror mtold mtolds) sz)) 0 0 (va_A (wM_ m0 m_g m_kept m_spare m_was m_text m_told cI mg mkept mspare mhasKept mwas mwasMany manew mthrown mtext mlength mspot mvalue merror mtold mtolds) sz) := by
  refine met_ (cc := cX6_versionsOf) (maxL := 2) (ret := (some .int)) (Qcf := fun A => Qi_ (dC, dI) (ty_ cI cZ cC cJ cD) R.1 (wM_ m0 m_g m_kept m_spare m_was m_text m_told cI R.2.1 R.2.2.1 R.2.2.2.1 R.2.2.2.2.1 R.2.2.2.2.2.1 R.2.2.2.2.2.2.1 R.2.2.2.2.2.2.2.1 R.2.2.2.2.2.2.2.2.1 R.2.2.2.2.2.2.2.2.2.1 R.2.2.2.2.2.2.2.2.2.2.1 R.2.2.2.2.2.2.2.2.2.2.2.1 R.2.2.2.2.2.2.2.2.2.2.2.2.1 R.2.2.2.2.2.2.2.2.2.2.2.2.2.1 R.2.2.2.2.2.2.2.2.2.2.2.2.2.2.1 R.2.2.2.2.2.2.2.2.2.2.2.2.2.2.2) A) (by decide) rfl (Nat.le_of_ble_eq_true rfl) ?_
  intro p e s m args below meth c A ls hx hb hr hts hown hlocks hml hA hP hK hD hl
  have hown : s.vm.findClass RX6 = some m.cls := hown
  have hl : lv_has ls 2 [(0, .ref m0), (1, .int a1)] := hl
  have hS : va_S A s.heap s.heap [] := va_S.rf
  have fl32_ : (Cond.fieldLink RX6 32 "DimensionLoaderModel" "thrown" "I").before args s = true := hts _ (List.mem_of_getElem? (i := 1) rfl)
  have inX6_ : ∀ w ∈ wsX60, w ∈ wsX6_versionsOf := in_X6_versionsOf_X6
  unfold f_X6_versionsOf at hf
  dsimp only at hf
  refine lv_aload_n hx hb dX6_versionsOf_0 rfl (lv_at hl 0 rfl) ?_
  refine lv_iconst (v := 0) hx hb dX6_versionsOf_1 (by decide) ?_
  refine va_put (D := (dC, dI)) (ci := 8) (v := .int 0) (ty := .int) (C := RX6) (T := TX6) (N := 15) hx hb hts inX6_ tyX6 tyX6_ok nmX6 hown hK hP hD hS 0 rfl rfl 7 (by decide) fl32_ (fun _ h9 => h9) rfl (by decide +kernel) (by first | rfl | decide) (by first | rfl | decide) (Nat.le_of_ble_eq_true rfl) dX6_versionsOf_2 (fun H1 locs hP hD hS => ?_)
  have hP : va_P (dC, dI) vwCl (wM_ m0 m_g m_kept m_spare m_was m_text m_told cI mg mkept mspare mhasKept mwas mwasMany manew 0 mtext mlength mspot mvalue merror mtold mtolds) H1 := hP
  have hD : va_D A (wM_ m0 m_g m_kept m_spare m_was m_text m_told cI mg mkept mspare mhasKept mwas mwasMany manew 0 mtext mlength mspot mvalue merror mtold mtolds) := hD
  refine lv_iload_n hx hb dX6_versionsOf_5 rfl (lv_at hl 1 rfl) ?_
  obtain ⟨R3, g4, hf⟩ := bd_B hf
  obtain ⟨r2, rfl⟩ : ∃ z, z = R3 := ⟨_, rfl⟩
  have hPc := hP.sub (ws' := []) [] rfl
  have hDc := hD.sub (ws' := []) [] (by decide) rfl
  have hFc := va_free (wc := []) hD hS hA [] rfl
  refine va_calli (va_runS (As := [.int a1]) (rest := []) ⟨hx, hb, hml, hown, hts⟩ (c_X6_isKey l dC dI cI cZ cC cJ cD H1.size a1 r2 g4) (cwS 1 hts gX6_versionsOf_X6_isKey rfl rfl rfl hs_X6_isKey ⟨Nat.le_of_ble_eq_true rfl, Nat.le_of_ble_eq_true rfl⟩) (preS_ hPc hK hDc rfl) rfl rfl hl.1 rfl (lv_room (Nat.le_of_ble_eq_true rfl)) dX6_versionsOf_6 ⟨Nat.le_of_ble_eq_true rfl, Nat.le_of_ble_eq_true rfl⟩) hS (fun q _ h => hFc q h) hFc (fun z6 u t H5 locs ht hvm hw hB hz1 hk1 hS => ?_)
  have hw : r2 = z6 := hw.symm
  subst hw
  obtain ⟨hP, hD⟩ := aft_ (Wr := wM_ m0 m_g m_kept m_spare m_was m_text m_told cI mg mkept mspare mhasKept mwas mwasMany manew 0 mtext mlength mspot mvalue merror mtold mtolds) (Wc' := []) (W2 := wM_ m0 m_g m_kept m_spare m_was m_text m_told cI mg mkept mspare mhasKept mwas mwasMany manew 0 mtext mlength mspot mvalue merror mtold mtolds) hP hD [] [0, 1, 2, 3, 4, 5, 6] [0, 1, 2, 3, 4, 5, 6] rfl rfl (by decide) (by decide) (by decide) hk1 hFc hB ht rfl
  refine lv_if_eq (tgt := 20) hx hb dX6_versionsOf_9 (by decide) (fun c7 => ?_) (fun c7 => ?_)
  · have hf := ite_T c7 hf
    refine lv_aload_n hx hb dX6_versionsOf_20 rfl (lv_at hl 0 rfl) ?_
    refine lv_iconst (v := 1) hx hb dX6_versionsOf_21 (by decide) ?_
    obtain ⟨R24, g25, hf⟩ := bd_B hf
    obtain ⟨r8, ⟨mg9, mk10, ms11, mh12, mw13, mw14, ma15, mt16, mt17, ml18, ms19, mv20, me21, mt22, mt23⟩⟩ := R24
    dsimp only at hf
    have hPc := hP
    have hDc := hD
    have hFc := va_free (wc := wM_ m0 m_g m_kept m_spare m_was m_text m_told cI mg mkept mspare mhasKept mwas mwasMany manew 0 mtext mlength mspot mvalue merror mtold mtolds) hD hS hA [0, 1, 2, 3, 4, 5, 6] rfl
    refine va_calli (va_runV (As := [.int 1]) (rest := []) ⟨hx, hb, hml, hown, hts⟩ (c_X6_fails l dC dI cI cZ cC cJ cD m0 m_g m_kept m_spare m_was m_text m_told H5.size mg mkept mspare mhasKept mwas mwasMany manew (0 : Int32) mtext mlength mspot mvalue merror mtold mtolds (1 : Int32) (r8, (mg9, mk10, ms11, mh12, mw13, mw14, ma15, mt16, mt17, ml18, ms19, mv20, me21, mt22, mt23)) g25) (cwV 1 hts gX6_versionsOf_X6_fails rfl rfl rfl hs_X6_fails ⟨Nat.le_of_ble_eq_true rfl, Nat.le_of_ble_eq_true rfl⟩) (preV_ (ci := 8) (q0 := 0) hPc hK hDc rfl rfl rfl rfl) rfl rfl hl.1 rfl (lv_room (Nat.le_of_ble_eq_true rfl)) dX6_versionsOf_22 ⟨Nat.le_of_ble_eq_true rfl, Nat.le_of_ble_eq_true rfl⟩) hS (fun q _ h => hFc q h) hFc (fun z27 u t H26 locs ht hvm hw hB hz1 hk1 hS => ?_)
    have hw : r8 = z27 := hw.symm
    subst hw
    obtain ⟨hP, hD⟩ := aft_ (Wr := []) (Wc' := wM_ m0 m_g m_kept m_spare m_was m_text m_told cI mg9 mk10 ms11 mh12 mw13 mw14 ma15 mt16 mt17 ml18 ms19 mv20 me21 mt22 mt23) (W2 := wM_ m0 m_g m_kept m_spare m_was m_text m_told cI mg9 mk10 ms11 mh12 mw13 mw14 ma15 mt16 mt17 ml18 ms19 mv20 me21 mt22 mt23) hP hD [0, 1, 2, 3, 4, 5, 6] [] [0, 1, 2, 3, 4, 5, 6] rfl rfl (by decide) (by decide) (by decide) hk1 hFc hB ht rfl
    have hR := Option.some.inj hf
    subst hR
    exact W.iret (v := r8) hx hb hr (fun t ht hW => ⟨⟨r8, (), rfl, rfl, by rw [ht]; exact hP, va_K.moved hW.alike hK, hD⟩, hS.F ht⟩) hS.2.2 dX6_versionsOf_25
  · have hf := ite_F c7 hf
    refine lv_aload_n hx hb dX6_versionsOf_12 rfl (lv_at hl 0 rfl) ?_
    refine lv_iload_n hx hb dX6_versionsOf_13 rfl (lv_at hl 1 rfl) ?_
    obtain ⟨R29, g30, hf⟩ := bd_B hf
    obtain ⟨r28, rfl⟩ : ∃ z, z = R29 := ⟨_, rfl⟩
    have hPc := hP
    have hDc := hD
    have hFc := va_free (wc := wM_ m0 m_g m_kept m_spare m_was m_text m_told cI mg mkept mspare mhasKept mwas mwasMany manew 0 mtext mlength mspot mvalue merror mtold mtolds) hD hS hA [0, 1, 2, 3, 4, 5, 6] rfl
    refine va_calli (va_runV (As := [.int a1]) (rest := []) ⟨hx, hb, hml, hown, hts⟩ (c_X6_many l dC dI cI cZ cC cJ cD m0 m_g m_kept m_spare m_was m_text m_told H5.size mg mkept mspare mhasKept mwas mwasMany manew (0 : Int32) mtext mlength mspot mvalue merror mtold mtolds a1 r28 g30) (cwV 1 hts gX6_versionsOf_X6_many rfl rfl rfl hs_X6_many ⟨Nat.le_of_ble_eq_true rfl, Nat.le_of_ble_eq_true rfl⟩) (preV_ (ci := 8) (q0 := 0) hPc hK hDc rfl rfl rfl rfl) rfl rfl hl.1 rfl (lv_room (Nat.le_of_ble_eq_true rfl)) dX6_versionsOf_14 ⟨Nat.le_of_ble_eq_true rfl, Nat.le_of_ble_eq_true rfl⟩) hS (fun q _ h => hFc q h) hFc (fun z32 u t H31 locs ht hvm hw hB hz1 hk1 hS => ?_)
    have hw : r28 = z32 := hw.symm
    subst hw
    obtain ⟨hP, hD⟩ := aft_ (Wr := []) (Wc' := wM_ m0 m_g m_kept m_spare m_was m_text m_told cI mg mkept mspare mhasKept mwas mwasMany manew 0 mtext mlength mspot mvalue merror mtold mtolds) (W2 := wM_ m0 m_g m_kept m_spare m_was m_text m_told cI mg mkept mspare mhasKept mwas mwasMany manew 0 mtext mlength mspot mvalue merror mtold mtolds) hP hD [0, 1, 2, 3, 4, 5, 6] [] [0, 1, 2, 3, 4, 5, 6] rfl rfl (by decide) (by decide) (by decide) hk1 hFc hB ht rfl
    refine lv_goto (tgt := 25) hx hb dX6_versionsOf_17 (by decide) ?_
    have hR := Option.some.inj hf
    subst hR
    exact W.iret (v := r28) hx hb hr (fun t ht hW => ⟨⟨r28, (), rfl, rfl, by rw [ht]; exact hP, va_K.moved hW.alike hK, hD⟩, hS.F ht⟩) hS.2.2 dX6_versionsOf_25
theorem hs_X6_versionsOf : yX6_versionsOf.cls = RX6 ∧ yX6_versionsOf.cls ≠ "java/lang/invoke/MethodHandle" ∧ yX6_versionsOf.cls ≠ "java/lang/invoke/VarHandle" ∧ (parseMethodDescriptor yX6_versionsOf.desc).map (fun d => d.parameters.length) = some 1 := by decide +kernel
set_option maxRecDepth 20000 in
theorem in_X6_versionAt_X6 : ∀ w ∈ wsX60, w ∈ wsX6_versionAt := by decide +kernel
def f_X6_versionAt (a1 : Int32) (a2 : Int32) (M_ : tM_) : Option (Int32 × tM_) :=
match M_ with
| (mg, mkept, mspare, mhasKept, mwas, mwasMany, manew, mthrown, mtext, mlength, mspot, mvalue, merror, mtold, mtolds) =>
bd_ (f_X6_isKey a1) (fun r2 =>
if r2 = 0 then
bd_ (f_X6_fails (1 : Int32) (mg, mkept, mspare, mhasKept, mwas, mwasMany, manew, 0, mtext, mlength, mspot, mvalue, merror, mtold, mtolds)) (fun (r34, (mg35, mk36, ms37, mh38, mw39, mw40, ma41, mt42, mt43, ml44, ms45, mv46, me47, mt48, mt49)) =>
some (r34, (mg35, mk36, ms37, mh38, mw39, mw40, ma41, mt42, mt43, ml44, ms45, mv46, me47, mt48, mt49)))
else
bd_ (f_X6_placed a1 a2 (mg, mkept, mspare, mhasKept, mwas, mwasMany, manew, 0, mtext, mlength, mspot, mvalue, merror, mtold, mtolds)) (fun r8 =>
if 0 ≤ r8 then
some (r8, (mg, mkept, mspare, mhasKept, mwas, mwasMany, manew, 0, mtext, mlength, mspot, mvalue, merror, mtold, mtolds))
else
bd_ (f_X6_fails (2 : Int32) (mg, mkept, mspare, mhasKept, mwas, mwasMany, manew, 0, mtext, mlength, mspot, mvalue, merror, mtold, mtolds)) (fun (r14, (mg15, mk16, ms17, mh18, mw19, mw20, ma21, mt22, mt23, ml24, ms25, mv26, me27, mt28, mt29)) =>
some (r14, (mg15, mk16, ms17, mh18, mw19, mw20, ma21, mt22, mt23, ml24, ms25, mv26, me27, mt28, mt29)))))
abbrev rm_X6_versionAt : Room := { frames := 3, cells := 0, slots := 0, locals := 68 }
set_option maxHeartbeats 4000000 in
set_option maxRecDepth 100000 in
theorem c_X6_versionAt (l : Launch) (dC : Nat → ClassId) (dI : Nat → Nat → Nat) (cI cZ cC cJ cD : ClassId) (m0 m_g m_kept m_spare m_was m_text m_told : Nat) (sz : Nat) (mg : Nat → Int32) (mkept : Nat → Int32) (mspare : Nat → Int32) (mhasKept : Int32) (mwas : Nat → Int32) (mwasMany : Int32) (manew : Int32) (mthrown : Int32) (mtext : Nat → Int32) (mlength : Int32) (mspot : Int32) (mvalue : Int32) (merror : Int32) (mtold : Nat → Int32) (mtolds : Int32) (a1 : Int32) (a2 : Int32) (R : Int32 × tM_) (hf : f_X6_versionAt a1 a2 (mg, mkept, mspare, mhasKept, mwas, mwasMany, manew, mthrown, mtext, mlength, mspot, mvalue, merror, mtold, mtolds) = some R) : Met l yX6_versionAt wsX6_versionAt rm_X6_versionAt (Pc_ (dC, dI) (ty_ cI cZ cC cJ cD) (wM_ m0 m_g m_kept m_spare m_was m_text m_told cI mg mkept mspare mhasKept mwas mwasMany manew mthrown mtext mlength mspot mvalue merror mtold mtolds) sz [.ref m0, .int a1, .int a2]) (Qi_ (dC, dI) (ty_ cI cZ cC cJ cD) R.1 (wM_ m0 m_g m_kept m_spare m_was m_text m_told cI R.2.1 R.2.2.1 R.2.2.2.1 R.2.2.2.2.1 R.2.2.2.2.2.1 R.2.2.2.2.2.2.1 R.2.2.2.2.2.2.2.1 R.2.2.2.2.2.2.2.2.1 R.2.2.2.2.2.2.2.2.2.1 R.2.2.2.2.2.2.2.2.2.2.1 R.2.2.2.2.2.2.2.2.2.2.2.1 R.2.2.2.2.2.2.2.2.2.2.2.2.1 R.2.2.2.2.2.2.2.2.2.2.2.2.2.1 R.2.2.2.2.2.2.2.2.2.2.2.2.2.2.1 R.2.2.2.2.2.2.2.2.2.2.2.2.2.2.2) (va_A (wM_ m0 m_g m_kept m_spare m_was m_text m_told cI mg mkept mspare mhasKept mwas mwasMany manew mthrown mtext mlength mspot mvalue merror mtold mtolds) sz)) 0 0 (va_A (wM_ m0 m_g m_kept m_spare m_was m_text m_told cI mg mkept mspare mhasKept mwas mwasMany manew mthrown mtext mlength mspot mvalue merror mtold mtolds) sz) := by
  refine met_ (cc := cX6_versionAt) (maxL := 4) (ret := (some .int)) (Qcf := fun A => Qi_ (dC, dI) (ty_ cI cZ cC cJ cD) R.1 (wM_ m0 m_g m_kept m_spare m_was m_text m_told cI R.2.1 R.2.2.1 R.2.2.2.1 R.2.2.2.2.1 R.2.2.2.2.2.1 R.2.2.2.2.2.2.1 R.2.2.2.2.2.2.2.1 R.2.2.2.2.2.2.2.2.1 R.2.2.2.2.2.2.2.2.2.1 R.2.2.2.2.2.2.2.2.2.2.1 R.2.2.2.2.2.2.2.2.2.2.2.1 R.2.2.2.2.2.2.2.2.2.2.2.2.1 R.2.2.2.2.2.2.2.2.2.2.2.2.2.1 R.2.2.2.2.2.2.2.2.2.2.2.2.2.2.1 R.2.2.2.2.2.2.2.2.2.2.2.2.2.2.2) A) (by decide) rfl (Nat.le_of_ble_eq_true rfl) ?_
  intro p e s m args below meth c A ls hx hb hr hts hown hlocks hml hA hP hK hD hl
  have hown : s.vm.findClass RX6 = some m.cls := hown
  have hl : lv_has ls 4 [(0, .ref m0), (1, .int a1), (2, .int a2)] := hl
  have hS : va_S A s.heap s.heap [] := va_S.rf
  have fl32_ : (Cond.fieldLink RX6 32 "DimensionLoaderModel" "thrown" "I").before args s = true := hts _ (List.mem_of_getElem? (i := 1) rfl)
  have inX6_ : ∀ w ∈ wsX60, w ∈ wsX6_versionAt := in_X6_versionAt_X6
  unfold f_X6_versionAt at hf
  dsimp only at hf
  refine lv_aload_n hx hb dX6_versionAt_0 rfl (lv_at hl 0 rfl) ?_
  refine lv_iconst (v := 0) hx hb dX6_versionAt_1 (by decide) ?_
  refine va_put (D := (dC, dI)) (ci := 8) (v := .int 0) (ty := .int) (C := RX6) (T := TX6) (N := 15) hx hb hts inX6_ tyX6 tyX6_ok nmX6 hown hK hP hD hS 0 rfl rfl 7 (by decide) fl32_ (fun _ h9 => h9) rfl (by decide +kernel) (by first | rfl | decide) (by first | rfl | decide) (Nat.le_of_ble_eq_true rfl) dX6_versionAt_2 (fun H1 locs hP hD hS => ?_)
  have hP : va_P (dC, dI) vwCl (wM_ m0 m_g m_kept m_spare m_was m_text m_told cI mg mkept mspare mhasKept mwas mwasMany manew 0 mtext mlength mspot mvalue merror mtold mtolds) H1 := hP
  have hD : va_D A (wM_ m0 m_g m_kept m_spare m_was m_text m_told cI mg mkept mspare mhasKept mwas mwasMany manew 0 mtext mlength mspot mvalue merror mtold mtolds) := hD
  refine lv_iload_n hx hb dX6_versionAt_5 rfl (lv_at hl 1 rfl) ?_
  obtain ⟨R3, g4, hf⟩ := bd_B hf
  obtain ⟨r2, rfl⟩ : ∃ z, z = R3 := ⟨_, rfl⟩
  have hPc := hP.sub (ws' := []) [] rfl
  have hDc := hD.sub (ws' := []) [] (by decide) rfl
  have hFc := va_free (wc := []) hD hS hA [] rfl
  refine va_calli (va_runS (As := [.int a1]) (rest := []) ⟨hx, hb, hml, hown, hts⟩ (c_X6_isKey l dC dI cI cZ cC cJ cD H1.size a1 r2 g4) (cwS 1 hts gX6_versionAt_X6_isKey rfl rfl rfl hs_X6_isKey ⟨Nat.le_of_ble_eq_true rfl, Nat.le_of_ble_eq_true rfl⟩) (preS_ hPc hK hDc rfl) rfl rfl hl.1 rfl (lv_room (Nat.le_of_ble_eq_true rfl)) dX6_versionAt_6 ⟨Nat.le_of_ble_eq_true rfl, Nat.le_of_ble_eq_true rfl⟩) hS (fun q _ h => hFc q h) hFc (fun z6 u t H5 locs ht hvm hw hB hz1 hk1 hS => ?_)
  have hw : r2 = z6 := hw.symm
  subst hw
  obtain ⟨hP, hD⟩ := aft_ (Wr := wM_ m0 m_g m_kept m_spare m_was m_text m_told cI mg mkept mspare mhasKept mwas mwasMany manew 0 mtext mlength mspot mvalue merror mtold mtolds) (Wc' := []) (W2 := wM_ m0 m_g m_kept m_spare m_was m_text m_told cI mg mkept mspare mhasKept mwas mwasMany manew 0 mtext mlength mspot mvalue merror mtold mtolds) hP hD [] [0, 1, 2, 3, 4, 5, 6] [0, 1, 2, 3, 4, 5, 6] rfl rfl (by decide) (by decide) (by decide) hk1 hFc hB ht rfl
  refine lv_if_ne (tgt := 18) hx hb dX6_versionAt_9 (by decide) (fun c7 => ?_) (fun c7 => ?_)
  · have hf := ite_F c7 hf
    refine lv_aload_n hx hb dX6_versionAt_18 rfl (lv_at hl 0 rfl) ?_
    refine lv_iload_n hx hb dX6_versionAt_19 rfl (lv_at hl 1 rfl) ?_
    refine lv_iload_n hx hb dX6_versionAt_20 rfl (lv_at hl 2 rfl) ?_
    obtain ⟨R9, g10, hf⟩ := bd_B hf
    obtain ⟨r8, rfl⟩ : ∃ z, z = R9 := ⟨_, rfl⟩
    have hPc := hP
    have hDc := hD
    have hFc := va_free (wc := wM_ m0 m_g m_kept m_spare m_was m_text m_told cI mg mkept mspare mhasKept mwas mwasMany manew 0 mtext mlength mspot mvalue merror mtold mtolds) hD hS hA [0, 1, 2, 3, 4, 5, 6] rfl
    refine va_calli (va_runV (As := [.int a1, .int a2]) (rest := []) ⟨hx, hb, hml, hown, hts⟩ (c_X6_placed l dC dI cI cZ cC cJ cD m0 m_g m_kept m_spare m_was m_text m_told H5.size mg mkept mspare mhasKept mwas mwasMany manew (0 : Int32) mtext mlength mspot mvalue merror mtold mtolds a1 a2 r8 g10) (cwV 2 hts gX6_versionAt_X6_placed rfl rfl rfl hs_X6_placed ⟨Nat.le_of_ble_eq_true rfl, Nat.le_of_ble_eq_true rfl⟩) (preV_ (ci := 8) (q0 := 0) hPc hK hDc rfl rfl rfl rfl) rfl rfl hl.1 rfl (lv_room (Nat.le_of_ble_eq_true rfl)) dX6_versionAt_21 ⟨Nat.le_of_ble_eq_true rfl, Nat.le_of_ble_eq_true rfl⟩) hS (fun q _ h => hFc q h) hFc (fun z12 u t H11 locs ht hvm hw hB hz1 hk1 hS => ?_)
    have hw : r8 = z12 := hw.symm
    subst hw
    obtain ⟨hP, hD⟩ := aft_ (Wr := []) (Wc' := wM_ m0 m_g m_kept m_spare m_was m_text m_told cI mg mkept mspare mhasKept mwas mwasMany manew 0 mtext mlength mspot mvalue merror mtold mtolds) (W2 := wM_ m0 m_g m_kept m_spare m_was m_text m_told cI mg mkept mspare mhasKept mwas mwasMany manew 0 mtext mlength mspot mvalue merror mtold mtolds) hP hD [0, 1, 2, 3, 4, 5, 6] [] [0, 1, 2, 3, 4, 5, 6] rfl rfl (by decide) (by decide) (by decide) hk1 hFc hB ht rfl
    refine lv_istore_n (lv' := [(3, .int r8), (0, .ref m0), (1, .int a1), (2, .int a2)]) hx hb dX6_versionAt_24 rfl hl (by decide) rfl (fun ls hl => ?_)
    refine lv_iload_n hx hb dX6_versionAt_25 rfl (lv_at hl 0 rfl) ?_
    refine lv_if_ge (tgt := 37) hx hb dX6_versionAt_26 (by decide) (fun c13 => ?_) (fun c13 => ?_)
    · have hf := ite_T c13 hf
      refine lv_iload_n hx hb dX6_versionAt_37 rfl (lv_at hl 0 rfl) ?_
      have hR := Option.some.inj hf
      subst hR
      exact W.iret (v := r8) hx hb hr (fun t ht hW => ⟨⟨r8, (), rfl, rfl, by rw [ht]; exact hP, va_K.moved hW.alike hK, hD⟩, hS.F ht⟩) hS.2.2 dX6_versionAt_38
    · have hf := ite_F c13 hf
      refine lv_aload_n hx hb dX6_versionAt_29 rfl (lv_at hl 1 rfl) ?_
      refine lv_iconst (v := 2) hx hb dX6_versionAt_30 (by decide) ?_
      obtain ⟨R30, g31, hf⟩ := bd_B hf
      obtain ⟨r14, ⟨mg15, mk16, ms17, mh18, mw19, mw20, ma21, mt22, mt23, ml24, ms25, mv26, me27, mt28, mt29⟩⟩ := R30
      dsimp only at hf
      have hPc := hP
      have hDc := hD
      have hFc := va_free (wc := wM_ m0 m_g m_kept m_spare m_was m_text m_told cI mg mkept mspare mhasKept mwas mwasMany manew 0 mtext mlength mspot mvalue merror mtold mtolds) hD hS hA [0, 1, 2, 3, 4, 5, 6] rfl
      refine va_calli (va_runV (As := [.int 2]) (rest := []) ⟨hx, hb, hml, hown, hts⟩ (c_X6_fails l dC dI cI cZ cC cJ cD m0 m_g m_kept m_spare m_was m_text m_told H11.size mg mkept mspare mhasKept mwas mwasMany manew (0 : Int32) mtext mlength mspot mvalue merror mtold mtolds (2 : Int32) (r14, (mg15, mk16, ms17, mh18, mw19, mw20, ma21, mt22, mt23, ml24, ms25, mv26, me27, mt28, mt29)) g31) (cwV 1 hts gX6_versionAt_X6_fails rfl rfl rfl hs_X6_fails ⟨Nat.le_of_ble_eq_true rfl, Nat.le_of_ble_eq_true rfl⟩) (preV_ (ci := 8) (q0 := 0) hPc hK hDc rfl rfl rfl rfl) rfl rfl hl.1 rfl (lv_room (Nat.le_of_ble_eq_true rfl)) dX6_versionAt_31 ⟨Nat.le_of_ble_eq_true rfl, Nat.le_of_ble_eq_true rfl⟩) hS (fun q _ h => hFc q h) hFc (fun z33 u t H32 locs ht hvm hw hB hz1 hk1 hS => ?_)
      have hw : r14 = z33 := hw.symm
      subst hw
      obtain ⟨hP, hD⟩ := aft_ (Wr := []) (Wc' := wM_ m0 m_g m_kept m_spare m_was m_text m_told cI mg15 mk16 ms17 mh18 mw19 mw20 ma21 mt22 mt23 ml24 ms25 mv26 me27 mt28 mt29) (W2 := wM_ m0 m_g m_kept m_spare m_was m_text m_told cI mg15 mk16 ms17 mh18 mw19 mw20 ma21 mt22 mt23 ml24 ms25 mv26 me27 mt28 mt29) hP hD [0, 1, 2, 3, 4, 5, 6] [] [0, 1, 2, 3, 4, 5, 6] rfl rfl (by decide) (by decide) (by decide) hk1 hFc hB ht rfl
      refine lv_goto (tgt := 38) hx hb dX6_versionAt_34 (by decide) ?_
      have hR := Option.some.inj hf
      subst hR
      exact W.iret (v := r14) hx hb hr (fun t ht hW => ⟨⟨r14, (), rfl, rfl, by rw [ht]; exact hP, va_K.moved hW.alike hK, hD⟩, hS.F ht⟩) hS.2.2 dX6_versionAt_38
  · have hf := ite_T c7 hf
    refine lv_aload_n hx hb dX6_versionAt_12 rfl (lv_at hl 0 rfl) ?_
    refine lv_iconst (v := 1) hx hb dX6_versionAt_13 (by decide) ?_
    obtain ⟨R50, g51, hf⟩ := bd_B hf
    obtain ⟨r34, ⟨mg35, mk36, ms37, mh38, mw39, mw40, ma41, mt42, mt43, ml44, ms45, mv46, me47, mt48, mt49⟩⟩ := R50
    dsimp only at hf
    have hPc := hP
    have hDc := hD
    have hFc := va_free (wc := wM_ m0 m_g m_kept m_spare m_was m_text m_told cI mg mkept mspare mhasKept mwas mwasMany manew 0 mtext mlength mspot mvalue merror mtold mtolds) hD hS hA [0, 1, 2, 3, 4, 5, 6] rfl
    refine va_calli (va_runV (As := [.int 1]) (rest := []) ⟨hx, hb, hml, hown, hts⟩ (c_X6_fails l dC dI cI cZ cC cJ cD m0 m_g m_kept m_spare m_was m_text m_told H5.size mg mkept mspare mhasKept mwas mwasMany manew (0 : Int32) mtext mlength mspot mvalue merror mtold mtolds (1 : Int32) (r34, (mg35, mk36, ms37, mh38, mw39, mw40, ma41, mt42, mt43, ml44, ms45, mv46, me47, mt48, mt49)) g51) (cwV 1 hts gX6_versionAt_X6_fails rfl rfl rfl hs_X6_fails ⟨Nat.le_of_ble_eq_true rfl, Nat.le_of_ble_eq_true rfl⟩) (preV_ (ci := 8) (q0 := 0) hPc hK hDc rfl rfl rfl rfl) rfl rfl hl.1 rfl (lv_room (Nat.le_of_ble_eq_true rfl)) dX6_versionAt_14 ⟨Nat.le_of_ble_eq_true rfl, Nat.le_of_ble_eq_true rfl⟩) hS (fun q _ h => hFc q h) hFc (fun z53 u t H52 locs ht hvm hw hB hz1 hk1 hS => ?_)
    have hw : r34 = z53 := hw.symm
    subst hw
    obtain ⟨hP, hD⟩ := aft_ (Wr := []) (Wc' := wM_ m0 m_g m_kept m_spare m_was m_text m_told cI mg35 mk36 ms37 mh38 mw39 mw40 ma41 mt42 mt43 ml44 ms45 mv46 me47 mt48 mt49) (W2 := wM_ m0 m_g m_kept m_spare m_was m_text m_told cI mg35 mk36 ms37 mh38 mw39 mw40 ma41 mt42 mt43 ml44 ms45 mv46 me47 mt48 mt49) hP hD [0, 1, 2, 3, 4, 5, 6] [] [0, 1, 2, 3, 4, 5, 6] rfl rfl (by decide) (by decide) (by decide) hk1 hFc hB ht rfl
    have hR := Option.some.inj hf
    subst hR
    exact W.iret (v := r34) hx hb hr (fun t ht hW => ⟨⟨r34, (), rfl, rfl, by rw [ht]; exact hP, va_K.moved hW.alike hK, hD⟩, hS.F ht⟩) hS.2.2 dX6_versionAt_17
theorem hs_X6_versionAt : yX6_versionAt.cls = RX6 ∧ yX6_versionAt.cls ≠ "java/lang/invoke/MethodHandle" ∧ yX6_versionAt.cls ≠ "java/lang/invoke/VarHandle" ∧ (parseMethodDescriptor yX6_versionAt.desc).map (fun d => d.parameters.length) = some 2 := by decide +kernel
set_option maxRecDepth 20000 in
theorem in_X6_validOn_X6 : ∀ w ∈ wsX60, w ∈ wsX6_validOn := by decide +kernel
def f_X6_validOn (a1 : Int32) (a2 : Int32) (M_ : tM_) : Option (Int32 × tM_) :=
match M_ with
| (mg, mkept, mspare, mhasKept, mwas, mwasMany, manew, mthrown, mtext, mlength, mspot, mvalue, merror, mtold, mtolds) =>
bd_ (f_X6_isKey a1) (fun r1 =>
if r1 = 0 then
some ((0 : Int32), (mg, mkept, mspare, mhasKept, mwas, mwasMany, manew, 1, mtext, mlength, mspot, mvalue, merror, mtold, mtolds))
else
bd_ (f_X6_isDay a2) (fun r8 =>
if r8 = 0 then
some ((0 : Int32), (mg, mkept, mspare, mhasKept, mwas, mwasMany, manew, 2, mtext, mlength, mspot, mvalue, merror, mtold, mtolds))
else
bd_ (f_X6_valid a1 a2 (mg, mkept, mspare, mhasKept, mwas, mwasMany, manew, mthrown, mtext, mlength, mspot, mvalue, merror, mtold, mtolds)) (fun r15 =>
if 0 ≤ r15 then
bd_ (f_X6_valid a1 a2 (mg, mkept, mspare, mhasKept, mwas, mwasMany, manew, 0, mtext, mlength, mspot, mvalue, merror, mtold, mtolds)) (fun r22 =>
some (r22, (mg, mkept, mspare, mhasKept, mwas, mwasMany, manew, 0, mtext, mlength, mspot, mvalue, merror, mtold, mtolds)))
else
some ((0 : Int32), (mg, mkept, mspare, mhasKept, mwas, mwasMany, manew, 3, mtext, mlength, mspot, mvalue, merror, mtold, mtolds)))))
abbrev rm_X6_validOn : Room := { frames := 2, cells := 0, slots := 0, locals := 45 }
set_option maxHeartbeats 4000000 in
set_option maxRecDepth 100000 in
theorem c_X6_validOn (l : Launch) (dC : Nat → ClassId) (dI : Nat → Nat → Nat) (cI cZ cC cJ cD : ClassId) (m0 m_g m_kept m_spare m_was m_text m_told : Nat) (sz : Nat) (mg : Nat → Int32) (mkept : Nat → Int32) (mspare : Nat → Int32) (mhasKept : Int32) (mwas : Nat → Int32) (mwasMany : Int32) (manew : Int32) (mthrown : Int32) (mtext : Nat → Int32) (mlength : Int32) (mspot : Int32) (mvalue : Int32) (merror : Int32) (mtold : Nat → Int32) (mtolds : Int32) (a1 : Int32) (a2 : Int32) (R : Int32 × tM_) (hf : f_X6_validOn a1 a2 (mg, mkept, mspare, mhasKept, mwas, mwasMany, manew, mthrown, mtext, mlength, mspot, mvalue, merror, mtold, mtolds) = some R) : Met l yX6_validOn wsX6_validOn rm_X6_validOn (Pc_ (dC, dI) (ty_ cI cZ cC cJ cD) (wM_ m0 m_g m_kept m_spare m_was m_text m_told cI mg mkept mspare mhasKept mwas mwasMany manew mthrown mtext mlength mspot mvalue merror mtold mtolds) sz [.ref m0, .int a1, .int a2]) (Qi_ (dC, dI) (ty_ cI cZ cC cJ cD) R.1 (wM_ m0 m_g m_kept m_spare m_was m_text m_told cI R.2.1 R.2.2.1 R.2.2.2.1 R.2.2.2.2.1 R.2.2.2.2.2.1 R.2.2.2.2.2.2.1 R.2.2.2.2.2.2.2.1 R.2.2.2.2.2.2.2.2.1 R.2.2.2.2.2.2.2.2.2.1 R.2.2.2.2.2.2.2.2.2.2.1 R.2.2.2.2.2.2.2.2.2.2.2.1 R.2.2.2.2.2.2.2.2.2.2.2.2.1 R.2.2.2.2.2.2.2.2.2.2.2.2.2.1 R.2.2.2.2.2.2.2.2.2.2.2.2.2.2.1 R.2.2.2.2.2.2.2.2.2.2.2.2.2.2.2) (va_A (wM_ m0 m_g m_kept m_spare m_was m_text m_told cI mg mkept mspare mhasKept mwas mwasMany manew mthrown mtext mlength mspot mvalue merror mtold mtolds) sz)) 0 0 (va_A (wM_ m0 m_g m_kept m_spare m_was m_text m_told cI mg mkept mspare mhasKept mwas mwasMany manew mthrown mtext mlength mspot mvalue merror mtold mtolds) sz) := by
  refine met_ (cc := cX6_validOn) (maxL := 3) (ret := (some .int)) (Qcf := fun A => Qi_ (dC, dI) (ty_ cI cZ cC cJ cD) R.1 (wM_ m0 m_g m_kept m_spare m_was m_text m_told cI R.2.1 R.2.2.1 R.2.2.2.1 R.2.2.2.2.1 R.2.2.2.2.2.1 R.2.2.2.2.2.2.1 R.2.2.2.2.2.2.2.1 R.2.2.2.2.2.2.2.2.1 R.2.2.2.2.2.2.2.2.2.1 R.2.2.2.2.2.2.2.2.2.2.1 R.2.2.2.2.2.2.2.2.2.2.2.1 R.2.2.2.2.2.2.2.2.2.2.2.2.1 R.2.2.2.2.2.2.2.2.2.2.2.2.2.1 R.2.2.2.2.2.2.2.2.2.2.2.2.2.2.1 R.2.2.2.2.2.2.2.2.2.2.2.2.2.2.2) A) (by decide) rfl (Nat.le_of_ble_eq_true rfl) ?_
  intro p e s m args below meth c A ls hx hb hr hts hown hlocks hml hA hP hK hD hl
  have hown : s.vm.findClass RX6 = some m.cls := hown
  have hl : lv_has ls 3 [(0, .ref m0), (1, .int a1), (2, .int a2)] := hl
  have hS : va_S A s.heap s.heap [] := va_S.rf
  have fl32_ : (Cond.fieldLink RX6 32 "DimensionLoaderModel" "thrown" "I").before args s = true := hts _ (List.mem_of_getElem? (i := 1) rfl)
  have inX6_ : ∀ w ∈ wsX60, w ∈ wsX6_validOn := in_X6_validOn_X6
  unfold f_X6_validOn at hf
  dsimp only at hf
  refine lv_aload_n hx hb dX6_validOn_0 rfl (lv_at hl 0 rfl) ?_
  refine lv_iload_n hx hb dX6_validOn_1 rfl (lv_at hl 1 rfl) ?_
  obtain ⟨R2, g3, hf⟩ := bd_B hf
  obtain ⟨r1, rfl⟩ : ∃ z, z = R2 := ⟨_, rfl⟩
  have hPc := hP.sub (ws' := []) [] rfl
  have hDc := hD.sub (ws' := []) [] (by decide) rfl
  have hFc := va_free (wc := []) hD hS hA [] rfl
  refine va_calli (va_runS (As := [.int a1]) (rest := [.ref m0]) ⟨hx, hb, hml, hown, hts⟩ (c_X6_isKey l dC dI cI cZ cC cJ cD s.heap.size a1 r1 g3) (cwS 1 hts gX6_validOn_X6_isKey rfl rfl rfl hs_X6_isKey ⟨Nat.le_of_ble_eq_true rfl, Nat.le_of_ble_eq_true rfl⟩) (preS_ hPc hK hDc rfl) rfl rfl hl.1 rfl (lv_room (Nat.le_of_ble_eq_true rfl)) dX6_validOn_2 ⟨Nat.le_of_ble_eq_true rfl, Nat.le_of_ble_eq_true rfl⟩) hS (fun q _ h => hFc q h) hFc (fun z5 u t H4 locs ht hvm hw hB hz1 hk1 hS => ?_)
  have hw : r1 = z5 := hw.symm
  subst hw
  obtain ⟨hP, hD⟩ := aft_ (Wr := wM_ m0 m_g m_kept m_spare m_was m_text m_told cI mg mkept mspare mhasKept mwas mwasMany manew mthrown mtext mlength mspot mvalue merror mtold mtolds) (Wc' := []) (W2 := wM_ m0 m_g m_kept m_spare m_was m_text m_told cI mg mkept mspare mhasKept mwas mwasMany manew mthrown mtext mlength mspot mvalue merror mtold mtolds) hP hD [] [0, 1, 2, 3, 4, 5, 6] [0, 1, 2, 3, 4, 5, 6] rfl rfl (by decide) (by decide) (by decide) hk1 hFc hB ht rfl
  refine lv_if_eq (tgt := 36) hx hb dX6_validOn_5 (by decide) (fun c6 => ?_) (fun c6 => ?_)
  · have hf := ite_T c6 hf
    refine lv_iconst (v := 1) hx hb dX6_validOn_36 (by decide) ?_
    refine va_put (D := (dC, dI)) (ci := 8) (v := .int 1) (ty := .int) (C := RX6) (T := TX6) (N := 15) hx hb hts inX6_ tyX6 tyX6_ok nmX6 hown hK hP hD hS 0 rfl rfl 7 (by decide) fl32_ (fun _ h9 => h9) rfl (by decide +kernel) (by first | rfl | decide) (by first | rfl | decide) (Nat.le_of_ble_eq_true rfl) dX6_validOn_37 (fun H7 locs hP hD hS => ?_)
    have hP : va_P (dC, dI) vwCl (wM_ m0 m_g m_kept m_spare m_was m_text m_told cI mg mkept mspare mhasKept mwas mwasMany manew 1 mtext mlength mspot mvalue merror mtold mtolds) H7 := hP
    have hD : va_D A (wM_ m0 m_g m_kept m_spare m_was m_text m_told cI mg mkept mspare mhasKept mwas mwasMany manew 1 mtext mlength mspot mvalue merror mtold mtolds) := hD
    refine lv_aload_n hx hb dX6_validOn_40 rfl (lv_at hl 0 rfl) ?_
    refine va_get (D := (dC, dI)) (ci := 8) (v := .int 1) (C := RX6) (T := TX6) (N := 15) hx hb hts inX6_ hown hK hP 0 rfl rfl 7 (by decide) fl32_ (fun _ h9 => h9) rfl dX6_validOn_41 ?_
    refine lv_if_le (tgt := 51) hx hb dX6_validOn_44 (by decide) (fun c9 => absurd c9 (by decide)) (fun _ => ?_)
    refine lv_iconst (v := 0) hx hb dX6_validOn_47 (by decide) ?_
    refine lv_goto (tgt := 57) hx hb dX6_validOn_48 (by decide) ?_
    have hR := Option.some.inj hf
    subst hR
    exact W.iret (v := (0 : Int32)) hx hb hr (fun t ht hW => ⟨⟨(0 : Int32), (), rfl, rfl, by rw [ht]; exact hP, va_K.moved hW.alike hK, hD⟩, hS.F ht⟩) hS.2.2 dX6_validOn_57
  · have hf := ite_F c6 hf
    refine lv_iload_n hx hb dX6_validOn_8 rfl (lv_at hl 2 rfl) ?_
    obtain ⟨R9, g10, hf⟩ := bd_B hf
    obtain ⟨r8, rfl⟩ : ∃ z, z = R9 := ⟨_, rfl⟩
    have hPc := hP.sub (ws' := []) [] rfl
    have hDc := hD.sub (ws' := []) [] (by decide) rfl
    have hFc := va_free (wc := []) hD hS hA [] rfl
    refine va_calli (va_runS (As := [.int a2]) (rest := [.ref m0]) ⟨hx, hb, hml, hown, hts⟩ (c_X6_isDay l dC dI cI cZ cC cJ cD H4.size a2 r8 g10) (cwS 1 hts gX6_validOn_X6_isDay rfl rfl rfl hs_X6_isDay ⟨Nat.le_of_ble_eq_true rfl, Nat.le_of_ble_eq_true rfl⟩) (preS_ hPc hK hDc rfl) rfl rfl hl.1 rfl (lv_room (Nat.le_of_ble_eq_true rfl)) dX6_validOn_9 ⟨Nat.le_of_ble_eq_true rfl, Nat.le_of_ble_eq_true rfl⟩) hS (fun q _ h => hFc q h) hFc (fun z12 u t H11 locs ht hvm hw hB hz1 hk1 hS => ?_)
    have hw : r8 = z12 := hw.symm
    subst hw
    obtain ⟨hP, hD⟩ := aft_ (Wr := wM_ m0 m_g m_kept m_spare m_was m_text m_told cI mg mkept mspare mhasKept mwas mwasMany manew mthrown mtext mlength mspot mvalue merror mtold mtolds) (Wc' := []) (W2 := wM_ m0 m_g m_kept m_spare m_was m_text m_told cI mg mkept mspare mhasKept mwas mwasMany manew mthrown mtext mlength mspot mvalue merror mtold mtolds) hP hD [] [0, 1, 2, 3, 4, 5, 6] [0, 1, 2, 3, 4, 5, 6] rfl rfl (by decide) (by decide) (by decide) hk1 hFc hB ht rfl
    refine lv_if_eq (tgt := 32) hx hb dX6_validOn_12 (by decide) (fun c13 => ?_) (fun c13 => ?_)
    · have hf := ite_T c13 hf
      refine lv_iconst (v := 2) hx hb dX6_validOn_32 (by decide) ?_
      refine lv_goto (tgt := 37) hx hb dX6_validOn_33 (by decide) ?_
      refine va_put (D := (dC, dI)) (ci := 8) (v := .int 2) (ty := .int) (C := RX6) (T := TX6) (N := 15) hx hb hts inX6_ tyX6 tyX6_ok nmX6 hown hK hP hD hS 0 rfl rfl 7 (by decide) fl32_ (fun _ h9 => h9) rfl (by decide +kernel) (by first | rfl | decide) (by first | rfl | decide) (Nat.le_of_ble_eq_true rfl) dX6_validOn_37 (fun H14 locs hP hD hS => ?_)
      have hP : va_P (dC, dI) vwCl (wM_ m0 m_g m_kept m_spare m_was m_text m_told cI mg mkept mspare mhasKept mwas mwasMany manew 2 mtext mlength mspot mvalue merror mtold mtolds) H14 := hP
      have hD : va_D A (wM_ m0 m_g m_kept m_spare m_was m_text m_told cI mg mkept mspare mhasKept mwas mwasMany manew 2 mtext mlength mspot mvalue merror mtold mtolds) := hD
      refine lv_aload_n hx hb dX6_validOn_40 rfl (lv_at hl 0 rfl) ?_
      refine va_get (D := (dC, dI)) (ci := 8) (v := .int 2) (C := RX6) (T := TX6) (N := 15) hx hb hts inX6_ hown hK hP 0 rfl rfl 7 (by decide) fl32_ (fun _ h9 => h9) rfl dX6_validOn_41 ?_
      refine lv_if_le (tgt := 51) hx hb dX6_validOn_44 (by decide) (fun c9 => absurd c9 (by decide)) (fun _ => ?_)
      refine lv_iconst (v := 0) hx hb dX6_validOn_47 (by decide) ?_
      refine lv_goto (tgt := 57) hx hb dX6_validOn_48 (by decide) ?_
      have hR := Option.some.inj hf
      subst hR
      exact W.iret (v := (0 : Int32)) hx hb hr (fun t ht hW => ⟨⟨(0 : Int32), (), rfl, rfl, by rw [ht]; exact hP, va_K.moved hW.alike hK, hD⟩, hS.F ht⟩) hS.2.2 dX6_validOn_57
    · have hf := ite_F c13 hf
      refine lv_aload_n hx hb dX6_validOn_15 rfl (lv_at hl 0 rfl) ?_
      refine lv_iload_n hx hb dX6_validOn_16 rfl (lv_at hl 1 rfl) ?_
      refine lv_iload_n hx hb dX6_validOn_17 rfl (lv_at hl 2 rfl) ?_
      obtain ⟨R16, g17, hf⟩ := bd_B hf
      obtain ⟨r15, rfl⟩ : ∃ z, z = R16 := ⟨_, rfl⟩
      have hPc := hP
      have hDc := hD
      have hFc := va_free (wc := wM_ m0 m_g m_kept m_spare m_was m_text m_told cI mg mkept mspare mhasKept mwas mwasMany manew mthrown mtext mlength mspot mvalue merror mtold mtolds) hD hS hA [0, 1, 2, 3, 4, 5, 6] rfl
      refine va_calli (va_runV (As := [.int a1, .int a2]) (rest := [.ref m0]) ⟨hx, hb, hml, hown, hts⟩ (c_X6_valid l dC dI cI cZ cC cJ cD m0 m_g m_kept m_spare m_was m_text m_told H11.size mg mkept mspare mhasKept mwas mwasMany manew mthrown mtext mlength mspot mvalue merror mtold mtolds a1 a2 r15 g17) (cwV 2 hts gX6_validOn_X6_valid rfl rfl rfl hs_X6_valid ⟨Nat.le_of_ble_eq_true rfl, Nat.le_of_ble_eq_true rfl⟩) (preV_ (ci := 8) (q0 := 0) hPc hK hDc rfl rfl rfl rfl) rfl rfl hl.1 rfl (lv_room (Nat.le_of_ble_eq_true rfl)) dX6_validOn_18 ⟨Nat.le_of_ble_eq_true rfl, Nat.le_of_ble_eq_true rfl⟩) hS (fun q _ h => hFc q h) hFc (fun z19 u t H18 locs ht hvm hw hB hz1 hk1 hS => ?_)
      have hw : r15 = z19 := hw.symm
      subst hw
      obtain ⟨hP, hD⟩ := aft_ (Wr := []) (Wc' := wM_ m0 m_g m_kept m_spare m_was m_text m_told cI mg mkept mspare mhasKept mwas mwasMany manew mthrown mtext mlength mspot mvalue merror mtold mtolds) (W2 := wM_ m0 m_g m_kept m_spare m_was m_text m_told cI mg mkept mspare mhasKept mwas mwasMany manew mthrown mtext mlength mspot mvalue merror mtold mtolds) hP hD [0, 1, 2, 3, 4, 5, 6] [] [0, 1, 2, 3, 4, 5, 6] rfl rfl (by decide) (by decide) (by decide) hk1 hFc hB ht rfl
      refine lv_if_ge (tgt := 28) hx hb dX6_validOn_21 (by decide) (fun c20 => ?_) (fun c20 => ?_)
      · have hf := ite_T c20 hf
        refine lv_iconst (v := 0) hx hb dX6_validOn_28 (by decide) ?_
        refine lv_goto (tgt := 37) hx hb dX6_validOn_29 (by decide) ?_
        refine va_put (D := (dC, dI)) (ci := 8) (v := .int 0) (ty := .int) (C := RX6) (T := TX6) (N := 15) hx hb hts inX6_ tyX6 tyX6_ok nmX6 hown hK hP hD hS 0 rfl rfl 7 (by decide) fl32_ (fun _ h9 => h9) rfl (by decide +kernel) (by first | rfl | decide) (by first | rfl | decide) (Nat.le_of_ble_eq_true rfl) dX6_validOn_37 (fun H21 locs hP hD hS => ?_)
        have hP : va_P (dC, dI) vwCl (wM_ m0 m_g m_kept m_spare m_was m_text m_told cI mg mkept mspare mhasKept mwas mwasMany manew 0 mtext mlength mspot mvalue merror mtold mtolds) H21 := hP
        have hD : va_D A (wM_ m0 m_g m_kept m_spare m_was m_text m_told cI mg mkept mspare mhasKept mwas mwasMany manew 0 mtext mlength mspot mvalue merror mtold mtolds) := hD
        refine lv_aload_n hx hb dX6_validOn_40 rfl (lv_at hl 0 rfl) ?_
        refine va_get (D := (dC, dI)) (ci := 8) (v := .int 0) (C := RX6) (T := TX6) (N := 15) hx hb hts inX6_ hown hK hP 0 rfl rfl 7 (by decide) fl32_ (fun _ h9 => h9) rfl dX6_validOn_41 ?_
        refine lv_if_le (tgt := 51) hx hb dX6_validOn_44 (by decide) (fun _ => ?_) (fun c9 => absurd (by decide) c9)
        refine lv_aload_n hx hb dX6_validOn_51 rfl (lv_at hl 0 rfl) ?_
        refine lv_iload_n hx hb dX6_validOn_52 rfl (lv_at hl 1 rfl) ?_
        refine lv_iload_n hx hb dX6_validOn_53 rfl (lv_at hl 2 rfl) ?_
        obtain ⟨R23, g24, hf⟩ := bd_B hf
        obtain ⟨r22, rfl⟩ : ∃ z, z = R23 := ⟨_, rfl⟩
        have hPc := hP
        have hDc := hD
        have hFc := va_free (wc := wM_ m0 m_g m_kept m_spare m_was m_text m_told cI mg mkept mspare mhasKept mwas mwasMany manew 0 mtext mlength mspot mvalue merror mtold mtolds) hD hS hA [0, 1, 2, 3, 4, 5, 6] rfl
        refine va_calli (va_runV (As := [.int a1, .int a2]) (rest := []) ⟨hx, hb, hml, hown, hts⟩ (c_X6_valid l dC dI cI cZ cC cJ cD m0 m_g m_kept m_spare m_was m_text m_told H21.size mg mkept mspare mhasKept mwas mwasMany manew (0 : Int32) mtext mlength mspot mvalue merror mtold mtolds a1 a2 r22 g24) (cwV 2 hts gX6_validOn_X6_valid rfl rfl rfl hs_X6_valid ⟨Nat.le_of_ble_eq_true rfl, Nat.le_of_ble_eq_true rfl⟩) (preV_ (ci := 8) (q0 := 0) hPc hK hDc rfl rfl rfl rfl) rfl rfl hl.1 rfl (lv_room (Nat.le_of_ble_eq_true rfl)) dX6_validOn_54 ⟨Nat.le_of_ble_eq_true rfl, Nat.le_of_ble_eq_true rfl⟩) hS (fun q _ h => hFc q h) hFc (fun z26 u t H25 locs ht hvm hw hB hz1 hk1 hS => ?_)
        have hw : r22 = z26 := hw.symm
        subst hw
        obtain ⟨hP, hD⟩ := aft_ (Wr := []) (Wc' := wM_ m0 m_g m_kept m_spare m_was m_text m_told cI mg mkept mspare mhasKept mwas mwasMany manew 0 mtext mlength mspot mvalue merror mtold mtolds) (W2 := wM_ m0 m_g m_kept m_spare m_was m_text m_told cI mg mkept mspare mhasKept mwas mwasMany manew 0 mtext mlength mspot mvalue merror mtold mtolds) hP hD [0, 1, 2, 3, 4, 5, 6] [] [0, 1, 2, 3, 4, 5, 6] rfl rfl (by decide) (by decide) (by decide) hk1 hFc hB ht rfl
        have hR := Option.some.inj hf
        subst hR
        exact W.iret (v := r22) hx hb hr (fun t ht hW => ⟨⟨r22, (), rfl, rfl, by rw [ht]; exact hP, va_K.moved hW.alike hK, hD⟩, hS.F ht⟩) hS.2.2 dX6_validOn_57
      · have hf := ite_F c20 hf
        refine lv_iconst (v := 3) hx hb dX6_validOn_24 (by decide) ?_
        refine lv_goto (tgt := 37) hx hb dX6_validOn_25 (by decide) ?_
        refine va_put (D := (dC, dI)) (ci := 8) (v := .int 3) (ty := .int) (C := RX6) (T := TX6) (N := 15) hx hb hts inX6_ tyX6 tyX6_ok nmX6 hown hK hP hD hS 0 rfl rfl 7 (by decide) fl32_ (fun _ h9 => h9) rfl (by decide +kernel) (by first | rfl | decide) (by first | rfl | decide) (Nat.le_of_ble_eq_true rfl) dX6_validOn_37 (fun H27 locs hP hD hS => ?_)
        have hP : va_P (dC, dI) vwCl (wM_ m0 m_g m_kept m_spare m_was m_text m_told cI mg mkept mspare mhasKept mwas mwasMany manew 3 mtext mlength mspot mvalue merror mtold mtolds) H27 := hP
        have hD : va_D A (wM_ m0 m_g m_kept m_spare m_was m_text m_told cI mg mkept mspare mhasKept mwas mwasMany manew 3 mtext mlength mspot mvalue merror mtold mtolds) := hD
        refine lv_aload_n hx hb dX6_validOn_40 rfl (lv_at hl 0 rfl) ?_
        refine va_get (D := (dC, dI)) (ci := 8) (v := .int 3) (C := RX6) (T := TX6) (N := 15) hx hb hts inX6_ hown hK hP 0 rfl rfl 7 (by decide) fl32_ (fun _ h9 => h9) rfl dX6_validOn_41 ?_
        refine lv_if_le (tgt := 51) hx hb dX6_validOn_44 (by decide) (fun c9 => absurd c9 (by decide)) (fun _ => ?_)
        refine lv_iconst (v := 0) hx hb dX6_validOn_47 (by decide) ?_
        refine lv_goto (tgt := 57) hx hb dX6_validOn_48 (by decide) ?_
        have hR := Option.some.inj hf
        subst hR
        exact W.iret (v := (0 : Int32)) hx hb hr (fun t ht hW => ⟨⟨(0 : Int32), (), rfl, rfl, by rw [ht]; exact hP, va_K.moved hW.alike hK, hD⟩, hS.F ht⟩) hS.2.2 dX6_validOn_57
theorem hs_X6_validOn : yX6_validOn.cls = RX6 ∧ yX6_validOn.cls ≠ "java/lang/invoke/MethodHandle" ∧ yX6_validOn.cls ≠ "java/lang/invoke/VarHandle" ∧ (parseMethodDescriptor yX6_validOn.desc).map (fun d => d.parameters.length) = some 2 := by decide +kernel
set_option maxRecDepth 20000 in
theorem in_X6_nextAfter_X6 : ∀ w ∈ wsX60, w ∈ wsX6_nextAfter := by decide +kernel
def f_X6_nextAfter (a1 : Int32) (a2 : Int32) (M_ : tM_) : Option (Int32 × tM_) :=
match M_ with
| (mg, mkept, mspare, mhasKept, mwas, mwasMany, manew, mthrown, mtext, mlength, mspot, mvalue, merror, mtold, mtolds) =>
bd_ (f_X6_isKey a1) (fun r1 =>
if r1 = 0 then
some ((0 : Int32), (mg, mkept, mspare, mhasKept, mwas, mwasMany, manew, 1, mtext, mlength, mspot, mvalue, merror, mtold, mtolds))
else
bd_ (f_X6_isDay a2) (fun r8 =>
if r8 = 0 then
some ((0 : Int32), (mg, mkept, mspare, mhasKept, mwas, mwasMany, manew, 2, mtext, mlength, mspot, mvalue, merror, mtold, mtolds))
else
bd_ (f_X6_following a1 a2 (mg, mkept, mspare, mhasKept, mwas, mwasMany, manew, mthrown, mtext, mlength, mspot, mvalue, merror, mtold, mtolds)) (fun r15 =>
if 0 ≤ r15 then
bd_ (f_X6_following a1 a2 (mg, mkept, mspare, mhasKept, mwas, mwasMany, manew, 0, mtext, mlength, mspot, mvalue, merror, mtold, mtolds)) (fun r22 =>
some (r22, (mg, mkept, mspare, mhasKept, mwas, mwasMany, manew, 0, mtext, mlength, mspot, mvalue, merror, mtold, mtolds)))
else
some ((0 : Int32), (mg, mkept, mspare, mhasKept, mwas, mwasMany, manew, 3, mtext, mlength, mspot, mvalue, merror, mtold, mtolds)))))
abbrev rm_X6_nextAfter : Room := { frames := 2, cells := 0, slots := 0, locals := 46 }
set_option maxHeartbeats 4000000 in
set_option maxRecDepth 100000 in
theorem c_X6_nextAfter (l : Launch) (dC : Nat → ClassId) (dI : Nat → Nat → Nat) (cI cZ cC cJ cD : ClassId) (m0 m_g m_kept m_spare m_was m_text m_told : Nat) (sz : Nat) (mg : Nat → Int32) (mkept : Nat → Int32) (mspare : Nat → Int32) (mhasKept : Int32) (mwas : Nat → Int32) (mwasMany : Int32) (manew : Int32) (mthrown : Int32) (mtext : Nat → Int32) (mlength : Int32) (mspot : Int32) (mvalue : Int32) (merror : Int32) (mtold : Nat → Int32) (mtolds : Int32) (a1 : Int32) (a2 : Int32) (R : Int32 × tM_) (hf : f_X6_nextAfter a1 a2 (mg, mkept, mspare, mhasKept, mwas, mwasMany, manew, mthrown, mtext, mlength, mspot, mvalue, merror, mtold, mtolds) = some R) : Met l yX6_nextAfter wsX6_nextAfter rm_X6_nextAfter (Pc_ (dC, dI) (ty_ cI cZ cC cJ cD) (wM_ m0 m_g m_kept m_spare m_was m_text m_told cI mg mkept mspare mhasKept mwas mwasMany manew mthrown mtext mlength mspot mvalue merror mtold mtolds) sz [.ref m0, .int a1, .int a2]) (Qi_ (dC, dI) (ty_ cI cZ cC cJ cD) R.1 (wM_ m0 m_g m_kept m_spare m_was m_text m_told cI R.2.1 R.2.2.1 R.2.2.2.1 R.2.2.2.2.1 R.2.2.2.2.2.1 R.2.2.2.2.2.2.1 R.2.2.2.2.2.2.2.1 R.2.2.2.2.2.2.2.2.1 R.2.2.2.2.2.2.2.2.2.1 R.2.2.2.2.2.2.2.2.2.2.1 R.2.2.2.2.2.2.2.2.2.2.2.1 R.2.2.2.2.2.2.2.2.2.2.2.2.1 R.2.2.2.2.2.2.2.2.2.2.2.2.2.1 R.2.2.2.2.2.2.2.2.2.2.2.2.2.2.1 R.2.2.2.2.2.2.2.2.2.2.2.2.2.2.2) (va_A (wM_ m0 m_g m_kept m_spare m_was m_text m_told cI mg mkept mspare mhasKept mwas mwasMany manew mthrown mtext mlength mspot mvalue merror mtold mtolds) sz)) 0 0 (va_A (wM_ m0 m_g m_kept m_spare m_was m_text m_told cI mg mkept mspare mhasKept mwas mwasMany manew mthrown mtext mlength mspot mvalue merror mtold mtolds) sz) := by
  refine met_ (cc := cX6_nextAfter) (maxL := 3) (ret := (some .int)) (Qcf := fun A => Qi_ (dC, dI) (ty_ cI cZ cC cJ cD) R.1 (wM_ m0 m_g m_kept m_spare m_was m_text m_told cI R.2.1 R.2.2.1 R.2.2.2.1 R.2.2.2.2.1 R.2.2.2.2.2.1 R.2.2.2.2.2.2.1 R.2.2.2.2.2.2.2.1 R.2.2.2.2.2.2.2.2.1 R.2.2.2.2.2.2.2.2.2.1 R.2.2.2.2.2.2.2.2.2.2.1 R.2.2.2.2.2.2.2.2.2.2.2.1 R.2.2.2.2.2.2.2.2.2.2.2.2.1 R.2.2.2.2.2.2.2.2.2.2.2.2.2.1 R.2.2.2.2.2.2.2.2.2.2.2.2.2.2.1 R.2.2.2.2.2.2.2.2.2.2.2.2.2.2.2) A) (by decide) rfl (Nat.le_of_ble_eq_true rfl) ?_
  intro p e s m args below meth c A ls hx hb hr hts hown hlocks hml hA hP hK hD hl
  have hown : s.vm.findClass RX6 = some m.cls := hown
  have hl : lv_has ls 3 [(0, .ref m0), (1, .int a1), (2, .int a2)] := hl
  have hS : va_S A s.heap s.heap [] := va_S.rf
  have fl32_ : (Cond.fieldLink RX6 32 "DimensionLoaderModel" "thrown" "I").before args s = true := hts _ (List.mem_of_getElem? (i := 1) rfl)
  have inX6_ : ∀ w ∈ wsX60, w ∈ wsX6_nextAfter := in_X6_nextAfter_X6
  unfold f_X6_nextAfter at hf
  dsimp only at hf
  refine lv_aload_n hx hb dX6_nextAfter_0 rfl (lv_at hl 0 rfl) ?_
  refine lv_iload_n hx hb dX6_nextAfter_1 rfl (lv_at hl 1 rfl) ?_
  obtain ⟨R2, g3, hf⟩ := bd_B hf
  obtain ⟨r1, rfl⟩ : ∃ z, z = R2 := ⟨_, rfl⟩
  have hPc := hP.sub (ws' := []) [] rfl
  have hDc := hD.sub (ws' := []) [] (by decide) rfl
  have hFc := va_free (wc := []) hD hS hA [] rfl
  refine va_calli (va_runS (As := [.int a1]) (rest := [.ref m0]) ⟨hx, hb, hml, hown, hts⟩ (c_X6_isKey l dC dI cI cZ cC cJ cD s.heap.size a1 r1 g3) (cwS 1 hts gX6_nextAfter_X6_isKey rfl rfl rfl hs_X6_isKey ⟨Nat.le_of_ble_eq_true rfl, Nat.le_of_ble_eq_true rfl⟩) (preS_ hPc hK hDc rfl) rfl rfl hl.1 rfl (lv_room (Nat.le_of_ble_eq_true rfl)) dX6_nextAfter_2 ⟨Nat.le_of_ble_eq_true rfl, Nat.le_of_ble_eq_true rfl⟩) hS (fun q _ h => hFc q h) hFc (fun z5 u t H4 locs ht hvm hw hB hz1 hk1 hS => ?_)
  have hw : r1 = z5 := hw.symm
  subst hw
  obtain ⟨hP, hD⟩ := aft_ (Wr := wM_ m0 m_g m_kept m_spare m_was m_text m_told cI mg mkept mspare mhasKept mwas mwasMany manew mthrown mtext mlength mspot mvalue merror mtold mtolds) (Wc' := []) (W2 := wM_ m0 m_g m_kept m_spare m_was m_text m_told cI mg mkept mspare mhasKept mwas mwasMany manew mthrown mtext mlength mspot mvalue merror mtold mtolds) hP hD [] [0, 1, 2, 3, 4, 5, 6] [0, 1, 2, 3, 4, 5, 6] rfl rfl (by decide) (by decide) (by decide) hk1 hFc hB ht rfl
  refine lv_if_eq (tgt := 36) hx hb dX6_nextAfter_5 (by decide) (fun c6 => ?_) (fun c6 => ?_)
  · have hf := ite_T c6 hf
    refine lv_iconst (v := 1) hx hb dX6_nextAfter_36 (by decide) ?_
    refine va_put (D := (dC, dI)) (ci := 8) (v := .int 1) (ty := .int) (C := RX6) (T := TX6) (N := 15) hx hb hts inX6_ tyX6 tyX6_ok nmX6 hown hK hP hD hS 0 rfl rfl 7 (by decide) fl32_ (fun _ h9 => h9) rfl (by decide +kernel) (by first | rfl | decide) (by first | rfl | decide) (Nat.le_of_ble_eq_true rfl) dX6_nextAfter_37 (fun H7 locs hP hD hS => ?_)
    have hP : va_P (dC, dI) vwCl (wM_ m0 m_g m_kept m_spare m_was m_text m_told cI mg mkept mspare mhasKept mwas mwasMany manew 1 mtext mlength mspot mvalue merror mtold mtolds) H7 := hP
    have hD : va_D A (wM_ m0 m_g m_kept m_spare m_was m_text m_told cI mg mkept mspare mhasKept mwas mwasMany manew 1 mtext mlength mspot mvalue merror mtold mtolds) := hD
    refine lv_aload_n hx hb dX6_nextAfter_40 rfl (lv_at hl 0 rfl) ?_
    refine va_get (D := (dC, dI)) (ci := 8) (v := .int 1) (C := RX6) (T := TX6) (N := 15) hx hb hts inX6_ hown hK hP 0 rfl rfl 7 (by decide) fl32_ (fun _ h9 => h9) rfl dX6_nextAfter_41 ?_
    refine lv_if_le (tgt := 51) hx hb dX6_nextAfter_44 (by decide) (fun c9 => absurd c9 (by decide)) (fun _ => ?_)
    refine lv_iconst (v := 0) hx hb dX6_nextAfter_47 (by decide) ?_
    refine lv_goto (tgt := 57) hx hb dX6_nextAfter_48 (by decide) ?_
    have hR := Option.some.inj hf
    subst hR
    exact W.iret (v := (0 : Int32)) hx hb hr (fun t ht hW => ⟨⟨(0 : Int32), (), rfl, rfl, by rw [ht]; exact hP, va_K.moved hW.alike hK, hD⟩, hS.F ht⟩) hS.2.2 dX6_nextAfter_57
  · have hf := ite_F c6 hf
    refine lv_iload_n hx hb dX6_nextAfter_8 rfl (lv_at hl 2 rfl) ?_
    obtain ⟨R9, g10, hf⟩ := bd_B hf
    obtain ⟨r8, rfl⟩ : ∃ z, z = R9 := ⟨_, rfl⟩
    have hPc := hP.sub (ws' := []) [] rfl
    have hDc := hD.sub (ws' := []) [] (by decide) rfl
    have hFc := va_free (wc := []) hD hS hA [] rfl
    refine va_calli (va_runS (As := [.int a2]) (rest := [.ref m0]) ⟨hx, hb, hml, hown, hts⟩ (c_X6_isDay l dC dI cI cZ cC cJ cD H4.size a2 r8 g10) (cwS 1 hts gX6_nextAfter_X6_isDay rfl rfl rfl hs_X6_isDay ⟨Nat.le_of_ble_eq_true rfl, Nat.le_of_ble_eq_true rfl⟩) (preS_ hPc hK hDc rfl) rfl rfl hl.1 rfl (lv_room (Nat.le_of_ble_eq_true rfl)) dX6_nextAfter_9 ⟨Nat.le_of_ble_eq_true rfl, Nat.le_of_ble_eq_true rfl⟩) hS (fun q _ h => hFc q h) hFc (fun z12 u t H11 locs ht hvm hw hB hz1 hk1 hS => ?_)
    have hw : r8 = z12 := hw.symm
    subst hw
    obtain ⟨hP, hD⟩ := aft_ (Wr := wM_ m0 m_g m_kept m_spare m_was m_text m_told cI mg mkept mspare mhasKept mwas mwasMany manew mthrown mtext mlength mspot mvalue merror mtold mtolds) (Wc' := []) (W2 := wM_ m0 m_g m_kept m_spare m_was m_text m_told cI mg mkept mspare mhasKept mwas mwasMany manew mthrown mtext mlength mspot mvalue merror mtold mtolds) hP hD [] [0, 1, 2, 3, 4, 5, 6] [0, 1, 2, 3, 4, 5, 6] rfl rfl (by decide) (by decide) (by decide) hk1 hFc hB ht rfl
    refine lv_if_eq (tgt := 32) hx hb dX6_nextAfter_12 (by decide) (fun c13 => ?_) (fun c13 => ?_)
    · have hf := ite_T c13 hf
      refine lv_iconst (v := 2) hx hb dX6_nextAfter_32 (by decide) ?_
      refine lv_goto (tgt := 37) hx hb dX6_nextAfter_33 (by decide) ?_
      refine va_put (D := (dC, dI)) (ci := 8) (v := .int 2) (ty := .int) (C := RX6) (T := TX6) (N := 15) hx hb hts inX6_ tyX6 tyX6_ok nmX6 hown hK hP hD hS 0 rfl rfl 7 (by decide) fl32_ (fun _ h9 => h9) rfl (by decide +kernel) (by first | rfl | decide) (by first | rfl | decide) (Nat.le_of_ble_eq_true rfl) dX6_nextAfter_37 (fun H14 locs hP hD hS => ?_)
      have hP : va_P (dC, dI) vwCl (wM_ m0 m_g m_kept m_spare m_was m_text m_told cI mg mkept mspare mhasKept mwas mwasMany manew 2 mtext mlength mspot mvalue merror mtold mtolds) H14 := hP
      have hD : va_D A (wM_ m0 m_g m_kept m_spare m_was m_text m_told cI mg mkept mspare mhasKept mwas mwasMany manew 2 mtext mlength mspot mvalue merror mtold mtolds) := hD
      refine lv_aload_n hx hb dX6_nextAfter_40 rfl (lv_at hl 0 rfl) ?_
      refine va_get (D := (dC, dI)) (ci := 8) (v := .int 2) (C := RX6) (T := TX6) (N := 15) hx hb hts inX6_ hown hK hP 0 rfl rfl 7 (by decide) fl32_ (fun _ h9 => h9) rfl dX6_nextAfter_41 ?_
      refine lv_if_le (tgt := 51) hx hb dX6_nextAfter_44 (by decide) (fun c9 => absurd c9 (by decide)) (fun _ => ?_)
      refine lv_iconst (v := 0) hx hb dX6_nextAfter_47 (by decide) ?_
      refine lv_goto (tgt := 57) hx hb dX6_nextAfter_48 (by decide) ?_
      have hR := Option.some.inj hf
      subst hR
      exact W.iret (v := (0 : Int32)) hx hb hr (fun t ht hW => ⟨⟨(0 : Int32), (), rfl, rfl, by rw [ht]; exact hP, va_K.moved hW.alike hK, hD⟩, hS.F ht⟩) hS.2.2 dX6_nextAfter_57
    · have hf := ite_F c13 hf
      refine lv_aload_n hx hb dX6_nextAfter_15 rfl (lv_at hl 0 rfl) ?_
      refine lv_iload_n hx hb dX6_nextAfter_16 rfl (lv_at hl 1 rfl) ?_
      refine lv_iload_n hx hb dX6_nextAfter_17 rfl (lv_at hl 2 rfl) ?_
      obtain ⟨R16, g17, hf⟩ := bd_B hf
      obtain ⟨r15, rfl⟩ : ∃ z, z = R16 := ⟨_, rfl⟩
      have hPc := hP
      have hDc := hD
      have hFc := va_free (wc := wM_ m0 m_g m_kept m_spare m_was m_text m_told cI mg mkept mspare mhasKept mwas mwasMany manew mthrown mtext mlength mspot mvalue merror mtold mtolds) hD hS hA [0, 1, 2, 3, 4, 5, 6] rfl
      refine va_calli (va_runV (As := [.int a1, .int a2]) (rest := [.ref m0]) ⟨hx, hb, hml, hown, hts⟩ (c_X6_following l dC dI cI cZ cC cJ cD m0 m_g m_kept m_spare m_was m_text m_told H11.size mg mkept mspare mhasKept mwas mwasMany manew mthrown mtext mlength mspot mvalue merror mtold mtolds a1 a2 r15 g17) (cwV 2 hts gX6_nextAfter_X6_following rfl rfl rfl hs_X6_following ⟨Nat.le_of_ble_eq_true rfl, Nat.le_of_ble_eq_true rfl⟩) (preV_ (ci := 8) (q0 := 0) hPc hK hDc rfl rfl rfl rfl) rfl rfl hl.1 rfl (lv_room (Nat.le_of_ble_eq_true rfl)) dX6_nextAfter_18 ⟨Nat.le_of_ble_eq_true rfl, Nat.le_of_ble_eq_true rfl⟩) hS (fun q _ h => hFc q h) hFc (fun z19 u t H18 locs ht hvm hw hB hz1 hk1 hS => ?_)
      have hw : r15 = z19 := hw.symm
      subst hw
      obtain ⟨hP, hD⟩ := aft_ (Wr := []) (Wc' := wM_ m0 m_g m_kept m_spare m_was m_text m_told cI mg mkept mspare mhasKept mwas mwasMany manew mthrown mtext mlength mspot mvalue merror mtold mtolds) (W2 := wM_ m0 m_g m_kept m_spare m_was m_text m_told cI mg mkept mspare mhasKept mwas mwasMany manew mthrown mtext mlength mspot mvalue merror mtold mtolds) hP hD [0, 1, 2, 3, 4, 5, 6] [] [0, 1, 2, 3, 4, 5, 6] rfl rfl (by decide) (by decide) (by decide) hk1 hFc hB ht rfl
      refine lv_if_ge (tgt := 28) hx hb dX6_nextAfter_21 (by decide) (fun c20 => ?_) (fun c20 => ?_)
      · have hf := ite_T c20 hf
        refine lv_iconst (v := 0) hx hb dX6_nextAfter_28 (by decide) ?_
        refine lv_goto (tgt := 37) hx hb dX6_nextAfter_29 (by decide) ?_
        refine va_put (D := (dC, dI)) (ci := 8) (v := .int 0) (ty := .int) (C := RX6) (T := TX6) (N := 15) hx hb hts inX6_ tyX6 tyX6_ok nmX6 hown hK hP hD hS 0 rfl rfl 7 (by decide) fl32_ (fun _ h9 => h9) rfl (by decide +kernel) (by first | rfl | decide) (by first | rfl | decide) (Nat.le_of_ble_eq_true rfl) dX6_nextAfter_37 (fun H21 locs hP hD hS => ?_)
        have hP : va_P (dC, dI) vwCl (wM_ m0 m_g m_kept m_spare m_was m_text m_told cI mg mkept mspare mhasKept mwas mwasMany manew 0 mtext mlength mspot mvalue merror mtold mtolds) H21 := hP
        have hD : va_D A (wM_ m0 m_g m_kept m_spare m_was m_text m_told cI mg mkept mspare mhasKept mwas mwasMany manew 0 mtext mlength mspot mvalue merror mtold mtolds) := hD
        refine lv_aload_n hx hb dX6_nextAfter_40 rfl (lv_at hl 0 rfl) ?_
        refine va_get (D := (dC, dI)) (ci := 8) (v := .int 0) (C := RX6) (T := TX6) (N := 15) hx hb hts inX6_ hown hK hP 0 rfl rfl 7 (by decide) fl32_ (fun _ h9 => h9) rfl dX6_nextAfter_41 ?_
        refine lv_if_le (tgt := 51) hx hb dX6_nextAfter_44 (by decide) (fun _ => ?_) (fun c9 => absurd (by decide) c9)
        refine lv_aload_n hx hb dX6_nextAfter_51 rfl (lv_at hl 0 rfl) ?_
        refine lv_iload_n hx hb dX6_nextAfter_52 rfl (lv_at hl 1 rfl) ?_
        refine lv_iload_n hx hb dX6_nextAfter_53 rfl (lv_at hl 2 rfl) ?_
        obtain ⟨R23, g24, hf⟩ := bd_B hf
        obtain ⟨r22, rfl⟩ : ∃ z, z = R23 := ⟨_, rfl⟩
        have hPc := hP
        have hDc := hD
        have hFc := va_free (wc := wM_ m0 m_g m_kept m_spare m_was m_text m_told cI mg mkept mspare mhasKept mwas mwasMany manew 0 mtext mlength mspot mvalue merror mtold mtolds) hD hS hA [0, 1, 2, 3, 4, 5, 6] rfl
        refine va_calli (va_runV (As := [.int a1, .int a2]) (rest := []) ⟨hx, hb, hml, hown, hts⟩ (c_X6_following l dC dI cI cZ cC cJ cD m0 m_g m_kept m_spare m_was m_text m_told H21.size mg mkept mspare mhasKept mwas mwasMany manew (0 : Int32) mtext mlength mspot mvalue merror mtold mtolds a1 a2 r22 g24) (cwV 2 hts gX6_nextAfter_X6_following rfl rfl rfl hs_X6_following ⟨Nat.le_of_ble_eq_true rfl, Nat.le_of_ble_eq_true rfl⟩) (preV_ (ci := 8) (q0 := 0) hPc hK hDc rfl rfl rfl rfl) rfl rfl hl.1 rfl (lv_room (Nat.le_of_ble_eq_true rfl)) dX6_nextAfter_54 ⟨Nat.le_of_ble_eq_true rfl, Nat.le_of_ble_eq_true rfl⟩) hS (fun q _ h => hFc q h) hFc (fun z26 u t H25 locs ht hvm hw hB hz1 hk1 hS => ?_)
        have hw : r22 = z26 := hw.symm
        subst hw
        obtain ⟨hP, hD⟩ := aft_ (Wr := []) (Wc' := wM_ m0 m_g m_kept m_spare m_was m_text m_told cI mg mkept mspare mhasKept mwas mwasMany manew 0 mtext mlength mspot mvalue merror mtold mtolds) (W2 := wM_ m0 m_g m_kept m_spare m_was m_text m_told cI mg mkept mspare mhasKept mwas mwasMany manew 0 mtext mlength mspot mvalue merror mtold mtolds) hP hD [0, 1, 2, 3, 4, 5, 6] [] [0, 1, 2, 3, 4, 5, 6] rfl rfl (by decide) (by decide) (by decide) hk1 hFc hB ht rfl
        have hR := Option.some.inj hf
        subst hR
        exact W.iret (v := r22) hx hb hr (fun t ht hW => ⟨⟨r22, (), rfl, rfl, by rw [ht]; exact hP, va_K.moved hW.alike hK, hD⟩, hS.F ht⟩) hS.2.2 dX6_nextAfter_57
      · have hf := ite_F c20 hf
        refine lv_iconst (v := 3) hx hb dX6_nextAfter_24 (by decide) ?_
        refine lv_goto (tgt := 37) hx hb dX6_nextAfter_25 (by decide) ?_
        refine va_put (D := (dC, dI)) (ci := 8) (v := .int 3) (ty := .int) (C := RX6) (T := TX6) (N := 15) hx hb hts inX6_ tyX6 tyX6_ok nmX6 hown hK hP hD hS 0 rfl rfl 7 (by decide) fl32_ (fun _ h9 => h9) rfl (by decide +kernel) (by first | rfl | decide) (by first | rfl | decide) (Nat.le_of_ble_eq_true rfl) dX6_nextAfter_37 (fun H27 locs hP hD hS => ?_)
        have hP : va_P (dC, dI) vwCl (wM_ m0 m_g m_kept m_spare m_was m_text m_told cI mg mkept mspare mhasKept mwas mwasMany manew 3 mtext mlength mspot mvalue merror mtold mtolds) H27 := hP
        have hD : va_D A (wM_ m0 m_g m_kept m_spare m_was m_text m_told cI mg mkept mspare mhasKept mwas mwasMany manew 3 mtext mlength mspot mvalue merror mtold mtolds) := hD
        refine lv_aload_n hx hb dX6_nextAfter_40 rfl (lv_at hl 0 rfl) ?_
        refine va_get (D := (dC, dI)) (ci := 8) (v := .int 3) (C := RX6) (T := TX6) (N := 15) hx hb hts inX6_ hown hK hP 0 rfl rfl 7 (by decide) fl32_ (fun _ h9 => h9) rfl dX6_nextAfter_41 ?_
        refine lv_if_le (tgt := 51) hx hb dX6_nextAfter_44 (by decide) (fun c9 => absurd c9 (by decide)) (fun _ => ?_)
        refine lv_iconst (v := 0) hx hb dX6_nextAfter_47 (by decide) ?_
        refine lv_goto (tgt := 57) hx hb dX6_nextAfter_48 (by decide) ?_
        have hR := Option.some.inj hf
        subst hR
        exact W.iret (v := (0 : Int32)) hx hb hr (fun t ht hW => ⟨⟨(0 : Int32), (), rfl, rfl, by rw [ht]; exact hP, va_K.moved hW.alike hK, hD⟩, hS.F ht⟩) hS.2.2 dX6_nextAfter_57
theorem hs_X6_nextAfter : yX6_nextAfter.cls = RX6 ∧ yX6_nextAfter.cls ≠ "java/lang/invoke/MethodHandle" ∧ yX6_nextAfter.cls ≠ "java/lang/invoke/VarHandle" ∧ (parseMethodDescriptor yX6_nextAfter.desc).map (fun d => d.parameters.length) = some 2 := by decide +kernel
set_option maxRecDepth 20000 in
theorem in_X6_versionTold_X6 : ∀ w ∈ wsX60, w ∈ wsX6_versionTold := by decide +kernel
def f_X6_versionTold (a1 : Int32) (a2 : Int32) (M_ : tM_) : Option (Int32) :=
match M_ with
| (mg, mkept, mspare, mhasKept, mwas, mwasMany, manew, mthrown, mtext, mlength, mspot, mvalue, merror, mtold, mtolds) =>
if a2 = 0 then
gd_ (70 + a1) 610 (
some (mg ((70 + a1).toNatClampNeg)))
else
if a2 = 1 then
gd_ (130 + a1) 610 (
some (mg ((130 + a1).toNatClampNeg)))
else
if a2 = 2 then
gd_ (190 + a1) 610 (
some (mg ((190 + a1).toNatClampNeg)))
else
if a2 = 3 then
gd_ (250 + a1) 610 (
some (mg ((250 + a1).toNatClampNeg)))
else
if a2 = 4 then
bd_ (f_X6_factsOf a1 (0 : Int32) (mg, mkept, mspare, mhasKept, mwas, mwasMany, manew, mthrown, mtext, mlength, mspot, mvalue, merror, mtold, mtolds)) (fun r10 =>
some r10)
else
gd_ (190 + a1) 610 (
gd_ (130 + a1) 610 (
some ((mg ((190 + a1).toNatClampNeg)) - (mg ((130 + a1).toNatClampNeg)))))
abbrev rm_X6_versionTold : Room := { frames := 4, cells := 0, slots := 0, locals := 90 }
set_option maxHeartbeats 4000000 in
set_option maxRecDepth 100000 in
theorem c_X6_versionTold (l : Launch) (dC : Nat → ClassId) (dI : Nat → Nat → Nat) (cI cZ cC cJ cD : ClassId) (m0 m_g m_kept m_spare m_was m_text m_told : Nat) (sz : Nat) (mg : Nat → Int32) (mkept : Nat → Int32) (mspare : Nat → Int32) (mhasKept : Int32) (mwas : Nat → Int32) (mwasMany : Int32) (manew : Int32) (mthrown : Int32) (mtext : Nat → Int32) (mlength : Int32) (mspot : Int32) (mvalue : Int32) (merror : Int32) (mtold : Nat → Int32) (mtolds : Int32) (a1 : Int32) (a2 : Int32) (R : Int32) (hf : f_X6_versionTold a1 a2 (mg, mkept, mspare, mhasKept, mwas, mwasMany, manew, mthrown, mtext, mlength, mspot, mvalue, merror, mtold, mtolds) = some R) : Met l yX6_versionTold wsX6_versionTold rm_X6_versionTold (Pc_ (dC, dI) (ty_ cI cZ cC cJ cD) (wM_ m0 m_g m_kept m_spare m_was m_text m_told cI mg mkept mspare mhasKept mwas mwasMany manew mthrown mtext mlength mspot mvalue merror mtold mtolds) sz [.ref m0, .int a1, .int a2]) (Qi_ (dC, dI) (ty_ cI cZ cC cJ cD) R (wM_ m0 m_g m_kept m_spare m_was m_text m_told cI mg mkept mspare mhasKept mwas mwasMany manew mthrown mtext mlength mspot mvalue merror mtold mtolds) (va_A (wM_ m0 m_g m_kept m_spare m_was m_text m_told cI mg mkept mspare mhasKept mwas mwasMany manew mthrown mtext mlength mspot mvalue merror mtold mtolds) sz)) 0 0 (va_A (wM_ m0 m_g m_kept m_spare m_was m_text m_told cI mg mkept mspare mhasKept mwas mwasMany manew mthrown mtext mlength mspot mvalue merror mtold mtolds) sz) := by
  refine met_ (cc := cX6_versionTold) (maxL := 3) (ret := (some .int)) (Qcf := fun A => Qi_ (dC, dI) (ty_ cI cZ cC cJ cD) R (wM_ m0 m_g m_kept m_spare m_was m_text m_told cI mg mkept mspare mhasKept mwas mwasMany manew mthrown mtext mlength mspot mvalue merror mtold mtolds) A) (by decide) rfl (Nat.le_of_ble_eq_true rfl) ?_
  intro p e s m args below meth c A ls hx hb hr hts hown hlocks hml hA hP hK hD hl
  have hown : s.vm.findClass RX6 = some m.cls := hown
  have hl : lv_has ls 3 [(0, .ref m0), (1, .int a1), (2, .int a2)] := hl
  have hS : va_S A s.heap s.heap [] := va_S.rf
  have fl7_ : (Cond.fieldLink RX6 7 "DimensionLoaderModel" "g" "[I").before args s = true := hts _ (List.mem_of_getElem? (i := 1) rfl)
  have inX6_ : ∀ w ∈ wsX60, w ∈ wsX6_versionTold := in_X6_versionTold_X6
  unfold f_X6_versionTold at hf
  dsimp only at hf
  refine lv_iload_n hx hb dX6_versionTold_0 rfl (lv_at hl 2 rfl) ?_
  by_cases c1 : a2 = 0
  · have hf := ite_T c1 hf
    refine lv_tableIn (tgt := 36) (off := 35) hx hb dX6_versionTold_1 (by rw [c1]; decide) (by rw [c1]; decide) (by rw [c1]; rfl) (by decide) ?_
    refine lv_aload_n hx hb dX6_versionTold_36 rfl (lv_at hl 0 rfl) ?_
    refine va_get (D := (dC, dI)) (ci := 8) (v := .ref m_g) (C := RX6) (T := TX6) (N := 15) hx hb hts inX6_ hown hK hP 0 rfl rfl 0 (by decide) fl7_ (fun _ h9 => h9) rfl dX6_versionTold_37 ?_
    refine lv_bipush (v := 70) hx hb dX6_versionTold_40 (by decide) ?_
    refine lv_iload_n hx hb dX6_versionTold_42 rfl (lv_at hl 1 rfl) ?_
    refine lv_iadd hx hb dX6_versionTold_43 ?_
    obtain ⟨h2, hf⟩ := gd_T hf
    refine va_iald hx hb hK hP 1 0 rfl rfl h2 dX6_versionTold_44 ?_
    have hR := Option.some.inj hf
    subst hR
    exact W.iret (v := mg ((70 + a1).toNatClampNeg)) hx hb hr (fun t ht hW => ⟨⟨mg ((70 + a1).toNatClampNeg), (), rfl, rfl, by rw [ht]; exact hP, va_K.moved hW.alike hK, hD⟩, hS.F ht⟩) hS.2.2 dX6_versionTold_45
  · have hf := ite_F c1 hf
    by_cases c3 : a2 = 1
    · have hf := ite_T c3 hf
      refine lv_tableIn (tgt := 46) (off := 45) hx hb dX6_versionTold_1 (by rw [c3]; decide) (by rw [c3]; decide) (by rw [c3]; rfl) (by decide) ?_
      refine lv_aload_n hx hb dX6_versionTold_46 rfl (lv_at hl 0 rfl) ?_
      refine va_get (D := (dC, dI)) (ci := 8) (v := .ref m_g) (C := RX6) (T := TX6) (N := 15) hx hb hts inX6_ hown hK hP 0 rfl rfl 0 (by decide) fl7_ (fun _ h9 => h9) rfl dX6_versionTold_47 ?_
      refine lv_sipush (v := 130) hx hb dX6_versionTold_50 (by decide) ?_
      refine lv_iload_n hx hb dX6_versionTold_53 rfl (lv_at hl 1 rfl) ?_
      refine lv_iadd hx hb dX6_versionTold_54 ?_
      obtain ⟨h4, hf⟩ := gd_T hf
      refine va_iald hx hb hK hP 1 0 rfl rfl h4 dX6_versionTold_55 ?_
      have hR := Option.some.inj hf
      subst hR
      exact W.iret (v := mg ((130 + a1).toNatClampNeg)) hx hb hr (fun t ht hW => ⟨⟨mg ((130 + a1).toNatClampNeg), (), rfl, rfl, by rw [ht]; exact hP, va_K.moved hW.alike hK, hD⟩, hS.F ht⟩) hS.2.2 dX6_versionTold_56
    · have hf := ite_F c3 hf
      by_cases c5 : a2 = 2
      · have hf := ite_T c5 hf
        refine lv_tableIn (tgt := 57) (off := 56) hx hb dX6_versionTold_1 (by rw [c5]; decide) (by rw [c5]; decide) (by rw [c5]; rfl) (by decide) ?_
        refine lv_aload_n hx hb dX6_versionTold_57 rfl (lv_at hl 0 rfl) ?_
        refine va_get (D := (dC, dI)) (ci := 8) (v := .ref m_g) (C := RX6) (T := TX6) (N := 15) hx hb hts inX6_ hown hK hP 0 rfl rfl 0 (by decide) fl7_ (fun _ h9 => h9) rfl dX6_versionTold_58 ?_
        refine lv_sipush (v := 190) hx hb dX6_versionTold_61 (by decide) ?_
        refine lv_iload_n hx hb dX6_versionTold_64 rfl (lv_at hl 1 rfl) ?_
        refine lv_iadd hx hb dX6_versionTold_65 ?_
        obtain ⟨h6, hf⟩ := gd_T hf
        refine va_iald hx hb hK hP 1 0 rfl rfl h6 dX6_versionTold_66 ?_
        have hR := Option.some.inj hf
        subst hR
        exact W.iret (v := mg ((190 + a1).toNatClampNeg)) hx hb hr (fun t ht hW => ⟨⟨mg ((190 + a1).toNatClampNeg), (), rfl, rfl, by rw [ht]; exact hP, va_K.moved hW.alike hK, hD⟩, hS.F ht⟩) hS.2.2 dX6_versionTold_67
      · have hf := ite_F c5 hf
        by_cases c7 : a2 = 3
        · have hf := ite_T c7 hf
          refine lv_tableIn (tgt := 68) (off := 67) hx hb dX6_versionTold_1 (by rw [c7]; decide) (by rw [c7]; decide) (by rw [c7]; rfl) (by decide) ?_
          refine lv_aload_n hx hb dX6_versionTold_68 rfl (lv_at hl 0 rfl) ?_
          refine va_get (D := (dC, dI)) (ci := 8) (v := .ref m_g) (C := RX6) (T := TX6) (N := 15) hx hb hts inX6_ hown hK hP 0 rfl rfl 0 (by decide) fl7_ (fun _ h9 => h9) rfl dX6_versionTold_69 ?_
          refine lv_sipush (v := 250) hx hb dX6_versionTold_72 (by decide) ?_
          refine lv_iload_n hx hb dX6_versionTold_75 rfl (lv_at hl 1 rfl) ?_
          refine lv_iadd hx hb dX6_versionTold_76 ?_
          obtain ⟨h8, hf⟩ := gd_T hf
          refine va_iald hx hb hK hP 1 0 rfl rfl h8 dX6_versionTold_77 ?_
          have hR := Option.some.inj hf
          subst hR
          exact W.iret (v := mg ((250 + a1).toNatClampNeg)) hx hb hr (fun t ht hW => ⟨⟨mg ((250 + a1).toNatClampNeg), (), rfl, rfl, by rw [ht]; exact hP, va_K.moved hW.alike hK, hD⟩, hS.F ht⟩) hS.2.2 dX6_versionTold_78
        · have hf := ite_F c7 hf
          by_cases c9 : a2 = 4
          · have hf := ite_T c9 hf
            refine lv_tableIn (tgt := 79) (off := 78) hx hb dX6_versionTold_1 (by rw [c9]; decide) (by rw [c9]; decide) (by rw [c9]; rfl) (by decide) ?_
            refine lv_aload_n hx hb dX6_versionTold_79 rfl (lv_at hl 0 rfl) ?_
            refine lv_iload_n hx hb dX6_versionTold_80 rfl (lv_at hl 1 rfl) ?_
            refine lv_iconst (v := 0) hx hb dX6_versionTold_81 (by decide) ?_
            obtain ⟨R11, g12, hf⟩ := bd_B hf
            obtain ⟨r10, rfl⟩ : ∃ z, z = R11 := ⟨_, rfl⟩
            have hPc := hP
            have hDc := hD
            have hFc := va_free (wc := wM_ m0 m_g m_kept m_spare m_was m_text m_told cI mg mkept mspare mhasKept mwas mwasMany manew mthrown mtext mlength mspot mvalue merror mtold mtolds) hD hS hA [0, 1, 2, 3, 4, 5, 6] rfl
            refine va_calli (va_runV (As := [.int a1, .int 0]) (rest := []) ⟨hx, hb, hml, hown, hts⟩ (c_X6_factsOf l dC dI cI cZ cC cJ cD m0 m_g m_kept m_spare m_was m_text m_told s.heap.size mg mkept mspare mhasKept mwas mwasMany manew mthrown mtext mlength mspot mvalue merror mtold mtolds a1 (0 : Int32) r10 g12) (cwV 2 hts gX6_versionTold_X6_factsOf rfl rfl rfl hs_X6_factsOf ⟨Nat.le_of_ble_eq_true rfl, Nat.le_of_ble_eq_true rfl⟩) (preV_ (ci := 8) (q0 := 0) hPc hK hDc rfl rfl rfl rfl) rfl rfl hl.1 rfl (lv_room (Nat.le_of_ble_eq_true rfl)) dX6_versionTold_82 ⟨Nat.le_of_ble_eq_true rfl, Nat.le_of_ble_eq_true rfl⟩) hS (fun q _ h => hFc q h) hFc (fun z14 u t H13 locs ht hvm hw hB hz1 hk1 hS => ?_)
            have hw : r10 = z14 := hw.symm
            subst hw
            obtain ⟨hP, hD⟩ := aft_ (Wr := []) (Wc' := wM_ m0 m_g m_kept m_spare m_was m_text m_told cI mg mkept mspare mhasKept mwas mwasMany manew mthrown mtext mlength mspot mvalue merror mtold mtolds) (W2 := wM_ m0 m_g m_kept m_spare m_was m_text m_told cI mg mkept mspare mhasKept mwas mwasMany manew mthrown mtext mlength mspot mvalue merror mtold mtolds) hP hD [0, 1, 2, 3, 4, 5, 6] [] [0, 1, 2, 3, 4, 5, 6] rfl rfl (by decide) (by decide) (by decide) hk1 hFc hB ht rfl
            have hR := Option.some.inj hf
            subst hR
            exact W.iret (v := r10) hx hb hr (fun t ht hW => ⟨⟨r10, (), rfl, rfl, by rw [ht]; exact hP, va_K.moved hW.alike hK, hD⟩, hS.F ht⟩) hS.2.2 dX6_versionTold_85
          · have hf := ite_F c9 hf
            have t0_ := ne_L c1 (show (0 : Int32).toInt = 0 by decide)
            have t1_ := ne_L c3 (show (1 : Int32).toInt = 1 by decide)
            have t2_ := ne_L c5 (show (2 : Int32).toInt = 2 by decide)
            have t3_ := ne_L c7 (show (3 : Int32).toInt = 3 by decide)
            have t4_ := ne_L c9 (show (4 : Int32).toInt = 4 by decide)
            refine lv_tableOut (tgt := 86) hx hb dX6_versionTold_1 (by omega) (by decide) ?_
            refine lv_aload_n hx hb dX6_versionTold_86 rfl (lv_at hl 0 rfl) ?_
            refine va_get (D := (dC, dI)) (ci := 8) (v := .ref m_g) (C := RX6) (T := TX6) (N := 15) hx hb hts inX6_ hown hK hP 0 rfl rfl 0 (by decide) fl7_ (fun _ h9 => h9) rfl dX6_versionTold_87 ?_
            refine lv_sipush (v := 190) hx hb dX6_versionTold_90 (by decide) ?_
            refine lv_iload_n hx hb dX6_versionTold_93 rfl (lv_at hl 1 rfl) ?_
            refine lv_iadd hx hb dX6_versionTold_94 ?_
            obtain ⟨h15, hf⟩ := gd_T hf
            refine va_iald hx hb hK hP 1 0 rfl rfl h15 dX6_versionTold_95 ?_
            refine lv_aload_n hx hb dX6_versionTold_96 rfl (lv_at hl 0 rfl) ?_
            refine va_get (D := (dC, dI)) (ci := 8) (v := .ref m_g) (C := RX6) (T := TX6) (N := 15) hx hb hts inX6_ hown hK hP 0 rfl rfl 0 (by decide) fl7_ (fun _ h9 => h9) rfl dX6_versionTold_97 ?_
            refine lv_sipush (v := 130) hx hb dX6_versionTold_100 (by decide) ?_
            refine lv_iload_n hx hb dX6_versionTold_103 rfl (lv_at hl 1 rfl) ?_
            refine lv_iadd hx hb dX6_versionTold_104 ?_
            obtain ⟨h16, hf⟩ := gd_T hf
            refine va_iald hx hb hK hP 1 0 rfl rfl h16 dX6_versionTold_105 ?_
            refine lv_isub hx hb dX6_versionTold_106 ?_
            have hR := Option.some.inj hf
            subst hR
            exact W.iret (v := (mg ((190 + a1).toNatClampNeg)) - (mg ((130 + a1).toNatClampNeg))) hx hb hr (fun t ht hW => ⟨⟨(mg ((190 + a1).toNatClampNeg)) - (mg ((130 + a1).toNatClampNeg)), (), rfl, rfl, by rw [ht]; exact hP, va_K.moved hW.alike hK, hD⟩, hS.F ht⟩) hS.2.2 dX6_versionTold_107
theorem hs_X6_versionTold : yX6_versionTold.cls = RX6 ∧ yX6_versionTold.cls ≠ "java/lang/invoke/MethodHandle" ∧ yX6_versionTold.cls ≠ "java/lang/invoke/VarHandle" ∧ (parseMethodDescriptor yX6_versionTold.desc).map (fun d => d.parameters.length) = some 2 := by decide +kernel
set_option maxRecDepth 20000 in
theorem in_X6_version_X6 : ∀ w ∈ wsX60, w ∈ wsX6_version := by decide +kernel
def f_X6_version (a1 : Int32) (a2 : Int32) (M_ : tM_) : Option (Int32 × tM_) :=
match M_ with
| (mg, mkept, mspare, mhasKept, mwas, mwasMany, manew, mthrown, mtext, mlength, mspot, mvalue, merror, mtold, mtolds) =>
bd_ (f_X6_isVersion a1 (mg, mkept, mspare, mhasKept, mwas, mwasMany, manew, 0, mtext, mlength, mspot, mvalue, merror, mtold, mtolds)) (fun r2 =>
if r2 = 0 then
bd_ (f_X6_fails (1 : Int32) (mg, mkept, mspare, mhasKept, mwas, mwasMany, manew, 0, mtext, mlength, mspot, mvalue, merror, mtold, mtolds)) (fun (r39, (mg40, mk41, ms42, mh43, mw44, mw45, ma46, mt47, mt48, ml49, ms50, mv51, me52, mt53, mt54)) =>
some (r39, (mg40, mk41, ms42, mh43, mw44, mw45, ma46, mt47, mt48, ml49, ms50, mv51, me52, mt53, mt54)))
else
bd_ (f_X6_in a2 (0 : Int32) (5 : Int32)) (fun r8 =>
if r8 = 0 then
bd_ (f_X6_fails (2 : Int32) (mg, mkept, mspare, mhasKept, mwas, mwasMany, manew, 0, mtext, mlength, mspot, mvalue, merror, mtold, mtolds)) (fun (r14, (mg15, mk16, ms17, mh18, mw19, mw20, ma21, mt22, mt23, ml24, ms25, mv26, me27, mt28, mt29)) =>
some (r14, (mg15, mk16, ms17, mh18, mw19, mw20, ma21, mt22, mt23, ml24, ms25, mv26, me27, mt28, mt29)))
else
bd_ (f_X6_versionTold a1 a2 (mg, mkept, mspare, mhasKept, mwas, mwasMany, manew, 0, mtext, mlength, mspot, mvalue, merror, mtold, mtolds)) (fun r34 =>
some (r34, (mg, mkept, mspare, mhasKept, mwas, mwasMany, manew, 0, mtext, mlength, mspot, mvalue, merror, mtold, mtolds)))))
abbrev rm_X6_version : Room := { frames := 5, cells := 0, slots := 0, locals := 112 }
set_option maxHeartbeats 4000000 in
set_option maxRecDepth 100000 in
theorem c_X6_version (l : Launch) (dC : Nat → ClassId) (dI : Nat → Nat → Nat) (cI cZ cC cJ cD : ClassId) (m0 m_g m_kept m_spare m_was m_text m_told : Nat) (sz : Nat) (mg : Nat → Int32) (mkept : Nat → Int32) (mspare : Nat → Int32) (mhasKept : Int32) (mwas : Nat → Int32) (mwasMany : Int32) (manew : Int32) (mthrown : Int32) (mtext : Nat → Int32) (mlength : Int32) (mspot : Int32) (mvalue : Int32) (merror : Int32) (mtold : Nat → Int32) (mtolds : Int32) (a1 : Int32) (a2 : Int32) (R : Int32 × tM_) (hf : f_X6_version a1 a2 (mg, mkept, mspare, mhasKept, mwas, mwasMany, manew, mthrown, mtext, mlength, mspot, mvalue, merror, mtold, mtolds) = some R) : Met l yX6_version wsX6_version rm_X6_version (Pc_ (dC, dI) (ty_ cI cZ cC cJ cD) (wM_ m0 m_g m_kept m_spare m_was m_text m_told cI mg mkept mspare mhasKept mwas mwasMany manew mthrown mtext mlength mspot mvalue merror mtold mtolds) sz [.ref m0, .int a1, .int a2]) (Qi_ (dC, dI) (ty_ cI cZ cC cJ cD) R.1 (wM_ m0 m_g m_kept m_spare m_was m_text m_told cI R.2.1 R.2.2.1 R.2.2.2.1 R.2.2.2.2.1 R.2.2.2.2.2.1 R.2.2.2.2.2.2.1 R.2.2.2.2.2.2.2.1 R.2.2.2.2.2.2.2.2.1 R.2.2.2.2.2.2.2.2.2.1 R.2.2.2.2.2.2.2.2.2.2.1 R.2.2.2.2.2.2.2.2.2.2.2.1 R.2.2.2.2.2.2.2.2.2.2.2.2.1 R.2.2.2.2.2.2.2.2.2.2.2.2.2.1 R.2.2.2.2.2.2.2.2.2.2.2.2.2.2.1 R.2.2.2.2.2.2.2.2.2.2.2.2.2.2.2) (va_A (wM_ m0 m_g m_kept m_spare m_was m_text m_told cI mg mkept mspare mhasKept mwas mwasMany manew mthrown mtext mlength mspot mvalue merror mtold mtolds) sz)) 0 0 (va_A (wM_ m0 m_g m_kept m_spare m_was m_text m_told cI mg mkept mspare mhasKept mwas mwasMany manew mthrown mtext mlength mspot mvalue merror mtold mtolds) sz) := by
  refine met_ (cc := cX6_version) (maxL := 3) (ret := (some .int)) (Qcf := fun A => Qi_ (dC, dI) (ty_ cI cZ cC cJ cD) R.1 (wM_ m0 m_g m_kept m_spare m_was m_text m_told cI R.2.1 R.2.2.1 R.2.2.2.1 R.2.2.2.2.1 R.2.2.2.2.2.1 R.2.2.2.2.2.2.1 R.2.2.2.2.2.2.2.1 R.2.2.2.2.2.2.2.2.1 R.2.2.2.2.2.2.2.2.2.1 R.2.2.2.2.2.2.2.2.2.2.1 R.2.2.2.2.2.2.2.2.2.2.2.1 R.2.2.2.2.2.2.2.2.2.2.2.2.1 R.2.2.2.2.2.2.2.2.2.2.2.2.2.1 R.2.2.2.2.2.2.2.2.2.2.2.2.2.2.1 R.2.2.2.2.2.2.2.2.2.2.2.2.2.2.2) A) (by decide) rfl (Nat.le_of_ble_eq_true rfl) ?_
  intro p e s m args below meth c A ls hx hb hr hts hown hlocks hml hA hP hK hD hl
  have hown : s.vm.findClass RX6 = some m.cls := hown
  have hl : lv_has ls 3 [(0, .ref m0), (1, .int a1), (2, .int a2)] := hl
  have hS : va_S A s.heap s.heap [] := va_S.rf
  have fl32_ : (Cond.fieldLink RX6 32 "DimensionLoaderModel" "thrown" "I").before args s = true := hts _ (List.mem_of_getElem? (i := 1) rfl)
  have inX6_ : ∀ w ∈ wsX60, w ∈ wsX6_version := in_X6_version_X6
  unfold f_X6_version at hf
  dsimp only at hf
  refine lv_aload_n hx hb dX6_version_0 rfl (lv_at hl 0 rfl) ?_
  refine lv_iconst (v := 0) hx hb dX6_version_1 (by decide) ?_
  refine va_put (D := (dC, dI)) (ci := 8) (v := .int 0) (ty := .int) (C := RX6) (T := TX6) (N := 15) hx hb hts inX6_ tyX6 tyX6_ok nmX6 hown hK hP hD hS 0 rfl rfl 7 (by decide) fl32_ (fun _ h9 => h9) rfl (by decide +kernel) (by first | rfl | decide) (by first | rfl | decide) (Nat.le_of_ble_eq_true rfl) dX6_version_2 (fun H1 locs hP hD hS => ?_)
  have hP : va_P (dC, dI) vwCl (wM_ m0 m_g m_kept m_spare m_was m_text m_told cI mg mkept mspare mhasKept mwas mwasMany manew 0 mtext mlength mspot mvalue merror mtold mtolds) H1 := hP
  have hD : va_D A (wM_ m0 m_g m_kept m_spare m_was m_text m_told cI mg mkept mspare mhasKept mwas mwasMany manew 0 mtext mlength mspot mvalue merror mtold mtolds) := hD
  refine lv_aload_n hx hb dX6_version_5 rfl (lv_at hl 0 rfl) ?_
  refine lv_iload_n hx hb dX6_version_6 rfl (lv_at hl 1 rfl) ?_
  obtain ⟨R3, g4, hf⟩ := bd_B hf
  obtain ⟨r2, rfl⟩ : ∃ z, z = R3 := ⟨_, rfl⟩
  have hPc := hP
  have hDc := hD
  have hFc := va_free (wc := wM_ m0 m_g m_kept m_spare m_was m_text m_told cI mg mkept mspare mhasKept mwas mwasMany manew 0 mtext mlength mspot mvalue merror mtold mtolds) hD hS hA [0, 1, 2, 3, 4, 5, 6] rfl
  refine va_calli (va_runV (As := [.int a1]) (rest := []) ⟨hx, hb, hml, hown, hts⟩ (c_X6_isVersion l dC dI cI cZ cC cJ cD m0 m_g m_kept m_spare m_was m_text m_told H1.size mg mkept mspare mhasKept mwas mwasMany manew (0 : Int32) mtext mlength mspot mvalue merror mtold mtolds a1 r2 g4) (cwV 1 hts gX6_version_X6_isVersion rfl rfl rfl hs_X6_isVersion ⟨Nat.le_of_ble_eq_true rfl, Nat.le_of_ble_eq_true rfl⟩) (preV_ (ci := 8) (q0 := 0) hPc hK hDc rfl rfl rfl rfl) rfl rfl hl.1 rfl (lv_room (Nat.le_of_ble_eq_true rfl)) dX6_version_7 ⟨Nat.le_of_ble_eq_true rfl, Nat.le_of_ble_eq_true rfl⟩) hS (fun q _ h => hFc q h) hFc (fun z6 u t H5 locs ht hvm hw hB hz1 hk1 hS => ?_)
  have hw : r2 = z6 := hw.symm
  subst hw
  obtain ⟨hP, hD⟩ := aft_ (Wr := []) (Wc' := wM_ m0 m_g m_kept m_spare m_was m_text m_told cI mg mkept mspare mhasKept mwas mwasMany manew 0 mtext mlength mspot mvalue merror mtold mtolds) (W2 := wM_ m0 m_g m_kept m_spare m_was m_text m_told cI mg mkept mspare mhasKept mwas mwasMany manew 0 mtext mlength mspot mvalue merror mtold mtolds) hP hD [0, 1, 2, 3, 4, 5, 6] [] [0, 1, 2, 3, 4, 5, 6] rfl rfl (by decide) (by decide) (by decide) hk1 hFc hB ht rfl
  refine lv_if_ne (tgt := 19) hx hb dX6_version_10 (by decide) (fun c7 => ?_) (fun c7 => ?_)
  · have hf := ite_F c7 hf
    refine lv_iload_n hx hb dX6_version_19 rfl (lv_at hl 2 rfl) ?_
    refine lv_iconst (v := 0) hx hb dX6_version_20 (by decide) ?_
    refine lv_iconst (v := 5) hx hb dX6_version_21 (by decide) ?_
    obtain ⟨R9, g10, hf⟩ := bd_B hf
    obtain ⟨r8, rfl⟩ : ∃ z, z = R9 := ⟨_, rfl⟩
    have hPc := hP.sub (ws' := []) [] rfl
    have hDc := hD.sub (ws' := []) [] (by decide) rfl
    have hFc := va_free (wc := []) hD hS hA [] rfl
    refine va_calli (va_runS (As := [.int a2, .int 0, .int 5]) (rest := []) ⟨hx, hb, hml, hown, hts⟩ (c_X6_in l dC dI cI cZ cC cJ cD H5.size a2 (0 : Int32) (5 : Int32) r8 g10) (cwS 3 hts gX6_version_X6_in rfl rfl rfl hs_X6_in ⟨Nat.le_of_ble_eq_true rfl, Nat.le_of_ble_eq_true rfl⟩) (preS_ hPc hK hDc rfl) rfl rfl hl.1 rfl (lv_room (Nat.le_of_ble_eq_true rfl)) dX6_version_22 ⟨Nat.le_of_ble_eq_true rfl, Nat.le_of_ble_eq_true rfl⟩) hS (fun q _ h => hFc q h) hFc (fun z12 u t H11 locs ht hvm hw hB hz1 hk1 hS => ?_)
    have hw : r8 = z12 := hw.symm
    subst hw
    obtain ⟨hP, hD⟩ := aft_ (Wr := wM_ m0 m_g m_kept m_spare m_was m_text m_told cI mg mkept mspare mhasKept mwas mwasMany manew 0 mtext mlength mspot mvalue merror mtold mtolds) (Wc' := []) (W2 := wM_ m0 m_g m_kept m_spare m_was m_text m_told cI mg mkept mspare mhasKept mwas mwasMany manew 0 mtext mlength mspot mvalue merror mtold mtolds) hP hD [] [0, 1, 2, 3, 4, 5, 6] [0, 1, 2, 3, 4, 5, 6] rfl rfl (by decide) (by decide) (by decide) hk1 hFc hB ht rfl
    refine lv_if_eq (tgt := 37) hx hb dX6_version_25 (by decide) (fun c13 => ?_) (fun c13 => ?_)
    · have hf := ite_T c13 hf
      refine lv_aload_n hx hb dX6_version_37 rfl (lv_at hl 0 rfl) ?_
      refine lv_iconst (v := 2) hx hb dX6_version_38 (by decide) ?_
      obtain ⟨R30, g31, hf⟩ := bd_B hf
      obtain ⟨r14, ⟨mg15, mk16, ms17, mh18, mw19, mw20, ma21, mt22, mt23, ml24, ms25, mv26, me27, mt28, mt29⟩⟩ := R30
      dsimp only at hf
      have hPc := hP
      have hDc := hD
      have hFc := va_free (wc := wM_ m0 m_g m_kept m_spare m_was m_text m_told cI mg mkept mspare mhasKept mwas mwasMany manew 0 mtext mlength mspot mvalue merror mtold mtolds) hD hS hA [0, 1, 2, 3, 4, 5, 6] rfl
      refine va_calli (va_runV (As := [.int 2]) (rest := []) ⟨hx, hb, hml, hown, hts⟩ (c_X6_fails l dC dI cI cZ cC cJ cD m0 m_g m_kept m_spare m_was m_text m_told H11.size mg mkept mspare mhasKept mwas mwasMany manew (0 : Int32) mtext mlength mspot mvalue merror mtold mtolds (2 : Int32) (r14, (mg15, mk16, ms17, mh18, mw19, mw20, ma21, mt22, mt23, ml24, ms25, mv26, me27, mt28, mt29)) g31) (cwV 1 hts gX6_version_X6_fails rfl rfl rfl hs_X6_fails ⟨Nat.le_of_ble_eq_true rfl, Nat.le_of_ble_eq_true rfl⟩) (preV_ (ci := 8) (q0 := 0) hPc hK hDc rfl rfl rfl rfl) rfl rfl hl.1 rfl (lv_room (Nat.le_of_ble_eq_true rfl)) dX6_version_39 ⟨Nat.le_of_ble_eq_true rfl, Nat.le_of_ble_eq_true rfl⟩) hS (fun q _ h => hFc q h) hFc (fun z33 u t H32 locs ht hvm hw hB hz1 hk1 hS => ?_)
      have hw : r14 = z33 := hw.symm
      subst hw
      obtain ⟨hP, hD⟩ := aft_ (Wr := []) (Wc' := wM_ m0 m_g m_kept m_spare m_was m_text m_told cI mg15 mk16 ms17 mh18 mw19 mw20 ma21 mt22 mt23 ml24 ms25 mv26 me27 mt28 mt29) (W2 := wM_ m0 m_g m_kept m_spare m_was m_text m_told cI mg15 mk16 ms17 mh18 mw19 mw20 ma21 mt22 mt23 ml24 ms25 mv26 me27 mt28 mt29) hP hD [0, 1, 2, 3, 4, 5, 6] [] [0, 1, 2, 3, 4, 5, 6] rfl rfl (by decide) (by decide) (by decide) hk1 hFc hB ht rfl
      have hR := Option.some.inj hf
      subst hR
      exact W.iret (v := r14) hx hb hr (fun t ht hW => ⟨⟨r14, (), rfl, rfl, by rw [ht]; exact hP, va_K.moved hW.alike hK, hD⟩, hS.F ht⟩) hS.2.2 dX6_version_42
    · have hf := ite_F c13 hf
      refine lv_aload_n hx hb dX6_version_28 rfl (lv_at hl 0 rfl) ?_
      refine lv_iload_n hx hb dX6_version_29 rfl (lv_at hl 1 rfl) ?_
      refine lv_iload_n hx hb dX6_version_30 rfl (lv_at hl 2 rfl) ?_
      obtain ⟨R35, g36, hf⟩ := bd_B hf
      obtain ⟨r34, rfl⟩ : ∃ z, z = R35 := ⟨_, rfl⟩
      have hPc := hP
      have hDc := hD
      have hFc := va_free (wc := wM_ m0 m_g m_kept m_spare m_was m_text m_told cI mg mkept mspare mhasKept mwas mwasMany manew 0 mtext mlength mspot mvalue merror mtold mtolds) hD hS hA [0, 1, 2, 3, 4, 5, 6] rfl
      refine va_calli (va_runV (As := [.int a1, .int a2]) (rest := []) ⟨hx, hb, hml, hown, hts⟩ (c_X6_versionTold l dC dI cI cZ cC cJ cD m0 m_g m_kept m_spare m_was m_text m_told H11.size mg mkept mspare mhasKept mwas mwasMany manew (0 : Int32) mtext mlength mspot mvalue merror mtold mtolds a1 a2 r34 g36) (cwV 2 hts gX6_version_X6_versionTold rfl rfl rfl hs_X6_versionTold ⟨Nat.le_of_ble_eq_true rfl, Nat.le_of_ble_eq_true rfl⟩) (preV_ (ci := 8) (q0 := 0) hPc hK hDc rfl rfl rfl rfl) rfl rfl hl.1 rfl (lv_room (Nat.le_of_ble_eq_true rfl)) dX6_version_31 ⟨Nat.le_of_ble_eq_true rfl, Nat.le_of_ble_eq_true rfl⟩) hS (fun q _ h => hFc q h) hFc (fun z38 u t H37 locs ht hvm hw hB hz1 hk1 hS => ?_)
      have hw : r34 = z38 := hw.symm
      subst hw
      obtain ⟨hP, hD⟩ := aft_ (Wr := []) (Wc' := wM_ m0 m_g m_kept m_spare m_was m_text m_told cI mg mkept mspare mhasKept mwas mwasMany manew 0 mtext mlength mspot mvalue merror mtold mtolds) (W2 := wM_ m0 m_g m_kept m_spare m_was m_text m_told cI mg mkept mspare mhasKept mwas mwasMany manew 0 mtext mlength mspot mvalue merror mtold mtolds) hP hD [0, 1, 2, 3, 4, 5, 6] [] [0, 1, 2, 3, 4, 5, 6] rfl rfl (by decide) (by decide) (by decide) hk1 hFc hB ht rfl
      refine lv_goto (tgt := 42) hx hb dX6_version_34 (by decide) ?_
      have hR := Option.some.inj hf
      subst hR
      exact W.iret (v := r34) hx hb hr (fun t ht hW => ⟨⟨r34, (), rfl, rfl, by rw [ht]; exact hP, va_K.moved hW.alike hK, hD⟩, hS.F ht⟩) hS.2.2 dX6_version_42
  · have hf := ite_T c7 hf
    refine lv_aload_n hx hb dX6_version_13 rfl (lv_at hl 0 rfl) ?_
    refine lv_iconst (v := 1) hx hb dX6_version_14 (by decide) ?_
    obtain ⟨R55, g56, hf⟩ := bd_B hf
    obtain ⟨r39, ⟨mg40, mk41, ms42, mh43, mw44, mw45, ma46, mt47, mt48, ml49, ms50, mv51, me52, mt53, mt54⟩⟩ := R55
    dsimp only at hf
    have hPc := hP
    have hDc := hD
    have hFc := va_free (wc := wM_ m0 m_g m_kept m_spare m_was m_text m_told cI mg mkept mspare mhasKept mwas mwasMany manew 0 mtext mlength mspot mvalue merror mtold mtolds) hD hS hA [0, 1, 2, 3, 4, 5, 6] rfl
    refine va_calli (va_runV (As := [.int 1]) (rest := []) ⟨hx, hb, hml, hown, hts⟩ (c_X6_fails l dC dI cI cZ cC cJ cD m0 m_g m_kept m_spare m_was m_text m_told H5.size mg mkept mspare mhasKept mwas mwasMany manew (0 : Int32) mtext mlength mspot mvalue merror mtold mtolds (1 : Int32) (r39, (mg40, mk41, ms42, mh43, mw44, mw45, ma46, mt47, mt48, ml49, ms50, mv51, me52, mt53, mt54)) g56) (cwV 1 hts gX6_version_X6_fails rfl rfl rfl hs_X6_fails ⟨Nat.le_of_ble_eq_true rfl, Nat.le_of_ble_eq_true rfl⟩) (preV_ (ci := 8) (q0 := 0) hPc hK hDc rfl rfl rfl rfl) rfl rfl hl.1 rfl (lv_room (Nat.le_of_ble_eq_true rfl)) dX6_version_15 ⟨Nat.le_of_ble_eq_true rfl, Nat.le_of_ble_eq_true rfl⟩) hS (fun q _ h => hFc q h) hFc (fun z58 u t H57 locs ht hvm hw hB hz1 hk1 hS => ?_)
    have hw : r39 = z58 := hw.symm
    subst hw
    obtain ⟨hP, hD⟩ := aft_ (Wr := []) (Wc' := wM_ m0 m_g m_kept m_spare m_was m_text m_told cI mg40 mk41 ms42 mh43 mw44 mw45 ma46 mt47 mt48 ml49 ms50 mv51 me52 mt53 mt54) (W2 := wM_ m0 m_g m_kept m_spare m_was m_text m_told cI mg40 mk41 ms42 mh43 mw44 mw45 ma46 mt47 mt48 ml49 ms50 mv51 me52 mt53 mt54) hP hD [0, 1, 2, 3, 4, 5, 6] [] [0, 1, 2, 3, 4, 5, 6] rfl rfl (by decide) (by decide) (by decide) hk1 hFc hB ht rfl
    have hR := Option.some.inj hf
    subst hR
    exact W.iret (v := r39) hx hb hr (fun t ht hW => ⟨⟨r39, (), rfl, rfl, by rw [ht]; exact hP, va_K.moved hW.alike hK, hD⟩, hS.F ht⟩) hS.2.2 dX6_version_18
theorem hs_X6_version : yX6_version.cls = RX6 ∧ yX6_version.cls ≠ "java/lang/invoke/MethodHandle" ∧ yX6_version.cls ≠ "java/lang/invoke/VarHandle" ∧ (parseMethodDescriptor yX6_version.desc).map (fun d => d.parameters.length) = some 2 := by decide +kernel
set_option maxRecDepth 20000 in
theorem in_X6_isInferred_X6 : ∀ w ∈ wsX60, w ∈ wsX6_isInferred := by decide +kernel
def f_X6_isInferred (a1 : Int32) (M_ : tM_) : Option (Int32 × tM_) :=
match M_ with
| (mg, mkept, mspare, mhasKept, mwas, mwasMany, manew, mthrown, mtext, mlength, mspot, mvalue, merror, mtold, mtolds) =>
bd_ (f_X6_isVersion a1 (mg, mkept, mspare, mhasKept, mwas, mwasMany, manew, mthrown, mtext, mlength, mspot, mvalue, merror, mtold, mtolds)) (fun r1 =>
if r1 = 0 then
some ((0 : Int32), (mg, mkept, mspare, mhasKept, mwas, mwasMany, manew, 1, mtext, mlength, mspot, mvalue, merror, mtold, mtolds))
else
gd_ (310 + a1) 610 (
if (mg ((310 + a1).toNatClampNeg)) = 1 then
some ((1 : Int32), (mg, mkept, mspare, mhasKept, mwas, mwasMany, manew, 0, mtext, mlength, mspot, mvalue, merror, mtold, mtolds))
else
some ((0 : Int32), (mg, mkept, mspare, mhasKept, mwas, mwasMany, manew, 0, mtext, mlength, mspot, mvalue, merror, mtold, mtolds))))
abbrev rm_X6_isInferred : Room := { frames := 2, cells := 0, slots := 0, locals := 43 }
set_option maxHeartbeats 4000000 in
set_option maxRecDepth 100000 in
theorem c_X6_isInferred (l : Launch) (dC : Nat → ClassId) (dI : Nat → Nat → Nat) (cI cZ cC cJ cD : ClassId) (m0 m_g m_kept m_spare m_was m_text m_told : Nat) (sz : Nat) (mg : Nat → Int32) (mkept : Nat → Int32) (mspare : Nat → Int32) (mhasKept : Int32) (mwas : Nat → Int32) (mwasMany : Int32) (manew : Int32) (mthrown : Int32) (mtext : Nat → Int32) (mlength : Int32) (mspot : Int32) (mvalue : Int32) (merror : Int32) (mtold : Nat → Int32) (mtolds : Int32) (a1 : Int32) (R : Int32 × tM_) (hf : f_X6_isInferred a1 (mg, mkept, mspare, mhasKept, mwas, mwasMany, manew, mthrown, mtext, mlength, mspot, mvalue, merror, mtold, mtolds) = some R) : Met l yX6_isInferred wsX6_isInferred rm_X6_isInferred (Pc_ (dC, dI) (ty_ cI cZ cC cJ cD) (wM_ m0 m_g m_kept m_spare m_was m_text m_told cI mg mkept mspare mhasKept mwas mwasMany manew mthrown mtext mlength mspot mvalue merror mtold mtolds) sz [.ref m0, .int a1]) (Qi_ (dC, dI) (ty_ cI cZ cC cJ cD) R.1 (wM_ m0 m_g m_kept m_spare m_was m_text m_told cI R.2.1 R.2.2.1 R.2.2.2.1 R.2.2.2.2.1 R.2.2.2.2.2.1 R.2.2.2.2.2.2.1 R.2.2.2.2.2.2.2.1 R.2.2.2.2.2.2.2.2.1 R.2.2.2.2.2.2.2.2.2.1 R.2.2.2.2.2.2.2.2.2.2.1 R.2.2.2.2.2.2.2.2.2.2.2.1 R.2.2.2.2.2.2.2.2.2.2.2.2.1 R.2.2.2.2.2.2.2.2.2.2.2.2.2.1 R.2.2.2.2.2.2.2.2.2.2.2.2.2.2.1 R.2.2.2.2.2.2.2.2.2.2.2.2.2.2.2) (va_A (wM_ m0 m_g m_kept m_spare m_was m_text m_told cI mg mkept mspare mhasKept mwas mwasMany manew mthrown mtext mlength mspot mvalue merror mtold mtolds) sz)) 0 0 (va_A (wM_ m0 m_g m_kept m_spare m_was m_text m_told cI mg mkept mspare mhasKept mwas mwasMany manew mthrown mtext mlength mspot mvalue merror mtold mtolds) sz) := by
  refine met_ (cc := cX6_isInferred) (maxL := 2) (ret := (some .boolean)) (Qcf := fun A => Qi_ (dC, dI) (ty_ cI cZ cC cJ cD) R.1 (wM_ m0 m_g m_kept m_spare m_was m_text m_told cI R.2.1 R.2.2.1 R.2.2.2.1 R.2.2.2.2.1 R.2.2.2.2.2.1 R.2.2.2.2.2.2.1 R.2.2.2.2.2.2.2.1 R.2.2.2.2.2.2.2.2.1 R.2.2.2.2.2.2.2.2.2.1 R.2.2.2.2.2.2.2.2.2.2.1 R.2.2.2.2.2.2.2.2.2.2.2.1 R.2.2.2.2.2.2.2.2.2.2.2.2.1 R.2.2.2.2.2.2.2.2.2.2.2.2.2.1 R.2.2.2.2.2.2.2.2.2.2.2.2.2.2.1 R.2.2.2.2.2.2.2.2.2.2.2.2.2.2.2) A) (by decide) rfl (Nat.le_of_ble_eq_true rfl) ?_
  intro p e s m args below meth c A ls hx hb hr hts hown hlocks hml hA hP hK hD hl
  have hown : s.vm.findClass RX6 = some m.cls := hown
  have hl : lv_has ls 2 [(0, .ref m0), (1, .int a1)] := hl
  have hS : va_S A s.heap s.heap [] := va_S.rf
  have fl7_ : (Cond.fieldLink RX6 7 "DimensionLoaderModel" "g" "[I").before args s = true := hts _ (List.mem_of_getElem? (i := 2) rfl)
  have fl32_ : (Cond.fieldLink RX6 32 "DimensionLoaderModel" "thrown" "I").before args s = true := hts _ (List.mem_of_getElem? (i := 1) rfl)
  have inX6_ : ∀ w ∈ wsX60, w ∈ wsX6_isInferred := in_X6_isInferred_X6
  unfold f_X6_isInferred at hf
  dsimp only at hf
  refine lv_aload_n hx hb dX6_isInferred_0 rfl (lv_at hl 0 rfl) ?_
  refine lv_aload_n hx hb dX6_isInferred_1 rfl (lv_at hl 0 rfl) ?_
  refine lv_iload_n hx hb dX6_isInferred_2 rfl (lv_at hl 1 rfl) ?_
  obtain ⟨R2, g3, hf⟩ := bd_B hf
  obtain ⟨r1, rfl⟩ : ∃ z, z = R2 := ⟨_, rfl⟩
  have hPc := hP
  have hDc := hD
  have hFc := va_free (wc := wM_ m0 m_g m_kept m_spare m_was m_text m_told cI mg mkept mspare mhasKept mwas mwasMany manew mthrown mtext mlength mspot mvalue merror mtold mtolds) hD hS hA [0, 1, 2, 3, 4, 5, 6] rfl
  refine va_calli (va_runV (As := [.int a1]) (rest := [.ref m0]) ⟨hx, hb, hml, hown, hts⟩ (c_X6_isVersion l dC dI cI cZ cC cJ cD m0 m_g m_kept m_spare m_was m_text m_told s.heap.size mg mkept mspare mhasKept mwas mwasMany manew mthrown mtext mlength mspot mvalue merror mtold mtolds a1 r1 g3) (cwV 1 hts gX6_isInferred_X6_isVersion rfl rfl rfl hs_X6_isVersion ⟨Nat.le_of_ble_eq_true rfl, Nat.le_of_ble_eq_true rfl⟩) (preV_ (ci := 8) (q0 := 0) hPc hK hDc rfl rfl rfl rfl) rfl rfl hl.1 rfl (lv_room (Nat.le_of_ble_eq_true rfl)) dX6_isInferred_3 ⟨Nat.le_of_ble_eq_true rfl, Nat.le_of_ble_eq_true rfl⟩) hS (fun q _ h => hFc q h) hFc (fun z5 u t H4 locs ht hvm hw hB hz1 hk1 hS => ?_)
  have hw : r1 = z5 := hw.symm
  subst hw
  obtain ⟨hP, hD⟩ := aft_ (Wr := []) (Wc' := wM_ m0 m_g m_kept m_spare m_was m_text m_told cI mg mkept mspare mhasKept mwas mwasMany manew mthrown mtext mlength mspot mvalue merror mtold mtolds) (W2 := wM_ m0 m_g m_kept m_spare m_was m_text m_told cI mg mkept mspare mhasKept mwas mwasMany manew mthrown mtext mlength mspot mvalue merror mtold mtolds) hP hD [0, 1, 2, 3, 4, 5, 6] [] [0, 1, 2, 3, 4, 5, 6] rfl rfl (by decide) (by decide) (by decide) hk1 hFc hB ht rfl
  refine lv_if_eq (tgt := 13) hx hb dX6_isInferred_6 (by decide) (fun c6 => ?_) (fun c6 => ?_)
  · have hf := ite_T c6 hf
    refine lv_iconst (v := 1) hx hb dX6_isInferred_13 (by decide) ?_
    refine va_put (D := (dC, dI)) (ci := 8) (v := .int 1) (ty := .int) (C := RX6) (T := TX6) (N := 15) hx hb hts inX6_ tyX6 tyX6_ok nmX6 hown hK hP hD hS 0 rfl rfl 7 (by decide) fl32_ (fun _ h9 => h9) rfl (by decide +kernel) (by first | rfl | decide) (by first | rfl | decide) (Nat.le_of_ble_eq_true rfl) dX6_isInferred_14 (fun H7 locs hP hD hS => ?_)
    have hP : va_P (dC, dI) vwCl (wM_ m0 m_g m_kept m_spare m_was m_text m_told cI mg mkept mspare mhasKept mwas mwasMany manew 1 mtext mlength mspot mvalue merror mtold mtolds) H7 := hP
    have hD : va_D A (wM_ m0 m_g m_kept m_spare m_was m_text m_told cI mg mkept mspare mhasKept mwas mwasMany manew 1 mtext mlength mspot mvalue merror mtold mtolds) := hD
    refine lv_aload_n hx hb dX6_isInferred_17 rfl (lv_at hl 0 rfl) ?_
    refine va_get (D := (dC, dI)) (ci := 8) (v := .int 1) (C := RX6) (T := TX6) (N := 15) hx hb hts inX6_ hown hK hP 0 rfl rfl 7 (by decide) fl32_ (fun _ h9 => h9) rfl dX6_isInferred_18 ?_
    refine lv_if_ne (tgt := 42) hx hb dX6_isInferred_21 (by decide) (fun _ => ?_) (fun c9 => absurd c9 (by decide))
    refine lv_iconst (v := 0) hx hb dX6_isInferred_42 (by decide) ?_
    have hR := Option.some.inj hf
    subst hR
    exact W.zret (v := (0 : Int32)) hx hb hr (by decide) (fun t ht hW => ⟨⟨(0 : Int32), (), rfl, rfl, by rw [ht]; exact hP, va_K.moved hW.alike hK, hD⟩, hS.F ht⟩) hS.2.2 dX6_isInferred_43
  · have hf := ite_F c6 hf
    refine lv_iconst (v := 0) hx hb dX6_isInferred_9 (by decide) ?_
    refine lv_goto (tgt := 14) hx hb dX6_isInferred_10 (by decide) ?_
    refine va_put (D := (dC, dI)) (ci := 8) (v := .int 0) (ty := .int) (C := RX6) (T := TX6) (N := 15) hx hb hts inX6_ tyX6 tyX6_ok nmX6 hown hK hP hD hS 0 rfl rfl 7 (by decide) fl32_ (fun _ h9 => h9) rfl (by decide +kernel) (by first | rfl | decide) (by first | rfl | decide) (Nat.le_of_ble_eq_true rfl) dX6_isInferred_14 (fun H8 locs hP hD hS => ?_)
    have hP : va_P (dC, dI) vwCl (wM_ m0 m_g m_kept m_spare m_was m_text m_told cI mg mkept mspare mhasKept mwas mwasMany manew 0 mtext mlength mspot mvalue merror mtold mtolds) H8 := hP
    have hD : va_D A (wM_ m0 m_g m_kept m_spare m_was m_text m_told cI mg mkept mspare mhasKept mwas mwasMany manew 0 mtext mlength mspot mvalue merror mtold mtolds) := hD
    refine lv_aload_n hx hb dX6_isInferred_17 rfl (lv_at hl 0 rfl) ?_
    refine va_get (D := (dC, dI)) (ci := 8) (v := .int 0) (C := RX6) (T := TX6) (N := 15) hx hb hts inX6_ hown hK hP 0 rfl rfl 7 (by decide) fl32_ (fun _ h9 => h9) rfl dX6_isInferred_18 ?_
    refine lv_if_ne (tgt := 42) hx hb dX6_isInferred_21 (by decide) (fun c9 => absurd (by decide) c9) (fun _ => ?_)
    refine lv_aload_n hx hb dX6_isInferred_24 rfl (lv_at hl 0 rfl) ?_
    refine va_get (D := (dC, dI)) (ci := 8) (v := .ref m_g) (C := RX6) (T := TX6) (N := 15) hx hb hts inX6_ hown hK hP 0 rfl rfl 0 (by decide) fl7_ (fun _ h9 => h9) rfl dX6_isInferred_25 ?_
    refine lv_sipush (v := 310) hx hb dX6_isInferred_28 (by decide) ?_
    refine lv_iload_n hx hb dX6_isInferred_31 rfl (lv_at hl 1 rfl) ?_
    refine lv_iadd hx hb dX6_isInferred_32 ?_
    obtain ⟨h9, hf⟩ := gd_T hf
    refine va_iald hx hb hK hP 1 0 rfl rfl h9 dX6_isInferred_33 ?_
    refine lv_iconst (v := 1) hx hb dX6_isInferred_34 (by decide) ?_
    refine lv_icmp_ne (tgt := 42) hx hb dX6_isInferred_35 (by decide) (fun c10 => ?_) (fun c10 => ?_)
    · have hf := ite_F c10 hf
      refine lv_iconst (v := 0) hx hb dX6_isInferred_42 (by decide) ?_
      have hR := Option.some.inj hf
      subst hR
      exact W.zret (v := (0 : Int32)) hx hb hr (by decide) (fun t ht hW => ⟨⟨(0 : Int32), (), rfl, rfl, by rw [ht]; exact hP, va_K.moved hW.alike hK, hD⟩, hS.F ht⟩) hS.2.2 dX6_isInferred_43
    · have hf := ite_T c10 hf
      refine lv_iconst (v := 1) hx hb dX6_isInferred_38 (by decide) ?_
      refine lv_goto (tgt := 43) hx hb dX6_isInferred_39 (by decide) ?_
      have hR := Option.some.inj hf
      subst hR
      exact W.zret (v := (1 : Int32)) hx hb hr (by decide) (fun t ht hW => ⟨⟨(1 : Int32), (), rfl, rfl, by rw [ht]; exact hP, va_K.moved hW.alike hK, hD⟩, hS.F ht⟩) hS.2.2 dX6_isInferred_43
theorem hs_X6_isInferred : yX6_isInferred.cls = RX6 ∧ yX6_isInferred.cls ≠ "java/lang/invoke/MethodHandle" ∧ yX6_isInferred.cls ≠ "java/lang/invoke/VarHandle" ∧ (parseMethodDescriptor yX6_isInferred.desc).map (fun d => d.parameters.length) = some 1 := by decide +kernel
set_option maxRecDepth 20000 in
theorem in_X6_firstInferred_X6 : ∀ w ∈ wsX60, w ∈ wsX6_firstInferred := by decide +kernel
def f_X6_firstInferred_S9 (k_ : Int32 → Int32 → tM_ → Option (Int32 × tM_)) (l2 : Int32) (l1 : Int32) (M_ : tM_) : Option (Int32 × tM_) :=
match M_ with
| (mg, mkept, mspare, mhasKept, mwas, mwasMany, manew, mthrown, mtext, mlength, mspot, mvalue, merror, mtold, mtolds) =>
gd_ (0 : Int32) 610 (
if (mg ((0 : Int32).toNatClampNeg)) ≤ l2 then
if 0 ≤ l1 then
some (l1, (mg, mkept, mspare, mhasKept, mwas, mwasMany, manew, mthrown, mtext, mlength, mspot, mvalue, merror, mtold, mtolds))
else
bd_ (f_X6_fails (1 : Int32) (mg, mkept, mspare, mhasKept, mwas, mwasMany, manew, mthrown, mtext, mlength, mspot, mvalue, merror, mtold, mtolds)) (fun (r6, (mg7, mk8, ms9, mh10, mw11, mw12, ma13, mt14, mt15, ml16, ms17, mv18, me19, mt20, mt21)) =>
some (r6, (mg7, mk8, ms9, mh10, mw11, mw12, ma13, mt14, mt15, ml16, ms17, mv18, me19, mt20, mt21)))
else
gd_ (10 + l2) 610 (
if (mg ((10 + l2).toNatClampNeg)) = 1 then
gd_ (310 + l2) 610 (
if (mg ((310 + l2).toNatClampNeg)) = 1 then
if l1 < 0 then
k_ (l2 + 1) l2 (mg, mkept, mspare, mhasKept, mwas, mwasMany, manew, mthrown, mtext, mlength, mspot, mvalue, merror, mtold, mtolds)
else
gd_ (130 + l2) 610 (
gd_ (130 + l1) 610 (
if (mg ((130 + l2).toNatClampNeg)) < (mg ((130 + l1).toNatClampNeg)) then
k_ (l2 + 1) l2 (mg, mkept, mspare, mhasKept, mwas, mwasMany, manew, mthrown, mtext, mlength, mspot, mvalue, merror, mtold, mtolds)
else
gd_ (130 + l2) 610 (
gd_ (130 + l1) 610 (
if (mg ((130 + l2).toNatClampNeg)) = (mg ((130 + l1).toNatClampNeg)) then
gd_ (70 + l2) 610 (
gd_ (70 + l1) 610 (
if (mg ((70 + l1).toNatClampNeg)) ≤ (mg ((70 + l2).toNatClampNeg)) then
k_ (l2 + 1) l1 (mg, mkept, mspare, mhasKept, mwas, mwasMany, manew, mthrown, mtext, mlength, mspot, mvalue, merror, mtold, mtolds)
else
k_ (l2 + 1) l2 (mg, mkept, mspare, mhasKept, mwas, mwasMany, manew, mthrown, mtext, mlength, mspot, mvalue, merror, mtold, mtolds)))
else
k_ (l2 + 1) l1 (mg, mkept, mspare, mhasKept, mwas, mwasMany, manew, mthrown, mtext, mlength, mspot, mvalue, merror, mtold, mtolds)))))
else
k_ (l2 + 1) l1 (mg, mkept, mspare, mhasKept, mwas, mwasMany, manew, mthrown, mtext, mlength, mspot, mvalue, merror, mtold, mtolds))
else
k_ (l2 + 1) l1 (mg, mkept, mspare, mhasKept, mwas, mwasMany, manew, mthrown, mtext, mlength, mspot, mvalue, merror, mtold, mtolds)))
def f_X6_firstInferred_L9 : Nat → Int32 → Int32 → tM_ → Option (Int32 × tM_)
  | 0 => fun _ _ _ => none
  | n + 1 => fun l2 l1 M_ => f_X6_firstInferred_S9 (f_X6_firstInferred_L9 n) l2 l1 M_
def f_X6_firstInferred  (M_ : tM_) : Option (Int32 × tM_) :=
match M_ with
| (mg, mkept, mspare, mhasKept, mwas, mwasMany, manew, mthrown, mtext, mlength, mspot, mvalue, merror, mtold, mtolds) =>
f_X6_firstInferred_L9 fu_ (0 : Int32) (-1 : Int32) (mg, mkept, mspare, mhasKept, mwas, mwasMany, manew, 0, mtext, mlength, mspot, mvalue, merror, mtold, mtolds)
abbrev rm_X6_firstInferred : Room := { frames := 1, cells := 0, slots := 0, locals := 21 }
set_option maxHeartbeats 4000000 in
set_option maxRecDepth 100000 in
theorem c_X6_firstInferred (l : Launch) (dC : Nat → ClassId) (dI : Nat → Nat → Nat) (cI cZ cC cJ cD : ClassId) (m0 m_g m_kept m_spare m_was m_text m_told : Nat) (sz : Nat) (mg : Nat → Int32) (mkept : Nat → Int32) (mspare : Nat → Int32) (mhasKept : Int32) (mwas : Nat → Int32) (mwasMany : Int32) (manew : Int32) (mthrown : Int32) (mtext : Nat → Int32) (mlength : Int32) (mspot : Int32) (mvalue : Int32) (merror : Int32) (mtold : Nat → Int32) (mtolds : Int32)  (R : Int32 × tM_) (hf : f_X6_firstInferred  (mg, mkept, mspare, mhasKept, mwas, mwasMany, manew, mthrown, mtext, mlength, mspot, mvalue, merror, mtold, mtolds) = some R) : Met l yX6_firstInferred wsX6_firstInferred rm_X6_firstInferred (Pc_ (dC, dI) (ty_ cI cZ cC cJ cD) (wM_ m0 m_g m_kept m_spare m_was m_text m_told cI mg mkept mspare mhasKept mwas mwasMany manew mthrown mtext mlength mspot mvalue merror mtold mtolds) sz [.ref m0]) (Qi_ (dC, dI) (ty_ cI cZ cC cJ cD) R.1 (wM_ m0 m_g m_kept m_spare m_was m_text m_told cI R.2.1 R.2.2.1 R.2.2.2.1 R.2.2.2.2.1 R.2.2.2.2.2.1 R.2.2.2.2.2.2.1 R.2.2.2.2.2.2.2.1 R.2.2.2.2.2.2.2.2.1 R.2.2.2.2.2.2.2.2.2.1 R.2.2.2.2.2.2.2.2.2.2.1 R.2.2.2.2.2.2.2.2.2.2.2.1 R.2.2.2.2.2.2.2.2.2.2.2.2.1 R.2.2.2.2.2.2.2.2.2.2.2.2.2.1 R.2.2.2.2.2.2.2.2.2.2.2.2.2.2.1 R.2.2.2.2.2.2.2.2.2.2.2.2.2.2.2) (va_A (wM_ m0 m_g m_kept m_spare m_was m_text m_told cI mg mkept mspare mhasKept mwas mwasMany manew mthrown mtext mlength mspot mvalue merror mtold mtolds) sz)) 0 0 (va_A (wM_ m0 m_g m_kept m_spare m_was m_text m_told cI mg mkept mspare mhasKept mwas mwasMany manew mthrown mtext mlength mspot mvalue merror mtold mtolds) sz) := by
  refine met_ (cc := cX6_firstInferred) (maxL := 3) (ret := (some .int)) (Qcf := fun A => Qi_ (dC, dI) (ty_ cI cZ cC cJ cD) R.1 (wM_ m0 m_g m_kept m_spare m_was m_text m_told cI R.2.1 R.2.2.1 R.2.2.2.1 R.2.2.2.2.1 R.2.2.2.2.2.1 R.2.2.2.2.2.2.1 R.2.2.2.2.2.2.2.1 R.2.2.2.2.2.2.2.2.1 R.2.2.2.2.2.2.2.2.2.1 R.2.2.2.2.2.2.2.2.2.2.1 R.2.2.2.2.2.2.2.2.2.2.2.1 R.2.2.2.2.2.2.2.2.2.2.2.2.1 R.2.2.2.2.2.2.2.2.2.2.2.2.2.1 R.2.2.2.2.2.2.2.2.2.2.2.2.2.2.1 R.2.2.2.2.2.2.2.2.2.2.2.2.2.2.2) A) (by decide) rfl (Nat.le_of_ble_eq_true rfl) ?_
  intro p e s m args below meth c A ls hx hb hr hts hown hlocks hml hA hP hK hD hl
  have hown : s.vm.findClass RX6 = some m.cls := hown
  have hl : lv_has ls 3 [(0, .ref m0)] := hl
  have hS : va_S A s.heap s.heap [] := va_S.rf
  have fl7_ : (Cond.fieldLink RX6 7 "DimensionLoaderModel" "g" "[I").before args s = true := hts _ (List.mem_of_getElem? (i := 2) rfl)
  have fl32_ : (Cond.fieldLink RX6 32 "DimensionLoaderModel" "thrown" "I").before args s = true := hts _ (List.mem_of_getElem? (i := 1) rfl)
  have inX6_ : ∀ w ∈ wsX60, w ∈ wsX6_firstInferred := in_X6_firstInferred_X6
  unfold f_X6_firstInferred at hf
  dsimp only at hf
  refine lv_aload_n hx hb dX6_firstInferred_0 rfl (lv_at hl 0 rfl) ?_
  refine lv_iconst (v := 0) hx hb dX6_firstInferred_1 (by decide) ?_
  refine va_put (D := (dC, dI)) (ci := 8) (v := .int 0) (ty := .int) (C := RX6) (T := TX6) (N := 15) hx hb hts inX6_ tyX6 tyX6_ok nmX6 hown hK hP hD hS 0 rfl rfl 7 (by decide) fl32_ (fun _ h9 => h9) rfl (by decide +kernel) (by first | rfl | decide) (by first | rfl | decide) (Nat.le_of_ble_eq_true rfl) dX6_firstInferred_2 (fun H1 locs hP hD hS => ?_)
  have hP : va_P (dC, dI) vwCl (wM_ m0 m_g m_kept m_spare m_was m_text m_told cI mg mkept mspare mhasKept mwas mwasMany manew 0 mtext mlength mspot mvalue merror mtold mtolds) H1 := hP
  have hD : va_D A (wM_ m0 m_g m_kept m_spare m_was m_text m_told cI mg mkept mspare mhasKept mwas mwasMany manew 0 mtext mlength mspot mvalue merror mtold mtolds) := hD
  refine lv_iconst (v := (-1)) hx hb dX6_firstInferred_5 (by decide) ?_
  refine lv_istore_n (lv' := [(1, .int (-1)), (0, .ref m0)]) hx hb dX6_firstInferred_6 rfl hl (by decide) rfl (fun ls hl => ?_)
  refine lv_iconst (v := 0) hx hb dX6_firstInferred_7 (by decide) ?_
  refine lv_istore_n (lv' := [(2, .int 0), (1, .int (-1)), (0, .ref m0)]) hx hb dX6_firstInferred_8 rfl hl (by decide) rfl (fun ls hl => ?_)
  have lp9 : ∀ (n : Nat) (l2 : Int32) (l1 : Int32) (mg : Nat → Int32) (mkept : Nat → Int32) (mspare : Nat → Int32) (mhasKept : Int32) (mwas : Nat → Int32) (mwasMany : Int32) (manew : Int32) (mthrown : Int32) (mtext : Nat → Int32) (mlength : Int32) (mspot : Int32) (mvalue : Int32) (merror : Int32) (mtold : Nat → Int32) (mtolds : Int32) (H2 : Heap) (locs : List Loc) (ls : Array Slot), f_X6_firstInferred_L9 n l2 l1 (mg, mkept, mspare, mhasKept, mwas, mwasMany, manew, mthrown, mtext, mlength, mspot, mvalue, merror, mtold, mtolds) = some R → va_P (dC, dI) vwCl (wM_ m0 m_g m_kept m_spare m_was m_text m_told cI mg mkept mspare mhasKept mwas mwasMany manew mthrown mtext mlength mspot mvalue merror mtold mtolds) H2 → va_D A (wM_ m0 m_g m_kept m_spare m_was m_text m_told cI mg mkept mspare mhasKept mwas mwasMany manew mthrown mtext mlength mspot mvalue merror mtold mtolds) → va_S A s.heap H2 locs → lv_has ls 3 [(2, .int l2), (1, .int l1), (0, .ref m0)] → W p l e (headSpec wsX6_firstInferred rm_X6_firstInferred).room s m args below meth c H2 locs 0 0 (MQ below (Qi_ (dC, dI) (ty_ cI cZ cC cJ cD) R.1 (wM_ m0 m_g m_kept m_spare m_was m_text m_told cI R.2.1 R.2.2.1 R.2.2.2.1 R.2.2.2.2.1 R.2.2.2.2.2.1 R.2.2.2.2.2.2.1 R.2.2.2.2.2.2.2.1 R.2.2.2.2.2.2.2.2.1 R.2.2.2.2.2.2.2.2.2.1 R.2.2.2.2.2.2.2.2.2.2.1 R.2.2.2.2.2.2.2.2.2.2.2.1 R.2.2.2.2.2.2.2.2.2.2.2.2.1 R.2.2.2.2.2.2.2.2.2.2.2.2.2.1 R.2.2.2.2.2.2.2.2.2.2.2.2.2.2.1 R.2.2.2.2.2.2.2.2.2.2.2.2.2.2.2) A) args s 0 0 A) (F0 m 9 ls []) := by
    intro n
    induction n with
    | zero => intro l2 l1 mg mkept mspare mhasKept mwas mwasMany manew mthrown mtext mlength mspot mvalue merror mtold mtolds H2 locs ls hf hP hD hS hl; exact absurd hf (by simp [f_X6_firstInferred_L9])
    | succ n ih =>
      intro l2 l1 mg mkept mspare mhasKept mwas mwasMany manew mthrown mtext mlength mspot mvalue merror mtold mtolds H2 locs ls hf hP hD hS hl
      have hf : f_X6_firstInferred_S9 (f_X6_firstInferred_L9 n) l2 l1 (mg, mkept, mspare, mhasKept, mwas, mwasMany, manew, mthrown, mtext, mlength, mspot, mvalue, merror, mtold, mtolds) = some R := hf
      unfold f_X6_firstInferred_S9 at hf
      dsimp only at hf
      refine lv_iload_n hx hb dX6_firstInferred_9 rfl (lv_at hl 0 rfl) ?_
      refine lv_aload_n hx hb dX6_firstInferred_10 rfl (lv_at hl 2 rfl) ?_
      refine va_get (D := (dC, dI)) (ci := 8) (v := .ref m_g) (C := RX6) (T := TX6) (N := 15) hx hb hts inX6_ hown hK hP 0 rfl rfl 0 (by decide) fl7_ (fun _ h9 => h9) rfl dX6_firstInferred_11 ?_
      refine lv_iconst (v := 0) hx hb dX6_firstInferred_14 (by decide) ?_
      obtain ⟨h3, hf⟩ := gd_T hf
      refine va_iald hx hb hK hP 1 0 rfl rfl h3 dX6_firstInferred_15 ?_
      refine lv_icmp_ge (tgt := 125) hx hb dX6_firstInferred_16 (by decide) (fun c4 => ?_) (fun c4 => ?_)
      · have hf := ite_T c4 hf
        refine lv_iload_n hx hb dX6_firstInferred_125 rfl (lv_at hl 1 rfl) ?_
        refine lv_if_ge (tgt := 137) hx hb dX6_firstInferred_126 (by decide) (fun c5 => ?_) (fun c5 => ?_)
        · have hf := ite_T c5 hf
          refine lv_iload_n hx hb dX6_firstInferred_137 rfl (lv_at hl 1 rfl) ?_
          have hR := Option.some.inj hf
          subst hR
          exact W.iret (v := l1) hx hb hr (fun t ht hW => ⟨⟨l1, (), rfl, rfl, by rw [ht]; exact hP, va_K.moved hW.alike hK, hD⟩, hS.F ht⟩) hS.2.2 dX6_firstInferred_138
        · have hf := ite_F c5 hf
          refine lv_aload_n hx hb dX6_firstInferred_129 rfl (lv_at hl 2 rfl) ?_
          refine lv_iconst (v := 1) hx hb dX6_firstInferred_130 (by decide) ?_
          obtain ⟨R22, g23, hf⟩ := bd_B hf
          obtain ⟨r6, ⟨mg7, mk8, ms9, mh10, mw11, mw12, ma13, mt14, mt15, ml16, ms17, mv18, me19, mt20, mt21⟩⟩ := R22
          dsimp only at hf
          have hPc := hP
          have hDc := hD
          have hFc := va_free (wc := wM_ m0 m_g m_kept m_spare m_was m_text m_told cI mg mkept mspare mhasKept mwas mwasMany manew mthrown mtext mlength mspot mvalue merror mtold mtolds) hD hS hA [0, 1, 2, 3, 4, 5, 6] rfl
          refine va_calli (va_runV (As := [.int 1]) (rest := []) ⟨hx, hb, hml, hown, hts⟩ (c_X6_fails l dC dI cI cZ cC cJ cD m0 m_g m_kept m_spare m_was m_text m_told H2.size mg mkept mspare mhasKept mwas mwasMany manew mthrown mtext mlength mspot mvalue merror mtold mtolds (1 : Int32) (r6, (mg7, mk8, ms9, mh10, mw11, mw12, ma13, mt14, mt15, ml16, ms17, mv18, me19, mt20, mt21)) g23) (cwV 1 hts gX6_firstInferred_X6_fails rfl rfl rfl hs_X6_fails ⟨Nat.le_of_ble_eq_true rfl, Nat.le_of_ble_eq_true rfl⟩) (preV_ (ci := 8) (q0 := 0) hPc hK hDc rfl rfl rfl rfl) rfl rfl hl.1 rfl (lv_room (Nat.le_of_ble_eq_true rfl)) dX6_firstInferred_131 ⟨Nat.le_of_ble_eq_true rfl, Nat.le_of_ble_eq_true rfl⟩) hS (fun q _ h => hFc q h) hFc (fun z25 u t H24 locs ht hvm hw hB hz1 hk1 hS => ?_)
          have hw : r6 = z25 := hw.symm
          subst hw
          obtain ⟨hP, hD⟩ := aft_ (Wr := []) (Wc' := wM_ m0 m_g m_kept m_spare m_was m_text m_told cI mg7 mk8 ms9 mh10 mw11 mw12 ma13 mt14 mt15 ml16 ms17 mv18 me19 mt20 mt21) (W2 := wM_ m0 m_g m_kept m_spare m_was m_text m_told cI mg7 mk8 ms9 mh10 mw11 mw12 ma13 mt14 mt15 ml16 ms17 mv18 me19 mt20 mt21) hP hD [0, 1, 2, 3, 4, 5, 6] [] [0, 1, 2, 3, 4, 5, 6] rfl rfl (by decide) (by decide) (by decide) hk1 hFc hB ht rfl
          refine lv_goto (tgt := 138) hx hb dX6_firstInferred_134 (by decide) ?_
          have hR := Option.some.inj hf
          subst hR
          exact W.iret (v := r6) hx hb hr (fun t ht hW => ⟨⟨r6, (), rfl, rfl, by rw [ht]; exact hP, va_K.moved hW.alike hK, hD⟩, hS.F ht⟩) hS.2.2 dX6_firstInferred_138
      · have hf := ite_F c4 hf
        refine lv_aload_n hx hb dX6_firstInferred_19 rfl (lv_at hl 2 rfl) ?_
        refine va_get (D := (dC, dI)) (ci := 8) (v := .ref m_g) (C := RX6) (T := TX6) (N := 15) hx hb hts inX6_ hown hK hP 0 rfl rfl 0 (by decide) fl7_ (fun _ h9 => h9) rfl dX6_firstInferred_20 ?_
        refine lv_bipush (v := 10) hx hb dX6_firstInferred_23 (by decide) ?_
        refine lv_iload_n hx hb dX6_firstInferred_25 rfl (lv_at hl 0 rfl) ?_
        refine lv_iadd hx hb dX6_firstInferred_26 ?_
        obtain ⟨h26, hf⟩ := gd_T hf
        refine va_iald hx hb hK hP 1 0 rfl rfl h26 dX6_firstInferred_27 ?_
        refine lv_iconst (v := 1) hx hb dX6_firstInferred_28 (by decide) ?_
        refine lv_icmp_ne (tgt := 119) hx hb dX6_firstInferred_29 (by decide) (fun c27 => ?_) (fun c27 => ?_)
        · have hf := ite_F c27 hf
          refine lv_iinc (v := l2 + 1) (lv' := [(2, .int (l2 + 1)), (1, .int l1), (0, .ref m0)]) hx hb dX6_firstInferred_119 hl (k := 0) rfl (by first | rfl | decide) (by decide) rfl (fun ls hl => ?_)
          refine lv_goto (tgt := 9) hx hb dX6_firstInferred_122 (by decide) ?_
          exact ih (l2 + 1) l1 mg mkept mspare mhasKept mwas mwasMany manew mthrown mtext mlength mspot mvalue merror mtold mtolds _ _ _ hf hP hD hS (lv_sub hl [0, 1, 2] rfl)
        · have hf := ite_T c27 hf
          refine lv_aload_n hx hb dX6_firstInferred_32 rfl (lv_at hl 2 rfl) ?_
          refine va_get (D := (dC, dI)) (ci := 8) (v := .ref m_g) (C := RX6) (T := TX6) (N := 15) hx hb hts inX6_ hown hK hP 0 rfl rfl 0 (by decide) fl7_ (fun _ h9 => h9) rfl dX6_firstInferred_33 ?_
          refine lv_sipush (v := 310) hx hb dX6_firstInferred_36 (by decide) ?_
          refine lv_iload_n hx hb dX6_firstInferred_39 rfl (lv_at hl 0 rfl) ?_
          refine lv_iadd hx hb dX6_firstInferred_40 ?_
          obtain ⟨h28, hf⟩ := gd_T hf
          refine va_iald hx hb hK hP 1 0 rfl rfl h28 dX6_firstInferred_41 ?_
          refine lv_iconst (v := 1) hx hb dX6_firstInferred_42 (by decide) ?_
          refine lv_icmp_ne (tgt := 119) hx hb dX6_firstInferred_43 (by decide) (fun c29 => ?_) (fun c29 => ?_)
          · have hf := ite_F c29 hf
            refine lv_iinc (v := l2 + 1) (lv' := [(2, .int (l2 + 1)), (1, .int l1), (0, .ref m0)]) hx hb dX6_firstInferred_119 hl (k := 0) rfl (by first | rfl | decide) (by decide) rfl (fun ls hl => ?_)
            refine lv_goto (tgt := 9) hx hb dX6_firstInferred_122 (by decide) ?_
            exact ih (l2 + 1) l1 mg mkept mspare mhasKept mwas mwasMany manew mthrown mtext mlength mspot mvalue merror mtold mtolds _ _ _ hf hP hD hS (lv_sub hl [0, 1, 2] rfl)
          · have hf := ite_T c29 hf
            refine lv_iload_n hx hb dX6_firstInferred_46 rfl (lv_at hl 1 rfl) ?_
            refine lv_if_lt (tgt := 117) hx hb dX6_firstInferred_47 (by decide) (fun c30 => ?_) (fun c30 => ?_)
            · have hf := ite_T c30 hf
              refine lv_iload_n hx hb dX6_firstInferred_117 rfl (lv_at hl 0 rfl) ?_
              refine lv_istore_n (lv' := [(1, .int l2), (2, .int l2), (0, .ref m0)]) hx hb dX6_firstInferred_118 rfl hl (by decide) rfl (fun ls hl => ?_)
              refine lv_iinc (v := l2 + 1) (lv' := [(2, .int (l2 + 1)), (1, .int l2), (0, .ref m0)]) hx hb dX6_firstInferred_119 hl (k := 1) rfl (by first | rfl | decide) (by decide) rfl (fun ls hl => ?_)
              refine lv_goto (tgt := 9) hx hb dX6_firstInferred_122 (by decide) ?_
              exact ih (l2 + 1) l2 mg mkept mspare mhasKept mwas mwasMany manew mthrown mtext mlength mspot mvalue merror mtold mtolds _ _ _ hf hP hD hS (lv_sub hl [0, 1, 2] rfl)
            · have hf := ite_F c30 hf
              refine lv_aload_n hx hb dX6_firstInferred_50 rfl (lv_at hl 2 rfl) ?_
              refine va_get (D := (dC, dI)) (ci := 8) (v := .ref m_g) (C := RX6) (T := TX6) (N := 15) hx hb hts inX6_ hown hK hP 0 rfl rfl 0 (by decide) fl7_ (fun _ h9 => h9) rfl dX6_firstInferred_51 ?_
              refine lv_sipush (v := 130) hx hb dX6_firstInferred_54 (by decide) ?_
              refine lv_iload_n hx hb dX6_firstInferred_57 rfl (lv_at hl 0 rfl) ?_
              refine lv_iadd hx hb dX6_firstInferred_58 ?_
              obtain ⟨h31, hf⟩ := gd_T hf
              refine va_iald hx hb hK hP 1 0 rfl rfl h31 dX6_firstInferred_59 ?_
              refine lv_aload_n hx hb dX6_firstInferred_60 rfl (lv_at hl 2 rfl) ?_
              refine va_get (D := (dC, dI)) (ci := 8) (v := .ref m_g) (C := RX6) (T := TX6) (N := 15) hx hb hts inX6_ hown hK hP 0 rfl rfl 0 (by decide) fl7_ (fun _ h9 => h9) rfl dX6_firstInferred_61 ?_
              refine lv_sipush (v := 130) hx hb dX6_firstInferred_64 (by decide) ?_
              refine lv_iload_n hx hb dX6_firstInferred_67 rfl (lv_at hl 1 rfl) ?_
              refine lv_iadd hx hb dX6_firstInferred_68 ?_
              obtain ⟨h32, hf⟩ := gd_T hf
              refine va_iald hx hb hK hP 1 0 rfl rfl h32 dX6_firstInferred_69 ?_
              refine lv_icmp_lt (tgt := 117) hx hb dX6_firstInferred_70 (by decide) (fun c33 => ?_) (fun c33 => ?_)
              · have hf := ite_T c33 hf
                refine lv_iload_n hx hb dX6_firstInferred_117 rfl (lv_at hl 0 rfl) ?_
                refine lv_istore_n (lv' := [(1, .int l2), (2, .int l2), (0, .ref m0)]) hx hb dX6_firstInferred_118 rfl hl (by decide) rfl (fun ls hl => ?_)
                refine lv_iinc (v := l2 + 1) (lv' := [(2, .int (l2 + 1)), (1, .int l2), (0, .ref m0)]) hx hb dX6_firstInferred_119 hl (k := 1) rfl (by first | rfl | decide) (by decide) rfl (fun ls hl => ?_)
                refine lv_goto (tgt := 9) hx hb dX6_firstInferred_122 (by decide) ?_
                exact ih (l2 + 1) l2 mg mkept mspare mhasKept mwas mwasMany manew mthrown mtext mlength mspot mvalue merror mtold mtolds _ _ _ hf hP hD hS (lv_sub hl [0, 1, 2] rfl)
              · have hf := ite_F c33 hf
                refine lv_aload_n hx hb dX6_firstInferred_73 rfl (lv_at hl 2 rfl) ?_
                refine va_get (D := (dC, dI)) (ci := 8) (v := .ref m_g) (C := RX6) (T := TX6) (N := 15) hx hb hts inX6_ hown hK hP 0 rfl rfl 0 (by decide) fl7_ (fun _ h9 => h9) rfl dX6_firstInferred_74 ?_
                refine lv_sipush (v := 130) hx hb dX6_firstInferred_77 (by decide) ?_
                refine lv_iload_n hx hb dX6_firstInferred_80 rfl (lv_at hl 0 rfl) ?_
                refine lv_iadd hx hb dX6_firstInferred_81 ?_
                obtain ⟨h34, hf⟩ := gd_T hf
                refine va_iald hx hb hK hP 1 0 rfl rfl h34 dX6_firstInferred_82 ?_
                refine lv_aload_n hx hb dX6_firstInferred_83 rfl (lv_at hl 2 rfl) ?_
                refine va_get (D := (dC, dI)) (ci := 8) (v := .ref m_g) (C := RX6) (T := TX6) (N := 15) hx hb hts inX6_ hown hK hP 0 rfl rfl 0 (by decide) fl7_ (fun _ h9 => h9) rfl dX6_firstInferred_84 ?_
                refine lv_sipush (v := 130) hx hb dX6_firstInferred_87 (by decide) ?_
                refine lv_iload_n hx hb dX6_firstInferred_90 rfl (lv_at hl 1 rfl) ?_
                refine lv_iadd hx hb dX6_firstInferred_91 ?_
                obtain ⟨h35, hf⟩ := gd_T hf
                refine va_iald hx hb hK hP 1 0 rfl rfl h35 dX6_firstInferred_92 ?_
                refine lv_icmp_ne (tgt := 119) hx hb dX6_firstInferred_93 (by decide) (fun c36 => ?_) (fun c36 => ?_)
                · have hf := ite_F c36 hf
                  refine lv_iinc (v := l2 + 1) (lv' := [(2, .int (l2 + 1)), (1, .int l1), (0, .ref m0)]) hx hb dX6_firstInferred_119 hl (k := 0) rfl (by first | rfl | decide) (by decide) rfl (fun ls hl => ?_)
                  refine lv_goto (tgt := 9) hx hb dX6_firstInferred_122 (by decide) ?_
                  exact ih (l2 + 1) l1 mg mkept mspare mhasKept mwas mwasMany manew mthrown mtext mlength mspot mvalue merror mtold mtolds _ _ _ hf hP hD hS (lv_sub hl [0, 1, 2] rfl)
                · have hf := ite_T c36 hf
                  refine lv_aload_n hx hb dX6_firstInferred_96 rfl (lv_at hl 2 rfl) ?_
                  refine va_get (D := (dC, dI)) (ci := 8) (v := .ref m_g) (C := RX6) (T := TX6) (N := 15) hx hb hts inX6_ hown hK hP 0 rfl rfl 0 (by decide) fl7_ (fun _ h9 => h9) rfl dX6_firstInferred_97 ?_
                  refine lv_bipush (v := 70) hx hb dX6_firstInferred_100 (by decide) ?_
                  refine lv_iload_n hx hb dX6_firstInferred_102 rfl (lv_at hl 0 rfl) ?_
                  refine lv_iadd hx hb dX6_firstInferred_103 ?_
                  obtain ⟨h37, hf⟩ := gd_T hf
                  refine va_iald hx hb hK hP 1 0 rfl rfl h37 dX6_firstInferred_104 ?_
                  refine lv_aload_n hx hb dX6_firstInferred_105 rfl (lv_at hl 2 rfl) ?_
                  refine va_get (D := (dC, dI)) (ci := 8) (v := .ref m_g) (C := RX6) (T := TX6) (N := 15) hx hb hts inX6_ hown hK hP 0 rfl rfl 0 (by decide) fl7_ (fun _ h9 => h9) rfl dX6_firstInferred_106 ?_
                  refine lv_bipush (v := 70) hx hb dX6_firstInferred_109 (by decide) ?_
                  refine lv_iload_n hx hb dX6_firstInferred_111 rfl (lv_at hl 1 rfl) ?_
                  refine lv_iadd hx hb dX6_firstInferred_112 ?_
                  obtain ⟨h38, hf⟩ := gd_T hf
                  refine va_iald hx hb hK hP 1 0 rfl rfl h38 dX6_firstInferred_113 ?_
                  refine lv_icmp_ge (tgt := 119) hx hb dX6_firstInferred_114 (by decide) (fun c39 => ?_) (fun c39 => ?_)
                  · have hf := ite_T c39 hf
                    refine lv_iinc (v := l2 + 1) (lv' := [(2, .int (l2 + 1)), (1, .int l1), (0, .ref m0)]) hx hb dX6_firstInferred_119 hl (k := 0) rfl (by first | rfl | decide) (by decide) rfl (fun ls hl => ?_)
                    refine lv_goto (tgt := 9) hx hb dX6_firstInferred_122 (by decide) ?_
                    exact ih (l2 + 1) l1 mg mkept mspare mhasKept mwas mwasMany manew mthrown mtext mlength mspot mvalue merror mtold mtolds _ _ _ hf hP hD hS (lv_sub hl [0, 1, 2] rfl)
                  · have hf := ite_F c39 hf
                    refine lv_iload_n hx hb dX6_firstInferred_117 rfl (lv_at hl 0 rfl) ?_
                    refine lv_istore_n (lv' := [(1, .int l2), (2, .int l2), (0, .ref m0)]) hx hb dX6_firstInferred_118 rfl hl (by decide) rfl (fun ls hl => ?_)
                    refine lv_iinc (v := l2 + 1) (lv' := [(2, .int (l2 + 1)), (1, .int l2), (0, .ref m0)]) hx hb dX6_firstInferred_119 hl (k := 1) rfl (by first | rfl | decide) (by decide) rfl (fun ls hl => ?_)
                    refine lv_goto (tgt := 9) hx hb dX6_firstInferred_122 (by decide) ?_
                    exact ih (l2 + 1) l2 mg mkept mspare mhasKept mwas mwasMany manew mthrown mtext mlength mspot mvalue merror mtold mtolds _ _ _ hf hP hD hS (lv_sub hl [0, 1, 2] rfl)
  exact lp9 fu_ (0 : Int32) (-1 : Int32) mg mkept mspare mhasKept mwas mwasMany manew (0 : Int32) mtext mlength mspot mvalue merror mtold mtolds _ _ _ hf hP hD hS hl
theorem hs_X6_firstInferred : yX6_firstInferred.cls = RX6 ∧ yX6_firstInferred.cls ≠ "java/lang/invoke/MethodHandle" ∧ yX6_firstInferred.cls ≠ "java/lang/invoke/VarHandle" ∧ (parseMethodDescriptor yX6_firstInferred.desc).map (fun d => d.parameters.length) = some 0 := by decide +kernel
set_option maxRecDepth 20000 in
theorem in_X6_inferredCount_X6 : ∀ w ∈ wsX60, w ∈ wsX6_inferredCount := by decide +kernel
def f_X6_inferredCount_S9 (k_ : Int32 → Int32 → tM_ → Option (Int32 × tM_)) (l2 : Int32) (l1 : Int32) (M_ : tM_) : Option (Int32 × tM_) :=
match M_ with
| (mg, mkept, mspare, mhasKept, mwas, mwasMany, manew, mthrown, mtext, mlength, mspot, mvalue, merror, mtold, mtolds) =>
gd_ (0 : Int32) 610 (
if (mg ((0 : Int32).toNatClampNeg)) ≤ l2 then
some (l1, (mg, mkept, mspare, mhasKept, mwas, mwasMany, manew, mthrown, mtext, mlength, mspot, mvalue, merror, mtold, mtolds))
else
gd_ (10 + l2) 610 (
if (mg ((10 + l2).toNatClampNeg)) = 1 then
gd_ (310 + l2) 610 (
k_ (l2 + 1) (l1 + (mg ((310 + l2).toNatClampNeg))) (mg, mkept, mspare, mhasKept, mwas, mwasMany, manew, mthrown, mtext, mlength, mspot, mvalue, merror, mtold, mtolds))
else
k_ (l2 + 1) (l1 + 0) (mg, mkept, mspare, mhasKept, mwas, mwasMany, manew, mthrown, mtext, mlength, mspot, mvalue, merror, mtold, mtolds)))
def f_X6_inferredCount_L9 : Nat → Int32 → Int32 → tM_ → Option (Int32 × tM_)
  | 0 => fun _ _ _ => none
  | n + 1 => fun l2 l1 M_ => f_X6_inferredCount_S9 (f_X6_inferredCount_L9 n) l2 l1 M_
def f_X6_inferredCount  (M_ : tM_) : Option (Int32 × tM_) :=
match M_ with
| (mg, mkept, mspare, mhasKept, mwas, mwasMany, manew, mthrown, mtext, mlength, mspot, mvalue, merror, mtold, mtolds) =>
f_X6_inferredCount_L9 fu_ (0 : Int32) (0 : Int32) (mg, mkept, mspare, mhasKept, mwas, mwasMany, manew, 0, mtext, mlength, mspot, mvalue, merror, mtold, mtolds)
abbrev rm_X6_inferredCount : Room := { frames := 0, cells := 0, slots := 0, locals := 0 }
set_option maxHeartbeats 4000000 in
set_option maxRecDepth 100000 in
theorem c_X6_inferredCount (l : Launch) (dC : Nat → ClassId) (dI : Nat → Nat → Nat) (cI cZ cC cJ cD : ClassId) (m0 m_g m_kept m_spare m_was m_text m_told : Nat) (sz : Nat) (mg : Nat → Int32) (mkept : Nat → Int32) (mspare : Nat → Int32) (mhasKept : Int32) (mwas : Nat → Int32) (mwasMany : Int32) (manew : Int32) (mthrown : Int32) (mtext : Nat → Int32) (mlength : Int32) (mspot : Int32) (mvalue : Int32) (merror : Int32) (mtold : Nat → Int32) (mtolds : Int32)  (R : Int32 × tM_) (hf : f_X6_inferredCount  (mg, mkept, mspare, mhasKept, mwas, mwasMany, manew, mthrown, mtext, mlength, mspot, mvalue, merror, mtold, mtolds) = some R) : Met l yX6_inferredCount wsX6_inferredCount rm_X6_inferredCount (Pc_ (dC, dI) (ty_ cI cZ cC cJ cD) (wM_ m0 m_g m_kept m_spare m_was m_text m_told cI mg mkept mspare mhasKept mwas mwasMany manew mthrown mtext mlength mspot mvalue merror mtold mtolds) sz [.ref m0]) (Qi_ (dC, dI) (ty_ cI cZ cC cJ cD) R.1 (wM_ m0 m_g m_kept m_spare m_was m_text m_told cI R.2.1 R.2.2.1 R.2.2.2.1 R.2.2.2.2.1 R.2.2.2.2.2.1 R.2.2.2.2.2.2.1 R.2.2.2.2.2.2.2.1 R.2.2.2.2.2.2.2.2.1 R.2.2.2.2.2.2.2.2.2.1 R.2.2.2.2.2.2.2.2.2.2.1 R.2.2.2.2.2.2.2.2.2.2.2.1 R.2.2.2.2.2.2.2.2.2.2.2.2.1 R.2.2.2.2.2.2.2.2.2.2.2.2.2.1 R.2.2.2.2.2.2.2.2.2.2.2.2.2.2.1 R.2.2.2.2.2.2.2.2.2.2.2.2.2.2.2) (va_A (wM_ m0 m_g m_kept m_spare m_was m_text m_told cI mg mkept mspare mhasKept mwas mwasMany manew mthrown mtext mlength mspot mvalue merror mtold mtolds) sz)) 0 0 (va_A (wM_ m0 m_g m_kept m_spare m_was m_text m_told cI mg mkept mspare mhasKept mwas mwasMany manew mthrown mtext mlength mspot mvalue merror mtold mtolds) sz) := by
  refine met_ (cc := cX6_inferredCount) (maxL := 3) (ret := (some .int)) (Qcf := fun A => Qi_ (dC, dI) (ty_ cI cZ cC cJ cD) R.1 (wM_ m0 m_g m_kept m_spare m_was m_text m_told cI R.2.1 R.2.2.1 R.2.2.2.1 R.2.2.2.2.1 R.2.2.2.2.2.1 R.2.2.2.2.2.2.1 R.2.2.2.2.2.2.2.1 R.2.2.2.2.2.2.2.2.1 R.2.2.2.2.2.2.2.2.2.1 R.2.2.2.2.2.2.2.2.2.2.1 R.2.2.2.2.2.2.2.2.2.2.2.1 R.2.2.2.2.2.2.2.2.2.2.2.2.1 R.2.2.2.2.2.2.2.2.2.2.2.2.2.1 R.2.2.2.2.2.2.2.2.2.2.2.2.2.2.1 R.2.2.2.2.2.2.2.2.2.2.2.2.2.2.2) A) (by decide) rfl (Nat.le_of_ble_eq_true rfl) ?_
  intro p e s m args below meth c A ls hx hb hr hts hown hlocks hml hA hP hK hD hl
  have hown : s.vm.findClass RX6 = some m.cls := hown
  have hl : lv_has ls 3 [(0, .ref m0)] := hl
  have hS : va_S A s.heap s.heap [] := va_S.rf
  have fl7_ : (Cond.fieldLink RX6 7 "DimensionLoaderModel" "g" "[I").before args s = true := hts _ (List.mem_of_getElem? (i := 2) rfl)
  have fl32_ : (Cond.fieldLink RX6 32 "DimensionLoaderModel" "thrown" "I").before args s = true := hts _ (List.mem_of_getElem? (i := 1) rfl)
  have inX6_ : ∀ w ∈ wsX60, w ∈ wsX6_inferredCount := in_X6_inferredCount_X6
  unfold f_X6_inferredCount at hf
  dsimp only at hf
  refine lv_aload_n hx hb dX6_inferredCount_0 rfl (lv_at hl 0 rfl) ?_
  refine lv_iconst (v := 0) hx hb dX6_inferredCount_1 (by decide) ?_
  refine va_put (D := (dC, dI)) (ci := 8) (v := .int 0) (ty := .int) (C := RX6) (T := TX6) (N := 15) hx hb hts inX6_ tyX6 tyX6_ok nmX6 hown hK hP hD hS 0 rfl rfl 7 (by decide) fl32_ (fun _ h9 => h9) rfl (by decide +kernel) (by first | rfl | decide) (by first | rfl | decide) (Nat.le_of_ble_eq_true rfl) dX6_inferredCount_2 (fun H1 locs hP hD hS => ?_)
  have hP : va_P (dC, dI) vwCl (wM_ m0 m_g m_kept m_spare m_was m_text m_told cI mg mkept mspare mhasKept mwas mwasMany manew 0 mtext mlength mspot mvalue merror mtold mtolds) H1 := hP
  have hD : va_D A (wM_ m0 m_g m_kept m_spare m_was m_text m_told cI mg mkept mspare mhasKept mwas mwasMany manew 0 mtext mlength mspot mvalue merror mtold mtolds) := hD
  refine lv_iconst (v := 0) hx hb dX6_inferredCount_5 (by decide) ?_
  refine lv_istore_n (lv' := [(1, .int 0), (0, .ref m0)]) hx hb dX6_inferredCount_6 rfl hl (by decide) rfl (fun ls hl => ?_)
  refine lv_iconst (v := 0) hx hb dX6_inferredCount_7 (by decide) ?_
  refine lv_istore_n (lv' := [(2, .int 0), (1, .int 0), (0, .ref m0)]) hx hb dX6_inferredCount_8 rfl hl (by decide) rfl (fun ls hl => ?_)
  have lp9 : ∀ (n : Nat) (l2 : Int32) (l1 : Int32) (mg : Nat → Int32) (mkept : Nat → Int32) (mspare : Nat → Int32) (mhasKept : Int32) (mwas : Nat → Int32) (mwasMany : Int32) (manew : Int32) (mthrown : Int32) (mtext : Nat → Int32) (mlength : Int32) (mspot : Int32) (mvalue : Int32) (merror : Int32) (mtold : Nat → Int32) (mtolds : Int32) (H2 : Heap) (locs : List Loc) (ls : Array Slot), f_X6_inferredCount_L9 n l2 l1 (mg, mkept, mspare, mhasKept, mwas, mwasMany, manew, mthrown, mtext, mlength, mspot, mvalue, merror, mtold, mtolds) = some R → va_P (dC, dI) vwCl (wM_ m0 m_g m_kept m_spare m_was m_text m_told cI mg mkept mspare mhasKept mwas mwasMany manew mthrown mtext mlength mspot mvalue merror mtold mtolds) H2 → va_D A (wM_ m0 m_g m_kept m_spare m_was m_text m_told cI mg mkept mspare mhasKept mwas mwasMany manew mthrown mtext mlength mspot mvalue merror mtold mtolds) → va_S A s.heap H2 locs → lv_has ls 3 [(2, .int l2), (1, .int l1), (0, .ref m0)] → W p l e (headSpec wsX6_inferredCount rm_X6_inferredCount).room s m args below meth c H2 locs 0 0 (MQ below (Qi_ (dC, dI) (ty_ cI cZ cC cJ cD) R.1 (wM_ m0 m_g m_kept m_spare m_was m_text m_told cI R.2.1 R.2.2.1 R.2.2.2.1 R.2.2.2.2.1 R.2.2.2.2.2.1 R.2.2.2.2.2.2.1 R.2.2.2.2.2.2.2.1 R.2.2.2.2.2.2.2.2.1 R.2.2.2.2.2.2.2.2.2.1 R.2.2.2.2.2.2.2.2.2.2.1 R.2.2.2.2.2.2.2.2.2.2.2.1 R.2.2.2.2.2.2.2.2.2.2.2.2.1 R.2.2.2.2.2.2.2.2.2.2.2.2.2.1 R.2.2.2.2.2.2.2.2.2.2.2.2.2.2.1 R.2.2.2.2.2.2.2.2.2.2.2.2.2.2.2) A) args s 0 0 A) (F0 m 9 ls []) := by
    intro n
    induction n with
    | zero => intro l2 l1 mg mkept mspare mhasKept mwas mwasMany manew mthrown mtext mlength mspot mvalue merror mtold mtolds H2 locs ls hf hP hD hS hl; exact absurd hf (by simp [f_X6_inferredCount_L9])
    | succ n ih =>
      intro l2 l1 mg mkept mspare mhasKept mwas mwasMany manew mthrown mtext mlength mspot mvalue merror mtold mtolds H2 locs ls hf hP hD hS hl
      have hf : f_X6_inferredCount_S9 (f_X6_inferredCount_L9 n) l2 l1 (mg, mkept, mspare, mhasKept, mwas, mwasMany, manew, mthrown, mtext, mlength, mspot, mvalue, merror, mtold, mtolds) = some R := hf
      unfold f_X6_inferredCount_S9 at hf
      dsimp only at hf
      refine lv_iload_n hx hb dX6_inferredCount_9 rfl (lv_at hl 0 rfl) ?_
      refine lv_aload_n hx hb dX6_inferredCount_10 rfl (lv_at hl 2 rfl) ?_
      refine va_get (D := (dC, dI)) (ci := 8) (v := .ref m_g) (C := RX6) (T := TX6) (N := 15) hx hb hts inX6_ hown hK hP 0 rfl rfl 0 (by decide) fl7_ (fun _ h9 => h9) rfl dX6_inferredCount_11 ?_
      refine lv_iconst (v := 0) hx hb dX6_inferredCount_14 (by decide) ?_
      obtain ⟨h3, hf⟩ := gd_T hf
      refine va_iald hx hb hK hP 1 0 rfl rfl h3 dX6_inferredCount_15 ?_
      refine lv_icmp_ge (tgt := 55) hx hb dX6_inferredCount_16 (by decide) (fun c4 => ?_) (fun c4 => ?_)
      · have hf := ite_T c4 hf
        refine lv_iload_n hx hb dX6_inferredCount_55 rfl (lv_at hl 1 rfl) ?_
        have hR := Option.some.inj hf
        subst hR
        exact W.iret (v := l1) hx hb hr (fun t ht hW => ⟨⟨l1, (), rfl, rfl, by rw [ht]; exact hP, va_K.moved hW.alike hK, hD⟩, hS.F ht⟩) hS.2.2 dX6_inferredCount_56
      · have hf := ite_F c4 hf
        refine lv_iload_n hx hb dX6_inferredCount_19 rfl (lv_at hl 1 rfl) ?_
        refine lv_aload_n hx hb dX6_inferredCount_20 rfl (lv_at hl 2 rfl) ?_
        refine va_get (D := (dC, dI)) (ci := 8) (v := .ref m_g) (C := RX6) (T := TX6) (N := 15) hx hb hts inX6_ hown hK hP 0 rfl rfl 0 (by decide) fl7_ (fun _ h9 => h9) rfl dX6_inferredCount_21 ?_
        refine lv_bipush (v := 10) hx hb dX6_inferredCount_24 (by decide) ?_
        refine lv_iload_n hx hb dX6_inferredCount_26 rfl (lv_at hl 0 rfl) ?_
        refine lv_iadd hx hb dX6_inferredCount_27 ?_
        obtain ⟨h5, hf⟩ := gd_T hf
        refine va_iald hx hb hK hP 1 0 rfl rfl h5 dX6_inferredCount_28 ?_
        refine lv_iconst (v := 1) hx hb dX6_inferredCount_29 (by decide) ?_
        refine lv_icmp_ne (tgt := 46) hx hb dX6_inferredCount_30 (by decide) (fun c6 => ?_) (fun c6 => ?_)
        · have hf := ite_F c6 hf
          refine lv_iconst (v := 0) hx hb dX6_inferredCount_46 (by decide) ?_
          refine lv_iadd hx hb dX6_inferredCount_47 ?_
          refine lv_istore_n (lv' := [(1, .int (l1 + 0)), (2, .int l2), (0, .ref m0)]) hx hb dX6_inferredCount_48 rfl hl (by decide) rfl (fun ls hl => ?_)
          refine lv_iinc (v := l2 + 1) (lv' := [(2, .int (l2 + 1)), (1, .int (l1 + 0)), (0, .ref m0)]) hx hb dX6_inferredCount_49 hl (k := 1) rfl (by first | rfl | decide) (by decide) rfl (fun ls hl => ?_)
          refine lv_goto (tgt := 9) hx hb dX6_inferredCount_52 (by decide) ?_
          exact ih (l2 + 1) (l1 + 0) mg mkept mspare mhasKept mwas mwasMany manew mthrown mtext mlength mspot mvalue merror mtold mtolds _ _ _ hf hP hD hS (lv_sub hl [0, 1, 2] rfl)
        · have hf := ite_T c6 hf
          refine lv_aload_n hx hb dX6_inferredCount_33 rfl (lv_at hl 2 rfl) ?_
          refine va_get (D := (dC, dI)) (ci := 8) (v := .ref m_g) (C := RX6) (T := TX6) (N := 15) hx hb hts inX6_ hown hK hP 0 rfl rfl 0 (by decide) fl7_ (fun _ h9 => h9) rfl dX6_inferredCount_34 ?_
          refine lv_sipush (v := 310) hx hb dX6_inferredCount_37 (by decide) ?_
          refine lv_iload_n hx hb dX6_inferredCount_40 rfl (lv_at hl 0 rfl) ?_
          refine lv_iadd hx hb dX6_inferredCount_41 ?_
          obtain ⟨h7, hf⟩ := gd_T hf
          refine va_iald hx hb hK hP 1 0 rfl rfl h7 dX6_inferredCount_42 ?_
          refine lv_goto (tgt := 47) hx hb dX6_inferredCount_43 (by decide) ?_
          refine lv_iadd hx hb dX6_inferredCount_47 ?_
          refine lv_istore_n (lv' := [(1, .int (l1 + (mg ((310 + l2).toNatClampNeg)))), (2, .int l2), (0, .ref m0)]) hx hb dX6_inferredCount_48 rfl hl (by decide) rfl (fun ls hl => ?_)
          refine lv_iinc (v := l2 + 1) (lv' := [(2, .int (l2 + 1)), (1, .int (l1 + (mg ((310 + l2).toNatClampNeg)))), (0, .ref m0)]) hx hb dX6_inferredCount_49 hl (k := 1) rfl (by first | rfl | decide) (by decide) rfl (fun ls hl => ?_)
          refine lv_goto (tgt := 9) hx hb dX6_inferredCount_52 (by decide) ?_
          exact ih (l2 + 1) (l1 + (mg ((310 + l2).toNatClampNeg))) mg mkept mspare mhasKept mwas mwasMany manew mthrown mtext mlength mspot mvalue merror mtold mtolds _ _ _ hf hP hD hS (lv_sub hl [0, 1, 2] rfl)
  exact lp9 fu_ (0 : Int32) (0 : Int32) mg mkept mspare mhasKept mwas mwasMany manew (0 : Int32) mtext mlength mspot mvalue merror mtold mtolds _ _ _ hf hP hD hS hl
theorem hs_X6_inferredCount : yX6_inferredCount.cls = RX6 ∧ yX6_inferredCount.cls ≠ "java/lang/invoke/MethodHandle" ∧ yX6_inferredCount.cls ≠ "java/lang/invoke/VarHandle" ∧ (parseMethodDescriptor yX6_inferredCount.desc).map (fun d => d.parameters.length) = some 0 := by decide +kernel
set_option maxRecDepth 20000 in
theorem in_X6_removedCount_X6 : ∀ w ∈ wsX60, w ∈ wsX6_removedCount := by decide +kernel
def f_X6_removedCount  (M_ : tM_) : Option (Int32 × tM_) :=
match M_ with
| (mg, mkept, mspare, mhasKept, mwas, mwasMany, manew, mthrown, mtext, mlength, mspot, mvalue, merror, mtold, mtolds) =>
gd_ (0 : Int32) 610 (
bd_ (f_X6_there (mg, mkept, mspare, mhasKept, mwas, mwasMany, manew, 0, mtext, mlength, mspot, mvalue, merror, mtold, mtolds)) (fun r3 =>
some ((mg ((0 : Int32).toNatClampNeg)) - r3, (mg, mkept, mspare, mhasKept, mwas, mwasMany, manew, 0, mtext, mlength, mspot, mvalue, merror, mtold, mtolds))))
abbrev rm_X6_removedCount : Room := { frames := 1, cells := 0, slots := 0, locals := 22 }
set_option maxHeartbeats 4000000 in
set_option maxRecDepth 100000 in
theorem c_X6_removedCount (l : Launch) (dC : Nat → ClassId) (dI : Nat → Nat → Nat) (cI cZ cC cJ cD : ClassId) (m0 m_g m_kept m_spare m_was m_text m_told : Nat) (sz : Nat) (mg : Nat → Int32) (mkept : Nat → Int32) (mspare : Nat → Int32) (mhasKept : Int32) (mwas : Nat → Int32) (mwasMany : Int32) (manew : Int32) (mthrown : Int32) (mtext : Nat → Int32) (mlength : Int32) (mspot : Int32) (mvalue : Int32) (merror : Int32) (mtold : Nat → Int32) (mtolds : Int32)  (R : Int32 × tM_) (hf : f_X6_removedCount  (mg, mkept, mspare, mhasKept, mwas, mwasMany, manew, mthrown, mtext, mlength, mspot, mvalue, merror, mtold, mtolds) = some R) : Met l yX6_removedCount wsX6_removedCount rm_X6_removedCount (Pc_ (dC, dI) (ty_ cI cZ cC cJ cD) (wM_ m0 m_g m_kept m_spare m_was m_text m_told cI mg mkept mspare mhasKept mwas mwasMany manew mthrown mtext mlength mspot mvalue merror mtold mtolds) sz [.ref m0]) (Qi_ (dC, dI) (ty_ cI cZ cC cJ cD) R.1 (wM_ m0 m_g m_kept m_spare m_was m_text m_told cI R.2.1 R.2.2.1 R.2.2.2.1 R.2.2.2.2.1 R.2.2.2.2.2.1 R.2.2.2.2.2.2.1 R.2.2.2.2.2.2.2.1 R.2.2.2.2.2.2.2.2.1 R.2.2.2.2.2.2.2.2.2.1 R.2.2.2.2.2.2.2.2.2.2.1 R.2.2.2.2.2.2.2.2.2.2.2.1 R.2.2.2.2.2.2.2.2.2.2.2.2.1 R.2.2.2.2.2.2.2.2.2.2.2.2.2.1 R.2.2.2.2.2.2.2.2.2.2.2.2.2.2.1 R.2.2.2.2.2.2.2.2.2.2.2.2.2.2.2) (va_A (wM_ m0 m_g m_kept m_spare m_was m_text m_told cI mg mkept mspare mhasKept mwas mwasMany manew mthrown mtext mlength mspot mvalue merror mtold mtolds) sz)) 0 0 (va_A (wM_ m0 m_g m_kept m_spare m_was m_text m_told cI mg mkept mspare mhasKept mwas mwasMany manew mthrown mtext mlength mspot mvalue merror mtold mtolds) sz) := by
  refine met_ (cc := cX6_removedCount) (maxL := 1) (ret := (some .int)) (Qcf := fun A => Qi_ (dC, dI) (ty_ cI cZ cC cJ cD) R.1 (wM_ m0 m_g m_kept m_spare m_was m_text m_told cI R.2.1 R.2.2.1 R.2.2.2.1 R.2.2.2.2.1 R.2.2.2.2.2.1 R.2.2.2.2.2.2.1 R.2.2.2.2.2.2.2.1 R.2.2.2.2.2.2.2.2.1 R.2.2.2.2.2.2.2.2.2.1 R.2.2.2.2.2.2.2.2.2.2.1 R.2.2.2.2.2.2.2.2.2.2.2.1 R.2.2.2.2.2.2.2.2.2.2.2.2.1 R.2.2.2.2.2.2.2.2.2.2.2.2.2.1 R.2.2.2.2.2.2.2.2.2.2.2.2.2.2.1 R.2.2.2.2.2.2.2.2.2.2.2.2.2.2.2) A) (by decide) rfl (Nat.le_of_ble_eq_true rfl) ?_
  intro p e s m args below meth c A ls hx hb hr hts hown hlocks hml hA hP hK hD hl
  have hown : s.vm.findClass RX6 = some m.cls := hown
  have hl : lv_has ls 1 [(0, .ref m0)] := hl
  have hS : va_S A s.heap s.heap [] := va_S.rf
  have fl7_ : (Cond.fieldLink RX6 7 "DimensionLoaderModel" "g" "[I").before args s = true := hts _ (List.mem_of_getElem? (i := 2) rfl)
  have fl32_ : (Cond.fieldLink RX6 32 "DimensionLoaderModel" "thrown" "I").before args s = true := hts _ (List.mem_of_getElem? (i := 1) rfl)
  have inX6_ : ∀ w ∈ wsX60, w ∈ wsX6_removedCount := in_X6_removedCount_X6
  unfold f_X6_removedCount at hf
  dsimp only at hf
  refine lv_aload_n hx hb dX6_removedCount_0 rfl (lv_at hl 0 rfl) ?_
  refine lv_iconst (v := 0) hx hb dX6_removedCount_1 (by decide) ?_
  refine va_put (D := (dC, dI)) (ci := 8) (v := .int 0) (ty := .int) (C := RX6) (T := TX6) (N := 15) hx hb hts inX6_ tyX6 tyX6_ok nmX6 hown hK hP hD hS 0 rfl rfl 7 (by decide) fl32_ (fun _ h9 => h9) rfl (by decide +kernel) (by first | rfl | decide) (by first | rfl | decide) (Nat.le_of_ble_eq_true rfl) dX6_removedCount_2 (fun H1 locs hP hD hS => ?_)
  have hP : va_P (dC, dI) vwCl (wM_ m0 m_g m_kept m_spare m_was m_text m_told cI mg mkept mspare mhasKept mwas mwasMany manew 0 mtext mlength mspot mvalue merror mtold mtolds) H1 := hP
  have hD : va_D A (wM_ m0 m_g m_kept m_spare m_was m_text m_told cI mg mkept mspare mhasKept mwas mwasMany manew 0 mtext mlength mspot mvalue merror mtold mtolds) := hD
  refine lv_aload_n hx hb dX6_removedCount_5 rfl (lv_at hl 0 rfl) ?_
  refine va_get (D := (dC, dI)) (ci := 8) (v := .ref m_g) (C := RX6) (T := TX6) (N := 15) hx hb hts inX6_ hown hK hP 0 rfl rfl 0 (by decide) fl7_ (fun _ h9 => h9) rfl dX6_removedCount_6 ?_
  refine lv_iconst (v := 0) hx hb dX6_removedCount_9 (by decide) ?_
  obtain ⟨h2, hf⟩ := gd_T hf
  refine va_iald hx hb hK hP 1 0 rfl rfl h2 dX6_removedCount_10 ?_
  refine lv_aload_n hx hb dX6_removedCount_11 rfl (lv_at hl 0 rfl) ?_
  obtain ⟨R4, g5, hf⟩ := bd_B hf
  obtain ⟨r3, rfl⟩ : ∃ z, z = R4 := ⟨_, rfl⟩
  have hPc := hP
  have hDc := hD
  have hFc := va_free (wc := wM_ m0 m_g m_kept m_spare m_was m_text m_told cI mg mkept mspare mhasKept mwas mwasMany manew 0 mtext mlength mspot mvalue merror mtold mtolds) hD hS hA [0, 1, 2, 3, 4, 5, 6] rfl
  refine va_calli (va_runV (As := []) (rest := [.int (mg ((0 : Int32).toNatClampNeg))]) ⟨hx, hb, hml, hown, hts⟩ (c_X6_there l dC dI cI cZ cC cJ cD m0 m_g m_kept m_spare m_was m_text m_told H1.size mg mkept mspare mhasKept mwas mwasMany manew (0 : Int32) mtext mlength mspot mvalue merror mtold mtolds r3 g5) (cwV 0 hts gX6_removedCount_X6_there rfl rfl rfl hs_X6_there ⟨Nat.le_of_ble_eq_true rfl, Nat.le_of_ble_eq_true rfl⟩) (preV_ (ci := 8) (q0 := 0) hPc hK hDc rfl rfl rfl rfl) rfl rfl hl.1 rfl (lv_room (Nat.le_of_ble_eq_true rfl)) dX6_removedCount_12 ⟨Nat.le_of_ble_eq_true rfl, Nat.le_of_ble_eq_true rfl⟩) hS (fun q _ h => hFc q h) hFc (fun z7 u t H6 locs ht hvm hw hB hz1 hk1 hS => ?_)
  have hw : r3 = z7 := hw.symm
  subst hw
  obtain ⟨hP, hD⟩ := aft_ (Wr := []) (Wc' := wM_ m0 m_g m_kept m_spare m_was m_text m_told cI mg mkept mspare mhasKept mwas mwasMany manew 0 mtext mlength mspot mvalue merror mtold mtolds) (W2 := wM_ m0 m_g m_kept m_spare m_was m_text m_told cI mg mkept mspare mhasKept mwas mwasMany manew 0 mtext mlength mspot mvalue merror mtold mtolds) hP hD [0, 1, 2, 3, 4, 5, 6] [] [0, 1, 2, 3, 4, 5, 6] rfl rfl (by decide) (by decide) (by decide) hk1 hFc hB ht rfl
  refine lv_isub hx hb dX6_removedCount_15 ?_
  have hR := Option.some.inj hf
  subst hR
  exact W.iret (v := (mg ((0 : Int32).toNatClampNeg)) - r3) hx hb hr (fun t ht hW => ⟨⟨(mg ((0 : Int32).toNatClampNeg)) - r3, (), rfl, rfl, by rw [ht]; exact hP, va_K.moved hW.alike hK, hD⟩, hS.F ht⟩) hS.2.2 dX6_removedCount_16
theorem hs_X6_removedCount : yX6_removedCount.cls = RX6 ∧ yX6_removedCount.cls ≠ "java/lang/invoke/MethodHandle" ∧ yX6_removedCount.cls ≠ "java/lang/invoke/VarHandle" ∧ (parseMethodDescriptor yX6_removedCount.desc).map (fun d => d.parameters.length) = some 0 := by decide +kernel
set_option maxRecDepth 20000 in
theorem in_X6_factCount_X6 : ∀ w ∈ wsX60, w ∈ wsX6_factCount := by decide +kernel
def f_X6_factCount  (M_ : tM_) : Option (Int32 × tM_) :=
match M_ with
| (mg, mkept, mspare, mhasKept, mwas, mwasMany, manew, mthrown, mtext, mlength, mspot, mvalue, merror, mtold, mtolds) =>
gd_ (1 : Int32) 610 (
some (mg ((1 : Int32).toNatClampNeg), (mg, mkept, mspare, mhasKept, mwas, mwasMany, manew, 0, mtext, mlength, mspot, mvalue, merror, mtold, mtolds)))
abbrev rm_X6_factCount : Room := { frames := 0, cells := 0, slots := 0, locals := 0 }
set_option maxHeartbeats 4000000 in
set_option maxRecDepth 100000 in
theorem c_X6_factCount (l : Launch) (dC : Nat → ClassId) (dI : Nat → Nat → Nat) (cI cZ cC cJ cD : ClassId) (m0 m_g m_kept m_spare m_was m_text m_told : Nat) (sz : Nat) (mg : Nat → Int32) (mkept : Nat → Int32) (mspare : Nat → Int32) (mhasKept : Int32) (mwas : Nat → Int32) (mwasMany : Int32) (manew : Int32) (mthrown : Int32) (mtext : Nat → Int32) (mlength : Int32) (mspot : Int32) (mvalue : Int32) (merror : Int32) (mtold : Nat → Int32) (mtolds : Int32)  (R : Int32 × tM_) (hf : f_X6_factCount  (mg, mkept, mspare, mhasKept, mwas, mwasMany, manew, mthrown, mtext, mlength, mspot, mvalue, merror, mtold, mtolds) = some R) : Met l yX6_factCount wsX6_factCount rm_X6_factCount (Pc_ (dC, dI) (ty_ cI cZ cC cJ cD) (wM_ m0 m_g m_kept m_spare m_was m_text m_told cI mg mkept mspare mhasKept mwas mwasMany manew mthrown mtext mlength mspot mvalue merror mtold mtolds) sz [.ref m0]) (Qi_ (dC, dI) (ty_ cI cZ cC cJ cD) R.1 (wM_ m0 m_g m_kept m_spare m_was m_text m_told cI R.2.1 R.2.2.1 R.2.2.2.1 R.2.2.2.2.1 R.2.2.2.2.2.1 R.2.2.2.2.2.2.1 R.2.2.2.2.2.2.2.1 R.2.2.2.2.2.2.2.2.1 R.2.2.2.2.2.2.2.2.2.1 R.2.2.2.2.2.2.2.2.2.2.1 R.2.2.2.2.2.2.2.2.2.2.2.1 R.2.2.2.2.2.2.2.2.2.2.2.2.1 R.2.2.2.2.2.2.2.2.2.2.2.2.2.1 R.2.2.2.2.2.2.2.2.2.2.2.2.2.2.1 R.2.2.2.2.2.2.2.2.2.2.2.2.2.2.2) (va_A (wM_ m0 m_g m_kept m_spare m_was m_text m_told cI mg mkept mspare mhasKept mwas mwasMany manew mthrown mtext mlength mspot mvalue merror mtold mtolds) sz)) 0 0 (va_A (wM_ m0 m_g m_kept m_spare m_was m_text m_told cI mg mkept mspare mhasKept mwas mwasMany manew mthrown mtext mlength mspot mvalue merror mtold mtolds) sz) := by
  refine met_ (cc := cX6_factCount) (maxL := 1) (ret := (some .int)) (Qcf := fun A => Qi_ (dC, dI) (ty_ cI cZ cC cJ cD) R.1 (wM_ m0 m_g m_kept m_spare m_was m_text m_told cI R.2.1 R.2.2.1 R.2.2.2.1 R.2.2.2.2.1 R.2.2.2.2.2.1 R.2.2.2.2.2.2.1 R.2.2.2.2.2.2.2.1 R.2.2.2.2.2.2.2.2.1 R.2.2.2.2.2.2.2.2.2.1 R.2.2.2.2.2.2.2.2.2.2.1 R.2.2.2.2.2.2.2.2.2.2.2.1 R.2.2.2.2.2.2.2.2.2.2.2.2.1 R.2.2.2.2.2.2.2.2.2.2.2.2.2.1 R.2.2.2.2.2.2.2.2.2.2.2.2.2.2.1 R.2.2.2.2.2.2.2.2.2.2.2.2.2.2.2) A) (by decide) rfl (Nat.le_of_ble_eq_true rfl) ?_
  intro p e s m args below meth c A ls hx hb hr hts hown hlocks hml hA hP hK hD hl
  have hown : s.vm.findClass RX6 = some m.cls := hown
  have hl : lv_has ls 1 [(0, .ref m0)] := hl
  have hS : va_S A s.heap s.heap [] := va_S.rf
  have fl7_ : (Cond.fieldLink RX6 7 "DimensionLoaderModel" "g" "[I").before args s = true := hts _ (List.mem_of_getElem? (i := 2) rfl)
  have fl32_ : (Cond.fieldLink RX6 32 "DimensionLoaderModel" "thrown" "I").before args s = true := hts _ (List.mem_of_getElem? (i := 1) rfl)
  have inX6_ : ∀ w ∈ wsX60, w ∈ wsX6_factCount := in_X6_factCount_X6
  unfold f_X6_factCount at hf
  dsimp only at hf
  refine lv_aload_n hx hb dX6_factCount_0 rfl (lv_at hl 0 rfl) ?_
  refine lv_iconst (v := 0) hx hb dX6_factCount_1 (by decide) ?_
  refine va_put (D := (dC, dI)) (ci := 8) (v := .int 0) (ty := .int) (C := RX6) (T := TX6) (N := 15) hx hb hts inX6_ tyX6 tyX6_ok nmX6 hown hK hP hD hS 0 rfl rfl 7 (by decide) fl32_ (fun _ h9 => h9) rfl (by decide +kernel) (by first | rfl | decide) (by first | rfl | decide) (Nat.le_of_ble_eq_true rfl) dX6_factCount_2 (fun H1 locs hP hD hS => ?_)
  have hP : va_P (dC, dI) vwCl (wM_ m0 m_g m_kept m_spare m_was m_text m_told cI mg mkept mspare mhasKept mwas mwasMany manew 0 mtext mlength mspot mvalue merror mtold mtolds) H1 := hP
  have hD : va_D A (wM_ m0 m_g m_kept m_spare m_was m_text m_told cI mg mkept mspare mhasKept mwas mwasMany manew 0 mtext mlength mspot mvalue merror mtold mtolds) := hD
  refine lv_aload_n hx hb dX6_factCount_5 rfl (lv_at hl 0 rfl) ?_
  refine va_get (D := (dC, dI)) (ci := 8) (v := .ref m_g) (C := RX6) (T := TX6) (N := 15) hx hb hts inX6_ hown hK hP 0 rfl rfl 0 (by decide) fl7_ (fun _ h9 => h9) rfl dX6_factCount_6 ?_
  refine lv_iconst (v := 1) hx hb dX6_factCount_9 (by decide) ?_
  obtain ⟨h2, hf⟩ := gd_T hf
  refine va_iald hx hb hK hP 1 0 rfl rfl h2 dX6_factCount_10 ?_
  have hR := Option.some.inj hf
  subst hR
  exact W.iret (v := mg ((1 : Int32).toNatClampNeg)) hx hb hr (fun t ht hW => ⟨⟨mg ((1 : Int32).toNatClampNeg), (), rfl, rfl, by rw [ht]; exact hP, va_K.moved hW.alike hK, hD⟩, hS.F ht⟩) hS.2.2 dX6_factCount_11
theorem hs_X6_factCount : yX6_factCount.cls = RX6 ∧ yX6_factCount.cls ≠ "java/lang/invoke/MethodHandle" ∧ yX6_factCount.cls ≠ "java/lang/invoke/VarHandle" ∧ (parseMethodDescriptor yX6_factCount.desc).map (fun d => d.parameters.length) = some 0 := by decide +kernel
set_option maxRecDepth 20000 in
theorem in_X6_factTold_X6 : ∀ w ∈ wsX60, w ∈ wsX6_factTold := by decide +kernel
def f_X6_factTold (a1 : Int32) (a2 : Int32) (M_ : tM_) : Option (Int32) :=
match M_ with
| (mg, mkept, mspare, mhasKept, mwas, mwasMany, manew, mthrown, mtext, mlength, mspot, mvalue, merror, mtold, mtolds) =>
if a2 = 0 then
gd_ (370 + a1) 610 (
some (mg ((370 + a1).toNatClampNeg)))
else
if a2 = 1 then
gd_ (430 + a1) 610 (
some (mg ((430 + a1).toNatClampNeg)))
else
if a2 = 2 then
gd_ (490 + a1) 610 (
some (mg ((490 + a1).toNatClampNeg)))
else
if a2 = 3 then
bd_ (f_X6_versionOf a1 (mg, mkept, mspare, mhasKept, mwas, mwasMany, manew, mthrown, mtext, mlength, mspot, mvalue, merror, mtold, mtolds)) (fun r8 =>
some r8)
else
bd_ (f_X6_versionOf a1 (mg, mkept, mspare, mhasKept, mwas, mwasMany, manew, mthrown, mtext, mlength, mspot, mvalue, merror, mtold, mtolds)) (fun r13 =>
gd_ (250 + r13) 610 (
some (mg ((250 + r13).toNatClampNeg))))
abbrev rm_X6_factTold : Room := { frames := 3, cells := 0, slots := 0, locals := 66 }
set_option maxHeartbeats 4000000 in
set_option maxRecDepth 100000 in
theorem c_X6_factTold (l : Launch) (dC : Nat → ClassId) (dI : Nat → Nat → Nat) (cI cZ cC cJ cD : ClassId) (m0 m_g m_kept m_spare m_was m_text m_told : Nat) (sz : Nat) (mg : Nat → Int32) (mkept : Nat → Int32) (mspare : Nat → Int32) (mhasKept : Int32) (mwas : Nat → Int32) (mwasMany : Int32) (manew : Int32) (mthrown : Int32) (mtext : Nat → Int32) (mlength : Int32) (mspot : Int32) (mvalue : Int32) (merror : Int32) (mtold : Nat → Int32) (mtolds : Int32) (a1 : Int32) (a2 : Int32) (R : Int32) (hf : f_X6_factTold a1 a2 (mg, mkept, mspare, mhasKept, mwas, mwasMany, manew, mthrown, mtext, mlength, mspot, mvalue, merror, mtold, mtolds) = some R) : Met l yX6_factTold wsX6_factTold rm_X6_factTold (Pc_ (dC, dI) (ty_ cI cZ cC cJ cD) (wM_ m0 m_g m_kept m_spare m_was m_text m_told cI mg mkept mspare mhasKept mwas mwasMany manew mthrown mtext mlength mspot mvalue merror mtold mtolds) sz [.ref m0, .int a1, .int a2]) (Qi_ (dC, dI) (ty_ cI cZ cC cJ cD) R (wM_ m0 m_g m_kept m_spare m_was m_text m_told cI mg mkept mspare mhasKept mwas mwasMany manew mthrown mtext mlength mspot mvalue merror mtold mtolds) (va_A (wM_ m0 m_g m_kept m_spare m_was m_text m_told cI mg mkept mspare mhasKept mwas mwasMany manew mthrown mtext mlength mspot mvalue merror mtold mtolds) sz)) 0 0 (va_A (wM_ m0 m_g m_kept m_spare m_was m_text m_told cI mg mkept mspare mhasKept mwas mwasMany manew mthrown mtext mlength mspot mvalue merror mtold mtolds) sz) := by
  refine met_ (cc := cX6_factTold) (maxL := 3) (ret := (some .int)) (Qcf := fun A => Qi_ (dC, dI) (ty_ cI cZ cC cJ cD) R (wM_ m0 m_g m_kept m_spare m_was m_text m_told cI mg mkept mspare mhasKept mwas mwasMany manew mthrown mtext mlength mspot mvalue merror mtold mtolds) A) (by decide) rfl (Nat.le_of_ble_eq_true rfl) ?_
  intro p e s m args below meth c A ls hx hb hr hts hown hlocks hml hA hP hK hD hl
  have hown : s.vm.findClass RX6 = some m.cls := hown
  have hl : lv_has ls 3 [(0, .ref m0), (1, .int a1), (2, .int a2)] := hl
  have hS : va_S A s.heap s.heap [] := va_S.rf
  have fl7_ : (Cond.fieldLink RX6 7 "DimensionLoaderModel" "g" "[I").before args s = true := hts _ (List.mem_of_getElem? (i := 1) rfl)
  have inX6_ : ∀ w ∈ wsX60, w ∈ wsX6_factTold := in_X6_factTold_X6
  unfold f_X6_factTold at hf
  dsimp only at hf
  refine lv_iload_n hx hb dX6_factTold_0 rfl (lv_at hl 2 rfl) ?_
  by_cases c1 : a2 = 0
  · have hf := ite_T c1 hf
    refine lv_tableIn (tgt := 32) (off := 31) hx hb dX6_factTold_1 (by rw [c1]; decide) (by rw [c1]; decide) (by rw [c1]; rfl) (by decide) ?_
    refine lv_aload_n hx hb dX6_factTold_32 rfl (lv_at hl 0 rfl) ?_
    refine va_get (D := (dC, dI)) (ci := 8) (v := .ref m_g) (C := RX6) (T := TX6) (N := 15) hx hb hts inX6_ hown hK hP 0 rfl rfl 0 (by decide) fl7_ (fun _ h9 => h9) rfl dX6_factTold_33 ?_
    refine lv_sipush (v := 370) hx hb dX6_factTold_36 (by decide) ?_
    refine lv_iload_n hx hb dX6_factTold_39 rfl (lv_at hl 1 rfl) ?_
    refine lv_iadd hx hb dX6_factTold_40 ?_
    obtain ⟨h2, hf⟩ := gd_T hf
    refine va_iald hx hb hK hP 1 0 rfl rfl h2 dX6_factTold_41 ?_
    have hR := Option.some.inj hf
    subst hR
    exact W.iret (v := mg ((370 + a1).toNatClampNeg)) hx hb hr (fun t ht hW => ⟨⟨mg ((370 + a1).toNatClampNeg), (), rfl, rfl, by rw [ht]; exact hP, va_K.moved hW.alike hK, hD⟩, hS.F ht⟩) hS.2.2 dX6_factTold_42
  · have hf := ite_F c1 hf
    by_cases c3 : a2 = 1
    · have hf := ite_T c3 hf
      refine lv_tableIn (tgt := 43) (off := 42) hx hb dX6_factTold_1 (by rw [c3]; decide) (by rw [c3]; decide) (by rw [c3]; rfl) (by decide) ?_
      refine lv_aload_n hx hb dX6_factTold_43 rfl (lv_at hl 0 rfl) ?_
      refine va_get (D := (dC, dI)) (ci := 8) (v := .ref m_g) (C := RX6) (T := TX6) (N := 15) hx hb hts inX6_ hown hK hP 0 rfl rfl 0 (by decide) fl7_ (fun _ h9 => h9) rfl dX6_factTold_44 ?_
      refine lv_sipush (v := 430) hx hb dX6_factTold_47 (by decide) ?_
      refine lv_iload_n hx hb dX6_factTold_50 rfl (lv_at hl 1 rfl) ?_
      refine lv_iadd hx hb dX6_factTold_51 ?_
      obtain ⟨h4, hf⟩ := gd_T hf
      refine va_iald hx hb hK hP 1 0 rfl rfl h4 dX6_factTold_52 ?_
      have hR := Option.some.inj hf
      subst hR
      exact W.iret (v := mg ((430 + a1).toNatClampNeg)) hx hb hr (fun t ht hW => ⟨⟨mg ((430 + a1).toNatClampNeg), (), rfl, rfl, by rw [ht]; exact hP, va_K.moved hW.alike hK, hD⟩, hS.F ht⟩) hS.2.2 dX6_factTold_53
    · have hf := ite_F c3 hf
      by_cases c5 : a2 = 2
      · have hf := ite_T c5 hf
        refine lv_tableIn (tgt := 54) (off := 53) hx hb dX6_factTold_1 (by rw [c5]; decide) (by rw [c5]; decide) (by rw [c5]; rfl) (by decide) ?_
        refine lv_aload_n hx hb dX6_factTold_54 rfl (lv_at hl 0 rfl) ?_
        refine va_get (D := (dC, dI)) (ci := 8) (v := .ref m_g) (C := RX6) (T := TX6) (N := 15) hx hb hts inX6_ hown hK hP 0 rfl rfl 0 (by decide) fl7_ (fun _ h9 => h9) rfl dX6_factTold_55 ?_
        refine lv_sipush (v := 490) hx hb dX6_factTold_58 (by decide) ?_
        refine lv_iload_n hx hb dX6_factTold_61 rfl (lv_at hl 1 rfl) ?_
        refine lv_iadd hx hb dX6_factTold_62 ?_
        obtain ⟨h6, hf⟩ := gd_T hf
        refine va_iald hx hb hK hP 1 0 rfl rfl h6 dX6_factTold_63 ?_
        have hR := Option.some.inj hf
        subst hR
        exact W.iret (v := mg ((490 + a1).toNatClampNeg)) hx hb hr (fun t ht hW => ⟨⟨mg ((490 + a1).toNatClampNeg), (), rfl, rfl, by rw [ht]; exact hP, va_K.moved hW.alike hK, hD⟩, hS.F ht⟩) hS.2.2 dX6_factTold_64
      · have hf := ite_F c5 hf
        by_cases c7 : a2 = 3
        · have hf := ite_T c7 hf
          refine lv_tableIn (tgt := 65) (off := 64) hx hb dX6_factTold_1 (by rw [c7]; decide) (by rw [c7]; decide) (by rw [c7]; rfl) (by decide) ?_
          refine lv_aload_n hx hb dX6_factTold_65 rfl (lv_at hl 0 rfl) ?_
          refine lv_iload_n hx hb dX6_factTold_66 rfl (lv_at hl 1 rfl) ?_
          obtain ⟨R9, g10, hf⟩ := bd_B hf
          obtain ⟨r8, rfl⟩ : ∃ z, z = R9 := ⟨_, rfl⟩
          have hPc := hP
          have hDc := hD
          have hFc := va_free (wc := wM_ m0 m_g m_kept m_spare m_was m_text m_told cI mg mkept mspare mhasKept mwas mwasMany manew mthrown mtext mlength mspot mvalue merror mtold mtolds) hD hS hA [0, 1, 2, 3, 4, 5, 6] rfl
          refine va_calli (va_runV (As := [.int a1]) (rest := []) ⟨hx, hb, hml, hown, hts⟩ (c_X6_versionOf l dC dI cI cZ cC cJ cD m0 m_g m_kept m_spare m_was m_text m_told s.heap.size mg mkept mspare mhasKept mwas mwasMany manew mthrown mtext mlength mspot mvalue merror mtold mtolds a1 r8 g10) (cwV 1 hts gX6_factTold_X6_versionOf rfl rfl rfl hs_X6_versionOf ⟨Nat.le_of_ble_eq_true rfl, Nat.le_of_ble_eq_true rfl⟩) (preV_ (ci := 8) (q0 := 0) hPc hK hDc rfl rfl rfl rfl) rfl rfl hl.1 rfl (lv_room (Nat.le_of_ble_eq_true rfl)) dX6_factTold_67 ⟨Nat.le_of_ble_eq_true rfl, Nat.le_of_ble_eq_true rfl⟩) hS (fun q _ h => hFc q h) hFc (fun z12 u t H11 locs ht hvm hw hB hz1 hk1 hS => ?_)
          have hw : r8 = z12 := hw.symm
          subst hw
          obtain ⟨hP, hD⟩ := aft_ (Wr := []) (Wc' := wM_ m0 m_g m_kept m_spare m_was m_text m_told cI mg mkept mspare mhasKept mwas mwasMany manew mthrown mtext mlength mspot mvalue merror mtold mtolds) (W2 := wM_ m0 m_g m_kept m_spare m_was m_text m_told cI mg mkept mspare mhasKept mwas mwasMany manew mthrown mtext mlength mspot mvalue merror mtold mtolds) hP hD [0, 1, 2, 3, 4, 5, 6] [] [0, 1, 2, 3, 4, 5, 6] rfl rfl (by decide) (by decide) (by decide) hk1 hFc hB ht rfl
          have hR := Option.some.inj hf
          subst hR
          exact W.iret (v := r8) hx hb hr (fun t ht hW => ⟨⟨r8, (), rfl, rfl, by rw [ht]; exact hP, va_K.moved hW.alike hK, hD⟩, hS.F ht⟩) hS.2.2 dX6_factTold_70
        · have hf := ite_F c7 hf
          have t0_ := ne_L c1 (show (0 : Int32).toInt = 0 by decide)
          have t1_ := ne_L c3 (show (1 : Int32).toInt = 1 by decide)
          have t2_ := ne_L c5 (show (2 : Int32).toInt = 2 by decide)
          have t3_ := ne_L c7 (show (3 : Int32).toInt = 3 by decide)
          refine lv_tableOut (tgt := 71) hx hb dX6_factTold_1 (by omega) (by decide) ?_
          refine lv_aload_n hx hb dX6_factTold_71 rfl (lv_at hl 0 rfl) ?_
          refine va_get (D := (dC, dI)) (ci := 8) (v := .ref m_g) (C := RX6) (T := TX6) (N := 15) hx hb hts inX6_ hown hK hP 0 rfl rfl 0 (by decide) fl7_ (fun _ h9 => h9) rfl dX6_factTold_72 ?_
          refine lv_sipush (v := 250) hx hb dX6_factTold_75 (by decide) ?_
          refine lv_aload_n hx hb dX6_factTold_78 rfl (lv_at hl 0 rfl) ?_
          refine lv_iload_n hx hb dX6_factTold_79 rfl (lv_at hl 1 rfl) ?_
          obtain ⟨R14, g15, hf⟩ := bd_B hf
          obtain ⟨r13, rfl⟩ : ∃ z, z = R14 := ⟨_, rfl⟩
          have hPc := hP
          have hDc := hD
          have hFc := va_free (wc := wM_ m0 m_g m_kept m_spare m_was m_text m_told cI mg mkept mspare mhasKept mwas mwasMany manew mthrown mtext mlength mspot mvalue merror mtold mtolds) hD hS hA [0, 1, 2, 3, 4, 5, 6] rfl
          refine va_calli (va_runV (As := [.int a1]) (rest := [.int 250, .ref m_g]) ⟨hx, hb, hml, hown, hts⟩ (c_X6_versionOf l dC dI cI cZ cC cJ cD m0 m_g m_kept m_spare m_was m_text m_told s.heap.size mg mkept mspare mhasKept mwas mwasMany manew mthrown mtext mlength mspot mvalue merror mtold mtolds a1 r13 g15) (cwV 1 hts gX6_factTold_X6_versionOf rfl rfl rfl hs_X6_versionOf ⟨Nat.le_of_ble_eq_true rfl, Nat.le_of_ble_eq_true rfl⟩) (preV_ (ci := 8) (q0 := 0) hPc hK hDc rfl rfl rfl rfl) rfl rfl hl.1 rfl (lv_room (Nat.le_of_ble_eq_true rfl)) dX6_factTold_80 ⟨Nat.le_of_ble_eq_true rfl, Nat.le_of_ble_eq_true rfl⟩) hS (fun q _ h => hFc q h) hFc (fun z17 u t H16 locs ht hvm hw hB hz1 hk1 hS => ?_)
          have hw : r13 = z17 := hw.symm
          subst hw
          obtain ⟨hP, hD⟩ := aft_ (Wr := []) (Wc' := wM_ m0 m_g m_kept m_spare m_was m_text m_told cI mg mkept mspare mhasKept mwas mwasMany manew mthrown mtext mlength mspot mvalue merror mtold mtolds) (W2 := wM_ m0 m_g m_kept m_spare m_was m_text m_told cI mg mkept mspare mhasKept mwas mwasMany manew mthrown mtext mlength mspot mvalue merror mtold mtolds) hP hD [0, 1, 2, 3, 4, 5, 6] [] [0, 1, 2, 3, 4, 5, 6] rfl rfl (by decide) (by decide) (by decide) hk1 hFc hB ht rfl
          refine lv_iadd hx hb dX6_factTold_83 ?_
          obtain ⟨h18, hf⟩ := gd_T hf
          refine va_iald hx hb hK hP 1 0 rfl rfl h18 dX6_factTold_84 ?_
          have hR := Option.some.inj hf
          subst hR
          exact W.iret (v := mg ((250 + r13).toNatClampNeg)) hx hb hr (fun t ht hW => ⟨⟨mg ((250 + r13).toNatClampNeg), (), rfl, rfl, by rw [ht]; exact hP, va_K.moved hW.alike hK, hD⟩, hS.F ht⟩) hS.2.2 dX6_factTold_85
theorem hs_X6_factTold : yX6_factTold.cls = RX6 ∧ yX6_factTold.cls ≠ "java/lang/invoke/MethodHandle" ∧ yX6_factTold.cls ≠ "java/lang/invoke/VarHandle" ∧ (parseMethodDescriptor yX6_factTold.desc).map (fun d => d.parameters.length) = some 2 := by decide +kernel
set_option maxRecDepth 20000 in
theorem in_X6_fact_X6 : ∀ w ∈ wsX60, w ∈ wsX6_fact := by decide +kernel
def f_X6_fact (a1 : Int32) (a2 : Int32) (M_ : tM_) : Option (Int32 × tM_) :=
match M_ with
| (mg, mkept, mspare, mhasKept, mwas, mwasMany, manew, mthrown, mtext, mlength, mspot, mvalue, merror, mtold, mtolds) =>
gd_ (1 : Int32) 610 (
bd_ (f_X6_in a1 (0 : Int32) ((mg ((1 : Int32).toNatClampNeg)) - 1)) (fun r3 =>
if r3 = 0 then
bd_ (f_X6_fails (1 : Int32) (mg, mkept, mspare, mhasKept, mwas, mwasMany, manew, 0, mtext, mlength, mspot, mvalue, merror, mtold, mtolds)) (fun (r40, (mg41, mk42, ms43, mh44, mw45, mw46, ma47, mt48, mt49, ml50, ms51, mv52, me53, mt54, mt55)) =>
some (r40, (mg41, mk42, ms43, mh44, mw45, mw46, ma47, mt48, mt49, ml50, ms51, mv52, me53, mt54, mt55)))
else
bd_ (f_X6_in a2 (0 : Int32) (4 : Int32)) (fun r9 =>
if r9 = 0 then
bd_ (f_X6_fails (2 : Int32) (mg, mkept, mspare, mhasKept, mwas, mwasMany, manew, 0, mtext, mlength, mspot, mvalue, merror, mtold, mtolds)) (fun (r15, (mg16, mk17, ms18, mh19, mw20, mw21, ma22, mt23, mt24, ml25, ms26, mv27, me28, mt29, mt30)) =>
some (r15, (mg16, mk17, ms18, mh19, mw20, mw21, ma22, mt23, mt24, ml25, ms26, mv27, me28, mt29, mt30)))
else
bd_ (f_X6_factTold a1 a2 (mg, mkept, mspare, mhasKept, mwas, mwasMany, manew, 0, mtext, mlength, mspot, mvalue, merror, mtold, mtolds)) (fun r35 =>
some (r35, (mg, mkept, mspare, mhasKept, mwas, mwasMany, manew, 0, mtext, mlength, mspot, mvalue, merror, mtold, mtolds))))))
abbrev rm_X6_fact : Room := { frames := 4, cells := 0, slots := 0, locals := 88 }
set_option maxHeartbeats 4000000 in
set_option maxRecDepth 100000 in
theorem c_X6_fact (l : Launch) (dC : Nat → ClassId) (dI : Nat → Nat → Nat) (cI cZ cC cJ cD : ClassId) (m0 m_g m_kept m_spare m_was m_text m_told : Nat) (sz : Nat) (mg : Nat → Int32) (mkept : Nat → Int32) (mspare : Nat → Int32) (mhasKept : Int32) (mwas : Nat → Int32) (mwasMany : Int32) (manew : Int32) (mthrown : Int32) (mtext : Nat → Int32) (mlength : Int32) (mspot : Int32) (mvalue : Int32) (merror : Int32) (mtold : Nat → Int32) (mtolds : Int32) (a1 : Int32) (a2 : Int32) (R : Int32 × tM_) (hf : f_X6_fact a1 a2 (mg, mkept, mspare, mhasKept, mwas, mwasMany, manew, mthrown, mtext, mlength, mspot, mvalue, merror, mtold, mtolds) = some R) : Met l yX6_fact wsX6_fact rm_X6_fact (Pc_ (dC, dI) (ty_ cI cZ cC cJ cD) (wM_ m0 m_g m_kept m_spare m_was m_text m_told cI mg mkept mspare mhasKept mwas mwasMany manew mthrown mtext mlength mspot mvalue merror mtold mtolds) sz [.ref m0, .int a1, .int a2]) (Qi_ (dC, dI) (ty_ cI cZ cC cJ cD) R.1 (wM_ m0 m_g m_kept m_spare m_was m_text m_told cI R.2.1 R.2.2.1 R.2.2.2.1 R.2.2.2.2.1 R.2.2.2.2.2.1 R.2.2.2.2.2.2.1 R.2.2.2.2.2.2.2.1 R.2.2.2.2.2.2.2.2.1 R.2.2.2.2.2.2.2.2.2.1 R.2.2.2.2.2.2.2.2.2.2.1 R.2.2.2.2.2.2.2.2.2.2.2.1 R.2.2.2.2.2.2.2.2.2.2.2.2.1 R.2.2.2.2.2.2.2.2.2.2.2.2.2.1 R.2.2.2.2.2.2.2.2.2.2.2.2.2.2.1 R.2.2.2.2.2.2.2.2.2.2.2.2.2.2.2) (va_A (wM_ m0 m_g m_kept m_spare m_was m_text m_told cI mg mkept mspare mhasKept mwas mwasMany manew mthrown mtext mlength mspot mvalue merror mtold mtolds) sz)) 0 0 (va_A (wM_ m0 m_g m_kept m_spare m_was m_text m_told cI mg mkept mspare mhasKept mwas mwasMany manew mthrown mtext mlength mspot mvalue merror mtold mtolds) sz) := by
  refine met_ (cc := cX6_fact) (maxL := 3) (ret := (some .int)) (Qcf := fun A => Qi_ (dC, dI) (ty_ cI cZ cC cJ cD) R.1 (wM_ m0 m_g m_kept m_spare m_was m_text m_told cI R.2.1 R.2.2.1 R.2.2.2.1 R.2.2.2.2.1 R.2.2.2.2.2.1 R.2.2.2.2.2.2.1 R.2.2.2.2.2.2.2.1 R.2.2.2.2.2.2.2.2.1 R.2.2.2.2.2.2.2.2.2.1 R.2.2.2.2.2.2.2.2.2.2.1 R.2.2.2.2.2.2.2.2.2.2.2.1 R.2.2.2.2.2.2.2.2.2.2.2.2.1 R.2.2.2.2.2.2.2.2.2.2.2.2.2.1 R.2.2.2.2.2.2.2.2.2.2.2.2.2.2.1 R.2.2.2.2.2.2.2.2.2.2.2.2.2.2.2) A) (by decide) rfl (Nat.le_of_ble_eq_true rfl) ?_
  intro p e s m args below meth c A ls hx hb hr hts hown hlocks hml hA hP hK hD hl
  have hown : s.vm.findClass RX6 = some m.cls := hown
  have hl : lv_has ls 3 [(0, .ref m0), (1, .int a1), (2, .int a2)] := hl
  have hS : va_S A s.heap s.heap [] := va_S.rf
  have fl7_ : (Cond.fieldLink RX6 7 "DimensionLoaderModel" "g" "[I").before args s = true := hts _ (List.mem_of_getElem? (i := 2) rfl)
  have fl32_ : (Cond.fieldLink RX6 32 "DimensionLoaderModel" "thrown" "I").before args s = true := hts _ (List.mem_of_getElem? (i := 1) rfl)
  have inX6_ : ∀ w ∈ wsX60, w ∈ wsX6_fact := in_X6_fact_X6
  unfold f_X6_fact at hf
  dsimp only at hf
  refine lv_aload_n hx hb dX6_fact_0 rfl (lv_at hl 0 rfl) ?_
  refine lv_iconst (v := 0) hx hb dX6_fact_1 (by decide) ?_
  refine va_put (D := (dC, dI)) (ci := 8) (v := .int 0) (ty := .int) (C := RX6) (T := TX6) (N := 15) hx hb hts inX6_ tyX6 tyX6_ok nmX6 hown hK hP hD hS 0 rfl rfl 7 (by decide) fl32_ (fun _ h9 => h9) rfl (by decide +kernel) (by first | rfl | decide) (by first | rfl | decide) (Nat.le_of_ble_eq_true rfl) dX6_fact_2 (fun H1 locs hP hD hS => ?_)
  have hP : va_P (dC, dI) vwCl (wM_ m0 m_g m_kept m_spare m_was m_text m_told cI mg mkept mspare mhasKept mwas mwasMany manew 0 mtext mlength mspot mvalue merror mtold mtolds) H1 := hP
  have hD : va_D A (wM_ m0 m_g m_kept m_spare m_was m_text m_told cI mg mkept mspare mhasKept mwas mwasMany manew 0 mtext mlength mspot mvalue merror mtold mtolds) := hD
  refine lv_iload_n hx hb dX6_fact_5 rfl (lv_at hl 1 rfl) ?_
  refine lv_iconst (v := 0) hx hb dX6_fact_6 (by decide) ?_
  refine lv_aload_n hx hb dX6_fact_7 rfl (lv_at hl 0 rfl) ?_
  refine va_get (D := (dC, dI)) (ci := 8) (v := .ref m_g) (C := RX6) (T := TX6) (N := 15) hx hb hts inX6_ hown hK hP 0 rfl rfl 0 (by decide) fl7_ (fun _ h9 => h9) rfl dX6_fact_8 ?_
  refine lv_iconst (v := 1) hx hb dX6_fact_11 (by decide) ?_
  obtain ⟨h2, hf⟩ := gd_T hf
  refine va_iald hx hb hK hP 1 0 rfl rfl h2 dX6_fact_12 ?_
  refine lv_iconst (v := 1) hx hb dX6_fact_13 (by decide) ?_
  refine lv_isub hx hb dX6_fact_14 ?_
  obtain ⟨R4, g5, hf⟩ := bd_B hf
  obtain ⟨r3, rfl⟩ : ∃ z, z = R4 := ⟨_, rfl⟩
  have hPc := hP.sub (ws' := []) [] rfl
  have hDc := hD.sub (ws' := []) [] (by decide) rfl
  have hFc := va_free (wc := []) hD hS hA [] rfl
  refine va_calli (va_runS (As := [.int a1, .int 0, .int ((mg ((1 : Int32).toNatClampNeg)) - 1)]) (rest := []) ⟨hx, hb, hml, hown, hts⟩ (c_X6_in l dC dI cI cZ cC cJ cD H1.size a1 (0 : Int32) ((mg ((1 : Int32).toNatClampNeg)) - 1) r3 g5) (cwS 3 hts gX6_fact_X6_in rfl rfl rfl hs_X6_in ⟨Nat.le_of_ble_eq_true rfl, Nat.le_of_ble_eq_true rfl⟩) (preS_ hPc hK hDc rfl) rfl rfl hl.1 rfl (lv_room (Nat.le_of_ble_eq_true rfl)) dX6_fact_15 ⟨Nat.le_of_ble_eq_true rfl, Nat.le_of_ble_eq_true rfl⟩) hS (fun q _ h => hFc q h) hFc (fun z7 u t H6 locs ht hvm hw hB hz1 hk1 hS => ?_)
  have hw : r3 = z7 := hw.symm
  subst hw
  obtain ⟨hP, hD⟩ := aft_ (Wr := wM_ m0 m_g m_kept m_spare m_was m_text m_told cI mg mkept mspare mhasKept mwas mwasMany manew 0 mtext mlength mspot mvalue merror mtold mtolds) (Wc' := []) (W2 := wM_ m0 m_g m_kept m_spare m_was m_text m_told cI mg mkept mspare mhasKept mwas mwasMany manew 0 mtext mlength mspot mvalue merror mtold mtolds) hP hD [] [0, 1, 2, 3, 4, 5, 6] [0, 1, 2, 3, 4, 5, 6] rfl rfl (by decide) (by decide) (by decide) hk1 hFc hB ht rfl
  refine lv_if_ne (tgt := 27) hx hb dX6_fact_18 (by decide) (fun c8 => ?_) (fun c8 => ?_)
  · have hf := ite_F c8 hf
    refine lv_iload_n hx hb dX6_fact_27 rfl (lv_at hl 2 rfl) ?_
    refine lv_iconst (v := 0) hx hb dX6_fact_28 (by decide) ?_
    refine lv_iconst (v := 4) hx hb dX6_fact_29 (by decide) ?_
    obtain ⟨R10, g11, hf⟩ := bd_B hf
    obtain ⟨r9, rfl⟩ : ∃ z, z = R10 := ⟨_, rfl⟩
    have hPc := hP.sub (ws' := []) [] rfl
    have hDc := hD.sub (ws' := []) [] (by decide) rfl
    have hFc := va_free (wc := []) hD hS hA [] rfl
    refine va_calli (va_runS (As := [.int a2, .int 0, .int 4]) (rest := []) ⟨hx, hb, hml, hown, hts⟩ (c_X6_in l dC dI cI cZ cC cJ cD H6.size a2 (0 : Int32) (4 : Int32) r9 g11) (cwS 3 hts gX6_fact_X6_in rfl rfl rfl hs_X6_in ⟨Nat.le_of_ble_eq_true rfl, Nat.le_of_ble_eq_true rfl⟩) (preS_ hPc hK hDc rfl) rfl rfl hl.1 rfl (lv_room (Nat.le_of_ble_eq_true rfl)) dX6_fact_30 ⟨Nat.le_of_ble_eq_true rfl, Nat.le_of_ble_eq_true rfl⟩) hS (fun q _ h => hFc q h) hFc (fun z13 u t H12 locs ht hvm hw hB hz1 hk1 hS => ?_)
    have hw : r9 = z13 := hw.symm
    subst hw
    obtain ⟨hP, hD⟩ := aft_ (Wr := wM_ m0 m_g m_kept m_spare m_was m_text m_told cI mg mkept mspare mhasKept mwas mwasMany manew 0 mtext mlength mspot mvalue merror mtold mtolds) (Wc' := []) (W2 := wM_ m0 m_g m_kept m_spare m_was m_text m_told cI mg mkept mspare mhasKept mwas mwasMany manew 0 mtext mlength mspot mvalue merror mtold mtolds) hP hD [] [0, 1, 2, 3, 4, 5, 6] [0, 1, 2, 3, 4, 5, 6] rfl rfl (by decide) (by decide) (by decide) hk1 hFc hB ht rfl
    refine lv_if_eq (tgt := 45) hx hb dX6_fact_33 (by decide) (fun c14 => ?_) (fun c14 => ?_)
    · have hf := ite_T c14 hf
      refine lv_aload_n hx hb dX6_fact_45 rfl (lv_at hl 0 rfl) ?_
      refine lv_iconst (v := 2) hx hb dX6_fact_46 (by decide) ?_
      obtain ⟨R31, g32, hf⟩ := bd_B hf
      obtain ⟨r15, ⟨mg16, mk17, ms18, mh19, mw20, mw21, ma22, mt23, mt24, ml25, ms26, mv27, me28, mt29, mt30⟩⟩ := R31
      dsimp only at hf
      have hPc := hP
      have hDc := hD
      have hFc := va_free (wc := wM_ m0 m_g m_kept m_spare m_was m_text m_told cI mg mkept mspare mhasKept mwas mwasMany manew 0 mtext mlength mspot mvalue merror mtold mtolds) hD hS hA [0, 1, 2, 3, 4, 5, 6] rfl
      refine va_calli (va_runV (As := [.int 2]) (rest := []) ⟨hx, hb, hml, hown, hts⟩ (c_X6_fails l dC dI cI cZ cC cJ cD m0 m_g m_kept m_spare m_was m_text m_told H12.size mg mkept mspare mhasKept mwas mwasMany manew (0 : Int32) mtext mlength mspot mvalue merror mtold mtolds (2 : Int32) (r15, (mg16, mk17, ms18, mh19, mw20, mw21, ma22, mt23, mt24, ml25, ms26, mv27, me28, mt29, mt30)) g32) (cwV 1 hts gX6_fact_X6_fails rfl rfl rfl hs_X6_fails ⟨Nat.le_of_ble_eq_true rfl, Nat.le_of_ble_eq_true rfl⟩) (preV_ (ci := 8) (q0 := 0) hPc hK hDc rfl rfl rfl rfl) rfl rfl hl.1 rfl (lv_room (Nat.le_of_ble_eq_true rfl)) dX6_fact_47 ⟨Nat.le_of_ble_eq_true rfl, Nat.le_of_ble_eq_true rfl⟩) hS (fun q _ h => hFc q h) hFc (fun z34 u t H33 locs ht hvm hw hB hz1 hk1 hS => ?_)
      have hw : r15 = z34 := hw.symm
      subst hw
      obtain ⟨hP, hD⟩ := aft_ (Wr := []) (Wc' := wM_ m0 m_g m_kept m_spare m_was m_text m_told cI mg16 mk17 ms18 mh19 mw20 mw21 ma22 mt23 mt24 ml25 ms26 mv27 me28 mt29 mt30) (W2 := wM_ m0 m_g m_kept m_spare m_was m_text m_told cI mg16 mk17 ms18 mh19 mw20 mw21 ma22 mt23 mt24 ml25 ms26 mv27 me28 mt29 mt30) hP hD [0, 1, 2, 3, 4, 5, 6] [] [0, 1, 2, 3, 4, 5, 6] rfl rfl (by decide) (by decide) (by decide) hk1 hFc hB ht rfl
      have hR := Option.some.inj hf
      subst hR
      exact W.iret (v := r15) hx hb hr (fun t ht hW => ⟨⟨r15, (), rfl, rfl, by rw [ht]; exact hP, va_K.moved hW.alike hK, hD⟩, hS.F ht⟩) hS.2.2 dX6_fact_50
    · have hf := ite_F c14 hf
      refine lv_aload_n hx hb dX6_fact_36 rfl (lv_at hl 0 rfl) ?_
      refine lv_iload_n hx hb dX6_fact_37 rfl (lv_at hl 1 rfl) ?_
      refine lv_iload_n hx hb dX6_fact_38 rfl (lv_at hl 2 rfl) ?_
      obtain ⟨R36, g37, hf⟩ := bd_B hf
      obtain ⟨r35, rfl⟩ : ∃ z, z = R36 := ⟨_, rfl⟩
      have hPc := hP
      have hDc := hD
      have hFc := va_free (wc := wM_ m0 m_g m_kept m_spare m_was m_text m_told cI mg mkept mspare mhasKept mwas mwasMany manew 0 mtext mlength mspot mvalue merror mtold mtolds) hD hS hA [0, 1, 2, 3, 4, 5, 6] rfl
      refine va_calli (va_runV (As := [.int a1, .int a2]) (rest := []) ⟨hx, hb, hml, hown, hts⟩ (c_X6_factTold l dC dI cI cZ cC cJ cD m0 m_g m_kept m_spare m_was m_text m_told H12.size mg mkept mspare mhasKept mwas mwasMany manew (0 : Int32) mtext mlength mspot mvalue merror mtold mtolds a1 a2 r35 g37) (cwV 2 hts gX6_fact_X6_factTold rfl rfl rfl hs_X6_factTold ⟨Nat.le_of_ble_eq_true rfl, Nat.le_of_ble_eq_true rfl⟩) (preV_ (ci := 8) (q0 := 0) hPc hK hDc rfl rfl rfl rfl) rfl rfl hl.1 rfl (lv_room (Nat.le_of_ble_eq_true rfl)) dX6_fact_39 ⟨Nat.le_of_ble_eq_true rfl, Nat.le_of_ble_eq_true rfl⟩) hS (fun q _ h => hFc q h) hFc (fun z39 u t H38 locs ht hvm hw hB hz1 hk1 hS => ?_)
      have hw : r35 = z39 := hw.symm
      subst hw
      obtain ⟨hP, hD⟩ := aft_ (Wr := []) (Wc' := wM_ m0 m_g m_kept m_spare m_was m_text m_told cI mg mkept mspare mhasKept mwas mwasMany manew 0 mtext mlength mspot mvalue merror mtold mtolds) (W2 := wM_ m0 m_g m_kept m_spare m_was m_text m_told cI mg mkept mspare mhasKept mwas mwasMany manew 0 mtext mlength mspot mvalue merror mtold mtolds) hP hD [0, 1, 2, 3, 4, 5, 6] [] [0, 1, 2, 3, 4, 5, 6] rfl rfl (by decide) (by decide) (by decide) hk1 hFc hB ht rfl
      refine lv_goto (tgt := 50) hx hb dX6_fact_42 (by decide) ?_
      have hR := Option.some.inj hf
      subst hR
      exact W.iret (v := r35) hx hb hr (fun t ht hW => ⟨⟨r35, (), rfl, rfl, by rw [ht]; exact hP, va_K.moved hW.alike hK, hD⟩, hS.F ht⟩) hS.2.2 dX6_fact_50
  · have hf := ite_T c8 hf
    refine lv_aload_n hx hb dX6_fact_21 rfl (lv_at hl 0 rfl) ?_
    refine lv_iconst (v := 1) hx hb dX6_fact_22 (by decide) ?_
    obtain ⟨R56, g57, hf⟩ := bd_B hf
    obtain ⟨r40, ⟨mg41, mk42, ms43, mh44, mw45, mw46, ma47, mt48, mt49, ml50, ms51, mv52, me53, mt54, mt55⟩⟩ := R56
    dsimp only at hf
    have hPc := hP
    have hDc := hD
    have hFc := va_free (wc := wM_ m0 m_g m_kept m_spare m_was m_text m_told cI mg mkept mspare mhasKept mwas mwasMany manew 0 mtext mlength mspot mvalue merror mtold mtolds) hD hS hA [0, 1, 2, 3, 4, 5, 6] rfl
    refine va_calli (va_runV (As := [.int 1]) (rest := []) ⟨hx, hb, hml, hown, hts⟩ (c_X6_fails l dC dI cI cZ cC cJ cD m0 m_g m_kept m_spare m_was m_text m_told H6.size mg mkept mspare mhasKept mwas mwasMany manew (0 : Int32) mtext mlength mspot mvalue merror mtold mtolds (1 : Int32) (r40, (mg41, mk42, ms43, mh44, mw45, mw46, ma47, mt48, mt49, ml50, ms51, mv52, me53, mt54, mt55)) g57) (cwV 1 hts gX6_fact_X6_fails rfl rfl rfl hs_X6_fails ⟨Nat.le_of_ble_eq_true rfl, Nat.le_of_ble_eq_true rfl⟩) (preV_ (ci := 8) (q0 := 0) hPc hK hDc rfl rfl rfl rfl) rfl rfl hl.1 rfl (lv_room (Nat.le_of_ble_eq_true rfl)) dX6_fact_23 ⟨Nat.le_of_ble_eq_true rfl, Nat.le_of_ble_eq_true rfl⟩) hS (fun q _ h => hFc q h) hFc (fun z59 u t H58 locs ht hvm hw hB hz1 hk1 hS => ?_)
    have hw : r40 = z59 := hw.symm
    subst hw
    obtain ⟨hP, hD⟩ := aft_ (Wr := []) (Wc' := wM_ m0 m_g m_kept m_spare m_was m_text m_told cI mg41 mk42 ms43 mh44 mw45 mw46 ma47 mt48 mt49 ml50 ms51 mv52 me53 mt54 mt55) (W2 := wM_ m0 m_g m_kept m_spare m_was m_text m_told cI mg41 mk42 ms43 mh44 mw45 mw46 ma47 mt48 mt49 ml50 ms51 mv52 me53 mt54 mt55) hP hD [0, 1, 2, 3, 4, 5, 6] [] [0, 1, 2, 3, 4, 5, 6] rfl rfl (by decide) (by decide) (by decide) hk1 hFc hB ht rfl
    have hR := Option.some.inj hf
    subst hR
    exact W.iret (v := r40) hx hb hr (fun t ht hW => ⟨⟨r40, (), rfl, rfl, by rw [ht]; exact hP, va_K.moved hW.alike hK, hD⟩, hS.F ht⟩) hS.2.2 dX6_fact_26
theorem hs_X6_fact : yX6_fact.cls = RX6 ∧ yX6_fact.cls ≠ "java/lang/invoke/MethodHandle" ∧ yX6_fact.cls ≠ "java/lang/invoke/VarHandle" ∧ (parseMethodDescriptor yX6_fact.desc).map (fun d => d.parameters.length) = some 2 := by decide +kernel
